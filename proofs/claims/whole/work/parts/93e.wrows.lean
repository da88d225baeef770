/-! the reference, line by line: rows that are told, due and put -/
def pyDz (h : jw_H) (m : Int) (due : List (List Int)) : Prop := pxM h 587 72 = m ∧ (due.length : Int) = min m 41 ∧ pxOk due ∧ pyRs h 388 due
theorem pyDz.keep {P : Nat → Nat → Prop} {h h1 : jw_H} {m : Int} {due : List (List Int)} (D : pyDz h m due) (V : pyV P h h1) (n : ∀ k f, (k = 592 ∧ 12028 ≤ f ∧ f < 13299) ∨ (k = 587 ∧ f = 72) → ¬ P k f) : pyDz h1 m due := by
  obtain ⟨e, l, ok, R⟩ := D
  exact ⟨by rw [V.m (n _ _ (by omega))]; exact e, l, ok, R.keep V (by omega) ok (fun f _ _ => n _ _ (by omega))⟩
theorem pyTake_app {α : Type} (a b : List α) (n : Nat) : (a.take n ++ b).take n = (a ++ b).take n := by
  by_cases c : a.length ≤ n
  · rw [List.take_of_length_le c]
  · rw [List.take_append_of_le_length (by rw [List.length_take]; omega), List.take_append_of_le_length (by omega), List.take_take, Nat.min_self]
theorem pyDue_cons {due : List (List Int)} {r : List Int} {rs : List (List Int)} : pxBDue (pxBDue due [r]) rs = pxBDue due (r :: rs) := by
  unfold pxBDue
  rw [pyTake_app, List.append_assoc]
  rfl
theorem pyDue_nil {due : List (List Int)} (l : due.length ≤ 41) : pxBDue due [] = due := by
  unfold pxBDue
  rw [List.append_nil, List.take_of_length_le l]
def pyQdt : Nat → Nat → Prop := fun k f => pyQm k f ∨ pyQR 431 431 k f ∨ pyQdu k f
set_option maxHeartbeats 8000000 in
theorem n_dueTold_b11 {s : List Int} {t : Int} : ∀ (m N : Nat) (h : jw_H) (p k c : Int) (due : List (List Int)), t = k + (pxTold s m p).length → m < N → 0 ≤ p → p ≤ s.length + 1 → (m ≠ 0 → p ≤ s.length) → 0 ≤ k → k + (m : Int) ≤ 1000 → pyS h → pyG h s → pyDz h c due → 0 ≤ c → c + (pxTold s m p).length ≤ 100000 → pxOk (pxTold s m p) →
    pxW (f_X12_dueTold_b11 N h 587 (pxJ t) (pxJ p) (pxJ k)) fun v h' => pyV pyQdt h h' ∧ v = pxJ 0 ∧ pyDz h' (c + (pxTold s m p).length) (pxBDue due (pxTold s m p)) := by
  intro m
  induction m with
  | zero =>
    intro N h p k c due ht hN p0 p1 pm k0 k1 H G D c0 c1 ok
    obtain ⟨N, rfl, -⟩ := px_fu hN
    have e0 : pxTold s 0 p = [] := rfl
    rw [e0] at ht ⊢
    simp only [List.length_nil] at ht ⊢
    rw [u_X12_dueTold_b11]
    unfold g_X12_dueTold_b11
    rw [show t = k by omega, if_pos (Int32.le_refl _), pyDue_nil (by have := D.2.1; omega), show c + ((0 : Nat) : Int) = c by omega]
    exact pxW_some.mpr ⟨pyV.rfl, rfl, D⟩
  | succ m ih =>
    intro N h p k c due ht hN p0 p1 pm k0 k1 H G D c0 c1 ok
    obtain ⟨N, rfl, hN⟩ := px_fu hN
    have l60 := G.2.1.1
    have p1' := pm (by omega)
    have sl := pxSpan_le p0 p1'
    have eT : pxTold s (m + 1) p = pxSpan s p :: (if pxP s (p + (pxSpan s p).length) = 124 then pxTold s m (p + (pxSpan s p).length + 1) else []) := rfl
    rw [eT] at ht c1 ok ⊢
    simp only [List.length_cons] at ht c1 ⊢
    have okr := ok (pxSpan s p) (by simp)
    have okr' : pxOk (if pxP s (p + (pxSpan s p).length) = 124 then pxTold s m (p + (pxSpan s p).length + 1) else []) := fun r hr => ok r (by simp [hr])
    rw [u_X12_dueTold_b11]
    unfold g_X12_dueTold_b11
    have tb := pyTold_61 (s := s) m (p + (pxSpan s p).length + 1)
    have tk : t ≤ 2000000 := by omega
    rw [if_neg (show ¬ (pxJ t ≤ pxJ k) from fun z => by have := (pxJ_le (a := t) (b := k) (by omega) (by omega) (by omega) (by omega)).mp z; omega), pyN_rc H, px_bs]
    refine pxW_b2 (n_makeTold H G p0 p1') fun v h1 q => ?_
    obtain ⟨rfl, V1, M1⟩ := q
    have H1 := V1.s H
    rw [pyN_rc H1, px_bs, show (431 : Int32) = pxJ 431 from rfl]
    refine pxW_b2 (n_lays H1 M1 (i := 431) (by omega) (by omega)) fun v h2 q => ?_
    obtain ⟨rfl, V2, R2⟩ := q
    have R2 := R2 okr.1
    have H2 := V2.s H1
    have D2 : pyDz h2 c due := (D.keep V1 (fun k f z => by unfold pyQm; omega)).keep V2 (fun k f z => by unfold pyQR; omega)
    rw [pyN_rc H2, px_bs]
    refine pxW_b2 (n_due H2 D2.1 c0 (by omega) D2.2.1 D2.2.2.1 D2.2.2.2 R2 okr (by omega) (by omega) (by omega)) fun _ h3 q => ?_
    obtain ⟨V3, e72, l3, ok3, RS3⟩ := q
    have V03 : pyV pyQdt h h3 := ((V1.mono (fun k f z => Or.inl z)).trans (V2.mono (fun k f z => Or.inr (Or.inl z)))).trans (V3.mono (fun k f z => Or.inr (Or.inr z)))
    have H3 := V3.s H2
    have G3 : pyG h3 s := G.keep V03 (by unfold pyQdt pyQm pyQR pyQdu; omega) (fun f _ => by unfold pyQdt pyQm pyQR pyQdu; omega)
    have D3 : pyDz h3 (c + 1) (pxBDue due [pxSpan s p]) := ⟨e72, l3, ok3, RS3⟩
    rw [show pxJ (p + ((pxSpan s p).length : Int)) + (1 : Int32) = pxJ (p + (pxSpan s p).length + 1) from pxJ_add _ 1, show pxJ k + (1 : Int32) = pxJ (k + 1) from pxJ_add _ 1]
    by_cases d : pxP s (p + (pxSpan s p).length) = 124
    · rw [if_pos d] at ht c1 okr' ⊢
      have pl := (pxP_lt (s := s) (p := p + (pxSpan s p).length) (by omega)).2
      refine pxW.mono (ih N h3 (p + (pxSpan s p).length + 1) (k + 1) (c + 1) _ (by omega) (by omega) (by omega) (by omega) (fun _ => by omega) (by omega) (by omega) H3 G3 D3 (by omega) (by omega) okr') fun v h' q => ?_
      obtain ⟨V4, rfl, D4⟩ := q
      rw [pyDue_cons] at D4
      refine ⟨V03.trans V4, rfl, ?_⟩
      rw [show c + (((pxTold s m (p + ((pxSpan s p).length : Int) + 1)).length + 1 : Nat) : Int) = c + 1 + ((pxTold s m (p + ((pxSpan s p).length : Int) + 1)).length : Int) by omega]
      exact D4
    · rw [if_neg d] at ht ⊢
      simp only [List.length_nil] at ht ⊢
      obtain ⟨N, rfl⟩ : ∃ N', N = N' + 1 := ⟨N - 1, by omega⟩
      rw [u_X12_dueTold_b11]
      unfold g_X12_dueTold_b11
      rw [show t = k + 1 by omega, if_pos (Int32.le_refl _)]
      exact pxW_some.mpr ⟨V03, rfl, D3⟩
def pyQpT : Nat → Nat → Prop := fun k f => pyQm k f ∨ pyQR 431 431 k f ∨ pyQpn k f
set_option maxHeartbeats 8000000 in
theorem n_putTold_b8 {s : List Int} {t : Int} {rest : List Int} : ∀ (m N : Nat) (h : jw_H) (p k : Int) (F : pxFh), t = k + (pxTold s m p).length → m + 1 < N → 0 ≤ p → p ≤ s.length + 1 → (m ≠ 0 → p ≤ s.length) → 0 ≤ k → k + (m : Int) ≤ 1000 → m ≤ 61 → pyS h → pyG h s → pyNw h F.1 → pxM h 587 17 = F.2.2 → 0 ≤ F.2.2 → F.2.2 - F.1.length ≤ 2000000 → pyMk h F.2.1 F.2.2 (pxIds F.1 ++ rest) → pxOk (pxTold s m p) →
    pxW (f_X12_putTold_b8 N h 587 (pxJ t) (pxJ p) (pxJ 0) (pxJ k)) fun v h' => pyV pyQpT h h' ∧ (pxBPut (pxTold s m p) F = none → v = pxJ 4) ∧ ∀ F', pxBPut (pxTold s m p) F = some F' → v = pxJ 0 ∧ pyNw h' F'.1 ∧ pxM h' 587 17 = F'.2.2 ∧ F'.2.2 - F'.1.length = F.2.2 - F.1.length ∧ F.2.2 ≤ F'.2.2 ∧ pyMk h' F'.2.1 F'.2.2 (pxIds F'.1 ++ rest) := by
  intro m
  induction m with
  | zero =>
    intro N h p k F ht hN p0 p1 pm k0 k1 m61 H G N0 e17 n0 n1 M ok
    obtain ⟨N, rfl, -⟩ := px_fu hN
    have e0 : pxTold s 0 p = [] := rfl
    rw [e0] at ht ⊢
    simp only [List.length_nil] at ht
    rw [u_X12_putTold_b8]
    unfold g_X12_putTold_b8
    rw [show t = k by omega, if_pos (Int32.le_refl _)]
    refine pxW_some.mpr ⟨pyV.rfl, fun z => (by cases z), fun F' z => ?_⟩
    cases z
    exact ⟨rfl, N0, e17, rfl, Int.le_refl _, M⟩
  | succ m ih =>
    intro N h p k F ht hN p0 p1 pm k0 k1 m61 H G N0 e17 n0 n1 M ok
    obtain ⟨N, rfl, hN⟩ := px_fu hN
    have l60 := G.2.1.1
    have l40 := N0.2.1
    have p1' := pm (by omega)
    have sl := pxSpan_le p0 p1'
    have eT : pxTold s (m + 1) p = pxSpan s p :: (if pxP s (p + (pxSpan s p).length) = 124 then pxTold s m (p + (pxSpan s p).length + 1) else []) := rfl
    have tb0 := pyTold_61 (s := s) (m + 1) p
    rw [eT] at ht ok tb0 ⊢
    simp only [List.length_cons] at ht tb0
    have okr := ok (pxSpan s p) (by simp)
    have okr' : pxOk (if pxP s (p + (pxSpan s p).length) = 124 then pxTold s m (p + (pxSpan s p).length + 1) else []) := fun r hr => ok r (by simp [hr])
    rw [u_X12_putTold_b8]
    unfold g_X12_putTold_b8
    rw [if_neg (show ¬ (pxJ t ≤ pxJ k) from fun z => by have := (pxJ_le (a := t) (b := k) (by omega) (by omega) (by omega) (by omega)).mp z; omega), if_pos (show pxJ 0 = 0 from rfl), pyN_rc H, px_bs]
    refine pxW_b2 (n_makeTold H G p0 p1') fun v h1 q => ?_
    obtain ⟨rfl, V1, M1⟩ := q
    have H1 := V1.s H
    rw [pyN_rc H1, px_bs, show (431 : Int32) = pxJ 431 from rfl]
    refine pxW_b2 (n_lays H1 M1 (i := 431) (by omega) (by omega)) fun v h2 q => ?_
    obtain ⟨rfl, V2, R2⟩ := q
    have R2 := R2 okr.1
    have H2 := V2.s H1
    have V02 : pyV pyQpT h h2 := (V1.mono (fun k f z => Or.inl z)).trans (V2.mono (fun k f z => Or.inr (Or.inl z)))
    have N2 : pyNw h2 F.1 := (N0.keep V1 (fun k f z => by unfold pyQm; omega)).keep V2 (fun k f z => by unfold pyQR; omega)
    have f17 : pxM h2 587 17 = F.2.2 := by rw [V2.m (by unfold pyQR; omega), V1.m (by unfold pyQm; omega)]; exact e17
    have M2 := (M.keep V1 (fun f _ => by unfold pyQm; omega)).keep V2 (fun f _ => by unfold pyQR; omega)
    rw [pyN_rc H2, px_bs]
    refine pxW_b2 (n_putNew H2 N2 R2 okr (by omega) (by omega) (by omega) f17 n0 (by omega)) fun v h3 q => ?_
    obtain ⟨V3, rfl, N3⟩ := q
    have V03 : pyV pyQpT h h3 := V02.trans (V3.mono (fun k f z => Or.inr (Or.inr z)))
    have H3 := V3.s H2
    have G3 : pyG h3 s := G.keep V03 (by unfold pyQpT pyQm pyQR pyQpn pyQpt; omega) (fun f _ => by unfold pyQpT pyQm pyQR pyQpn pyQpt; omega)
    rw [show pxJ (p + ((pxSpan s p).length : Int)) + (1 : Int32) = pxJ (p + (pxSpan s p).length + 1) from pxJ_add _ 1, show pxJ k + (1 : Int32) = pxJ (k + 1) from pxJ_add _ 1]
    by_cases c : F.1.length < 40
    · obtain ⟨N3, g17⟩ := N3 c
      have en : ∀ R : List (List Int), pxBPut (pxSpan s p :: R) F = pxBPut R (F.1 ++ [(F.2.2, pxSpan s p)], F.2.1, F.2.2 + 1) := by
        intro R
        show (if F.1.length < 40 then pxBPut R (F.1 ++ [(F.2.2, pxSpan s p)], F.2.1, F.2.2 + 1) else none) = _
        rw [if_pos c]
      have M3 : pyMk h3 F.2.1 (F.2.2 + 1) (pxIds (F.1 ++ [(F.2.2, pxSpan s p)]) ++ rest) := by
        have m1 := (M2.keep V3 (fun f _ => by unfold pyQpn pyQpt; omega)).new n0
        refine m1.perm ?_
        unfold pxIds
        rw [List.map_append, List.append_assoc]
        exact List.perm_middle.symm
      have el : (F.1 ++ [(F.2.2, pxSpan s p)]).length = F.1.length + 1 := by rw [List.length_append]; rfl
      rw [if_pos c, en]
      by_cases d : pxP s (p + (pxSpan s p).length) = 124
      · rw [if_pos d] at ht okr' ⊢
        have pl := (pxP_lt (s := s) (p := p + (pxSpan s p).length) (by omega)).2
        refine pxW.mono (ih N h3 (p + (pxSpan s p).length + 1) (k + 1) (F.1 ++ [(F.2.2, pxSpan s p)], F.2.1, F.2.2 + 1) (by omega) (by omega) (by omega) (by omega) (fun _ => by omega) (by omega) (by omega) (by omega) H3 G3 N3 g17 (by show 0 ≤ F.2.2 + 1; omega) (by show F.2.2 + 1 - ((F.1 ++ [(F.2.2, pxSpan s p)]).length : Int) ≤ 2000000; omega) M3 okr') fun v h' q => ?_
        obtain ⟨V4, q1, q2⟩ := q
        refine ⟨V03.trans V4, q1, fun F' z => ?_⟩
        obtain ⟨a1, a2, a3, a4, a5, a6⟩ := q2 F' z
        have a5' : F.2.2 + 1 ≤ F'.2.2 := a5
        refine ⟨a1, a2, a3, ?_, by omega, a6⟩
        have a4' : F'.2.2 - F'.1.length = F.2.2 + 1 - ((F.1 ++ [(F.2.2, pxSpan s p)]).length : Int) := a4
        omega
      · rw [if_neg d] at ht ⊢
        simp only [List.length_nil] at ht
        obtain ⟨N, rfl⟩ : ∃ N', N = N' + 1 := ⟨N - 1, by omega⟩
        rw [u_X12_putTold_b8]
        unfold g_X12_putTold_b8
        rw [show t = k + 1 by omega, if_pos (Int32.le_refl _)]
        refine pxW_some.mpr ⟨V03, fun z => (by cases z), fun F' z => ?_⟩
        cases z
        exact ⟨rfl, N3, g17, by show F.2.2 + 1 - ((F.1 ++ [(F.2.2, pxSpan s p)]).length : Int) = _; omega, by show F.2.2 ≤ F.2.2 + 1; omega, M3⟩
    · have en : ∀ R : List (List Int), pxBPut (pxSpan s p :: R) F = none := by
        intro R
        show (if F.1.length < 40 then pxBPut R (F.1 ++ [(F.2.2, pxSpan s p)], F.2.1, F.2.2 + 1) else none) = _
        rw [if_neg c]
      rw [if_neg c, en]
      obtain ⟨N, rfl⟩ : ∃ N', N = N' + 1 := ⟨N - 1, by omega⟩
      rw [u_X12_putTold_b8]
      unfold g_X12_putTold_b8
      by_cases y : pxJ t ≤ pxJ (k + 1)
      · rw [if_pos y]
        exact pxW_some.mpr ⟨V03, fun _ => rfl, fun F' z => by cases z⟩
      · rw [if_neg y, if_neg (show ¬ (pxJ 4 = 0) by decide)]
        exact pxW_some.mpr ⟨V03, fun _ => rfl, fun F' z => by cases z⟩
theorem n_putTold {h : jw_H} {s : List Int} {p : Int} {F : pxFh} {rest : List Int} (H : pyS h) (G : pyG h s) (N0 : pyNw h F.1) (p0 : 0 ≤ p) (p1 : p ≤ s.length) (e17 : pxM h 587 17 = F.2.2) (n0 : 0 ≤ F.2.2) (n1 : F.2.2 - F.1.length ≤ 2000000) (M : pyMk h F.2.1 F.2.2 (pxIds F.1 ++ rest)) (ok : pxOk (pxTold s 61 p)) :
    pxW (f_X12_putTold h 587 (pxJ p) (pxJ ((pxTold s 61 p).length : Int))) fun v h' => pyV pyQpT h h' ∧ (pxBPut (pxTold s 61 p) F = none → v = pxJ 4) ∧ ∀ F', pxBPut (pxTold s 61 p) F = some F' → v = pxJ 0 ∧ pyNw h' F'.1 ∧ pxM h' 587 17 = F'.2.2 ∧ F'.2.2 - F'.1.length = F.2.2 - F.1.length ∧ F.2.2 ≤ F'.2.2 ∧ pyMk h' F'.2.1 F'.2.2 (pxIds F'.1 ++ rest) := by
  unfold f_X12_putTold
  rw [show (0 : Int32) = pxJ 0 from rfl]
  exact n_putTold_b8 61 jw_FU h p 0 F (by omega) (by unfold jw_FU; omega) p0 (by omega) (fun _ => p1) (by omega) (by omega) (by omega) H G N0 e17 n0 n1 M ok
set_option maxHeartbeats 8000000 in
theorem n_dueRows_b2 {rs : List (List Int)} {b t : Int} (ok : pxOk rs) (b0 : 0 ≤ b) (b1 : b + t ≤ 388) (et : t = rs.length) : ∀ (d N : Nat) (h : jw_H) (k c : Int) (due : List (List Int)), k + d = t → d < N → 0 ≤ k → pyS h → pyRs h b rs → pyDz h c due → 0 ≤ c → c + d ≤ 100000 →
    pxW (f_X12_dueRows_b2 N h 587 (pxJ b) (pxJ t) (pxJ k)) fun v h' => pyV pyQdu h h' ∧ v = pxJ 0 ∧ pyDz h' (c + d) (pxBDue due (rs.drop k.toNat)) := by
  intro d
  induction d with
  | zero =>
    intro N h k c due hd hN k0 H RS D c0 c1
    obtain ⟨N, rfl, -⟩ := px_fu hN
    rw [u_X12_dueRows_b2]
    unfold g_X12_dueRows_b2
    rw [show t = k by omega, if_pos (Int32.le_refl _), List.drop_eq_nil_of_le (by omega), pyDue_nil (by have := D.2.1; omega), show c + ((0 : Nat) : Int) = c by omega]
    exact pxW_some.mpr ⟨pyV.rfl, rfl, D⟩
  | succ d ih =>
    intro N h k c due hd hN k0 H RS D c0 c1
    obtain ⟨N, rfl, hN⟩ := px_fu hN
    have rk := RS (k + 1) (by omega) (by omega)
    rw [show b + (k + 1) - 1 = b + k by omega] at rk
    have ed : rs.drop k.toNat = pxRw rs (k + 1) :: rs.drop (k + 1).toNat := by
      have := pxG_dropc (d := []) (l := rs) (x := k + 1) (by omega) (by omega)
      rw [show k + 1 - 1 = k by omega] at this
      exact this
    rw [u_X12_dueRows_b2]
    unfold g_X12_dueRows_b2
    rw [if_neg (show ¬ (pxJ t ≤ pxJ k) from fun z => by have := (pxJ_le (a := t) (b := k) (by omega) (by omega) (by omega) (by omega)).mp z; omega), pyN_rc H, px_bs, pxJ_add]
    refine pxW_b2 (n_due H D.1 c0 (by omega) D.2.1 D.2.2.1 D.2.2.2 rk (pxRw_or ok _) (by omega) (by omega) (by omega)) fun _ h3 q => ?_
    obtain ⟨V3, e72, l3, ok3, RS3⟩ := q
    rw [show pxJ k + (1 : Int32) = pxJ (k + 1) from pxJ_add _ 1]
    refine pxW.mono (ih N h3 (k + 1) (c + 1) (pxBDue due [pxRw rs (k + 1)]) (by omega) (by omega) (by omega) (V3.s H) (RS.keep V3 b0 ok (fun f _ _ => by unfold pyQdu; omega)) ⟨e72, l3, ok3, RS3⟩ (by omega) (by omega)) fun v h' q => ?_
    obtain ⟨V4, rfl, D4⟩ := q
    rw [pyDue_cons, ← ed] at D4
    refine ⟨V3.trans V4, rfl, ?_⟩
    rw [show c + ((d + 1 : Nat) : Int) = c + 1 + (d : Int) by omega]
    exact D4
