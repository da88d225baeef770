/-! the reference: orders that steer -/
def pyQGs : Nat → Nat → Prop := fun k f => (k = 592 ∧ f < 11997) ∨ (k = 593 ∧ f < 40) ∨ (k = 596 ∧ f < 5) ∨ (k = 597 ∧ f < 4) ∨ k = 599 ∨ (k = 587 ∧ (f = 12 ∨ f = 14 ∨ f = 15 ∨ f = 16 ∨ f = 17 ∨ f = 22 ∨ f = 44 ∨ f = 45))
theorem pyGs.keep {P : Nat → Nat → Prop} {nB : Int} {h h1 : jw_H} {s : List Int} {T : pxTx} {S : pxSto} {rep : Bool} {came : Int} (W : pyGs nB h s T S rep came) (V : pyV P h h1) (n : ∀ k f, pyQGs k f → ¬ P k f) : pyGs nB h1 s T S rep came := by
  obtain ⟨H, G, X, Y, I, e44, e45, ca0, ca1, nb, nB1⟩ := W
  exact ⟨V.s H, G.keep V (n _ _ (by unfold pyQGs; omega)) (fun f _ => n _ _ (by unfold pyQGs; omega)), X.keep V (fun k f z => n _ _ (by unfold pyQGs; omega)), Y.keep V (fun k f z => n _ _ (by unfold pyQGs; omega)), I, by rw [V.m (n _ _ (by unfold pyQGs; omega))]; exact e44, by rw [V.m (n _ _ (by unfold pyQGs; omega))]; exact e45, ca0, ca1, nb, nB1⟩
def pyQst : Nat → Nat → Prop := fun k f => pyQg2 k f ∨ pyQj k f ∨ (k = 587 ∧ (f = 16 ∨ f = 44))
/-- what an order that steers comes to -/
def pyStt (nB : Int) (s : List Int) (L : List (Int × List Int)) (came : Int) (S : pxSto) (R : Int × Nat × pxTx × Bool) (v : Int32) (h' : jw_H) : Prop :=
  v = pxJ R.1 ∧ (R.1 = 0 → pxM h' 587 64 = pyAp s L R.2.1 ∧ ∃ rep2, pyGs nB h' s R.2.2.1 S rep2 came ∧ (rep2 = R.2.2.2 ∨ L.length ≤ R.2.1))
theorem py32 {a b : Int} (h : a ≠ b) (a0 : -1 ≤ a) (a1 : a ≤ 200) (b0 : 0 ≤ b) (b1 : b ≤ 200) : ¬ (pxJ a = pxJ b) := fun z => h ((pxJ_eq (a := a) (b := b) (by omega) (by omega) (by omega) (by omega)).mp z)
theorem pyP_200 {s : List Int} (T : pxTp s) (p : Int) : -1 ≤ pxP s p ∧ pxP s p ≤ 200 := by
  have := pxP_in T p
  omega
theorem pyGs.rep {nB : Int} {h : jw_H} {s : List Int} {T : pxTx} {S : pxSto} {rep : Bool} {came : Int} (W : pyGs nB h s T S rep came) : pyGs nB (jw_setI h 587 44 (pxJ 0)) s T S false came := by
  obtain ⟨H, G, X, Y, I, e44, e45, ca0, ca1, nb, nB1⟩ := W
  have V : pyV (fun k f => k = 587 ∧ f = 44) h (jw_setI h 587 44 (pxJ 0)) := pyV.rfl.set ⟨rfl, rfl⟩
  exact ⟨H, G.keep V (by omega) (fun f _ => by omega), X.keep V (fun k f z => by omega), Y.keep V (fun k f z => by omega), I, by rw [pxM_eq (by omega) (by omega)]; rfl, by rw [V.m (by omega)]; exact e45, ca0, ca1, nb, nB1⟩
/-- a jump -/
theorem n_steer_j {nB : Int} {h0 h : jw_H} {s : List Int} {L : List (Int × List Int)} {came pa : Int} {T : pxTx} {S : pxSto} {rep rep' : Bool} (W : pyGs nB h s T S rep came) (V0 : pyV pyQst h0 h) (A : pyLs s 0 L) (ne : L ≠ []) (len : L.length ≤ 100) (p0 : 0 ≤ pa) (p1 : pa ≤ s.length) (c : pxP s pa = 98 ∨ pxP s pa = 84) (er : pxOn s pa ≠ -1 → rep' = rep) :
    pxW (f_X12_jump h 587 (pxJ pa)) fun v h' => pyV pyQst h0 h' ∧ pyStt nB s L came S (if pxOn s pa = -1 then (0, L.length, T, rep') else (if pxBeh s (pxOn s pa) L 0 = -1 then 6 else 0, (pxBeh s (pxOn s pa) L 0).toNat, T, rep')) v h' := by
  refine pxW.mono (n_jump W.1 W.2.1 A ne len p0 p1) fun v h' q => ?_
  obtain ⟨V, ev, e64⟩ := q
  have ej := pyJp_of A c
  have W' : pyGs nB h' s T S rep came := W.keep V (fun k f z => by unfold pyQGs at z; unfold pyQj pyQp; omega)
  refine ⟨V0.trans (V.mono (fun k f z => Or.inr (Or.inl z))), ?_⟩
  by_cases d : pxOn s pa = -1
  · rw [if_pos d] at ej ⊢
    rw [ej] at ev e64
    rw [if_neg (by omega)] at ev
    exact ⟨ev, fun _ => ⟨by rw [pyAp_end (Nat.le_refl _)]; exact e64, rep, W', Or.inr (Nat.le_refl _)⟩⟩
  · rw [if_neg d] at ej ⊢
    by_cases g : pxBeh s (pxOn s pa) L 0 = -1
    · rw [if_pos g] at ej
      rw [ej, if_pos rfl] at ev
      rw [if_pos g]
      exact ⟨ev, fun z => absurd z (by show ¬ (6 : Int) = 0; decide)⟩
    · rw [if_neg g] at ej
      have ap0 : 0 ≤ pyAp s L (pxBeh s (pxOn s pa) L 0).toNat := by
        cases e : L[(pxBeh s (pxOn s pa) L 0).toNat]? with
        | none => unfold pyAp; rw [e]; show (0 : Int) ≤ s.length; omega
        | some t => rw [pyAp_at e]; exact (pyLs_at L 0 _ t A e).1
      rw [ej] at e64
      rw [ej, if_neg (by omega)] at ev
      rw [if_neg g]
      exact ⟨ev, fun _ => ⟨e64, rep, W', Or.inl (er d).symm⟩⟩
set_option maxHeartbeats 8000000 in
theorem n_steer_b42 {nB : Int} {h0 h : jw_H} {s : List Int} {L : List (Int × List Int)} {j : Nat} {t : Int × List Int} {came f l : Int} {T : pxTx} {S : pxSto} {rep : Bool} (W : pyGs nB h s T S rep came) (V0 : pyV pyQst h0 h) (A : pyLs s 0 L) (ne : L ≠ []) (len : L.length ≤ 100) (e : L[j]? = some t) (ste : pxSteer (pxAc s t.1) = true) (n58 : pxAc s t.1 ≠ 58) (e64 : pxM h 587 64 = pyAp s L (j + 1)) (out : ¬ ((pxWh s t.1).2.2.1 ≠ 0 ∧ (T.2.2.1 < f ∨ l < T.2.2.1))) :
    pxW (g_X12_steer_b42 h 587 (pxJ (pxWh s t.1).2.1)) fun v h' => pyV pyQst h0 h' ∧ pyStt nB s L came S (pxStr s L j t.1 f l T rep) v h' := by
  obtain ⟨t0, t1, ok, -, -, -⟩ := pyLs_at L 0 j t A e
  have wb := pxWh_b (s := s) t0 (by omega)
  have W0 := W
  obtain ⟨H, G, X, Y, I, e44, e45, ca0, ca1, nb, nB1⟩ := W
  have l60 := G.2.1.1
  have hc : pxAc s t.1 = 98 ∨ pxAc s t.1 = 84 ∨ pxAc s t.1 = 113 ∨ pxAc s t.1 = 78 := by
    have := pxSteer_i.mp ste
    omega
  have l40 := I.1
  have i3 := I.2.2.1
  have i4 := I.2.2.2.1
  have pn : pxP s (pxWh s t.1).2.1 ≠ -1 := by unfold pxAc at hc; omega
  have pl := (pxP_lt pn).2
  have m := G.2.2 (pxWh s t.1).2.1 (by omega) pl
  rw [← pxP_E (by omega) pl] at m
  have m : pxM h 599 (pxWh s t.1).2.1.toNat = pxAc s t.1 := m
  unfold pxStr
  rw [if_neg out]
  unfold g_X12_steer_b42
  rw [pyN_g21 H, px_bs, pyN_a599 H (by omega) (by omega), px_bs, m]
  show pxW (if pxJ (pxAc s t.1) = (113 : Int32) then _ else g_X12_steer_b63 h 587 (pxJ (pxWh s t.1).2.1) (pxJ (pxAc s t.1))) _
  have tail : ∀ h1, pxAc s t.1 ≠ 98 → pxAc s t.1 ≠ 84 → g_X12_steer_b92 h1 587 (pxJ (pxWh s t.1).2.1) (pxJ (pxAc s t.1)) = some (pxJ 0, h1) := by
    intro h1 y1 y2
    unfold g_X12_steer_b92
    rw [if_neg (show ¬ (pxJ (pxAc s t.1) = (98 : Int32)) from py32 y1 (by omega) (by omega) (by omega) (by omega)), if_neg (show ¬ (pxJ (pxAc s t.1) = (84 : Int32)) from py32 y2 (by omega) (by omega) (by omega) (by omega))]
    rfl
  by_cases c113 : pxAc s t.1 = 113
  · rw [if_pos (show pxJ (pxAc s t.1) = (113 : Int32) by rw [c113]; rfl)]
    rw [if_neg (show ¬ (pxAc s t.1 = 78) by omega), if_neg (show ¬ (pxAc s t.1 = 58 ∨ (pxAc s t.1 = 84 ∧ rep = false)) by omega), if_pos (show pxAc s t.1 = 113 ∨ pxOn s (pxWh s t.1).2.1 = -1 from Or.inl c113)]
    rw [pyN_gI H, px_bs, G.1, pyN_pI H, px_bs]
    unfold g_X12_steer_b63
    rw [if_neg (show ¬ (pxJ (pxAc s t.1) = (78 : Int32)) from py32 (a := (pxAc s t.1)) (b := 78) (by omega) (by omega) (by omega) (by omega) (by omega)), tail _ (by omega) (by omega)]
    have V1 : pyV (fun k f => k = 587 ∧ f = 64) h (jw_setI h 587 64 (pxJ (s.length : Int))) := pyV.rfl.set ⟨rfl, rfl⟩
    refine pxW_some.mpr ⟨V0.trans (V1.mono (fun k f z => by unfold pyQst pyQj; omega)), rfl, fun _ => ⟨?_, rep, W0.keep V1 (fun k f z => by unfold pyQGs at z; omega), Or.inl rfl⟩⟩
    show pxM (jw_setI h 587 64 (pxJ (s.length : Int))) 587 64 = pyAp s L L.length
    rw [pxM_eq (by omega) (by omega), pyAp_end (Nat.le_refl _)]
  rw [if_neg (show ¬ (pxJ (pxAc s t.1) = (113 : Int32)) from py32 (a := (pxAc s t.1)) (b := 113) c113 (by omega) (by omega) (by omega) (by omega))]
  unfold g_X12_steer_b63
  by_cases c78 : pxAc s t.1 = 78
  · rw [if_pos (show pxJ (pxAc s t.1) = (78 : Int32) by rw [c78]; rfl), if_pos c78, pyN_gI H, px_bs, pyN_gI H, px_bs, X.2.2.1, X.1.1]
    by_cases d : T.2.2.1 < (T.1.length : Int)
    · rw [if_pos d, if_neg (show ¬ (pxJ T.2.2.1 = pxJ (T.1.length : Int)) from py32 (a := T.2.2.1) (b := (T.1.length : Int)) (by omega) (by omega) (by omega) (by omega) (by omega)), px_bs, show pxJ T.2.2.1 + (1 : Int32) = pxJ (T.2.2.1 + 1) from pxJ_add _ 1, pyN_pI H, px_bs, tail _ (by omega) (by omega)]
      have V1 : pyV (fun k f => k = 587 ∧ f = 16) h (jw_setI h 587 16 (pxJ (T.2.2.1 + 1))) := pyV.rfl.set ⟨rfl, rfl⟩
      refine pxW_some.mpr ⟨V0.trans (V1.mono (fun k f z => by unfold pyQst; omega)), rfl, fun _ => ⟨by rw [V1.m (by omega)]; exact e64, rep, ?_, Or.inl rfl⟩⟩
      exact ⟨H, G.keep V1 (by omega) (fun f _ => by omega), ⟨X.1.keep V1 (fun f _ => by omega) (fun f _ => by omega) (by omega), X.2.1.keep V1 (fun f _ => by omega), by rw [pxM_eq (by omega) (by omega)], by rw [V1.m (by omega)]; exact X.2.2.2⟩, Y.keep V1 (fun k f z => by omega), pyInv_now I (by omega) (by omega), by rw [V1.m (by omega)]; exact e44, by rw [V1.m (by omega)]; exact e45, ca0, ca1, nb, nB1⟩
    · rw [if_neg d, if_pos (show pxJ T.2.2.1 = pxJ (T.1.length : Int) by rw [show T.2.2.1 = (T.1.length : Int) by omega])]
      exact pxW_some.mpr ⟨V0, rfl, fun z => absurd z (by show ¬ (1 : Int) = 0; decide)⟩
  rw [if_neg (show ¬ (pxJ (pxAc s t.1) = (78 : Int32)) from py32 (a := (pxAc s t.1)) (b := 78) c78 (by omega) (by omega) (by omega) (by omega)), if_neg c78]
  unfold g_X12_steer_b92
  by_cases c98 : pxAc s t.1 = 98
  · rw [if_pos (show pxJ (pxAc s t.1) = (98 : Int32) by rw [c98]; rfl), if_neg (by omega), pyN_rc H, px_bs]
    have B := n_steer_j (rep' := rep) W0 V0 A ne len (pa := (pxWh s t.1).2.1) (by omega) (by omega) (Or.inl c98) (fun _ => rfl)
    refine pxW_b2 B fun v h1 q => pxW_some.mpr ?_
    obtain ⟨V1, q⟩ := q
    refine ⟨V1, ?_⟩
    by_cases d : pxOn s (pxWh s t.1).2.1 = -1
    · rw [if_pos d] at q
      rw [if_pos (Or.inr d)]
      exact q
    · rw [if_neg d] at q
      rw [if_neg (show ¬ (pxAc s t.1 = 113 ∨ pxOn s (pxWh s t.1).2.1 = -1) from fun z => z.elim c113 d), if_neg (show ¬ pxAc s t.1 = 84 by omega)]
      exact q
  have c84 : pxAc s t.1 = 84 := by omega
  rw [if_neg (show ¬ (pxJ (pxAc s t.1) = (98 : Int32)) from py32 (a := (pxAc s t.1)) (b := 98) c98 (by omega) (by omega) (by omega) (by omega)), if_pos (show pxJ (pxAc s t.1) = (84 : Int32) by rw [c84]; rfl), pyN_gI H, px_bs, e44]
  cases rep with
  | false =>
    rw [if_pos (show pxJ (pyB false) = 0 from rfl), if_pos (Or.inr ⟨c84, rfl⟩)]
    exact pxW_some.mpr ⟨V0, rfl, fun _ => ⟨e64, false, W0, Or.inl rfl⟩⟩
  | true =>
    rw [if_neg (show ¬ (pxJ (pyB true) = 0) by decide), if_neg (show ¬ (pxAc s t.1 = 58 ∨ (pxAc s t.1 = 84 ∧ true = false)) from fun z => z.elim n58 (fun z => by cases z.2)), pyN_pB H 44 (0 : Int32) (Or.inl rfl), px_bs]
    have W1 := W0.rep
    have V1 : pyV pyQst h0 (jw_setI h 587 44 (pxJ 0)) := V0.set (Or.inr (Or.inr ⟨rfl, Or.inr rfl⟩))
    rw [show (0 : Int32) = pxJ 0 from rfl, pyN_rc W1.1, px_bs]
    have B := n_steer_j (rep' := if pxOn s (pxWh s t.1).2.1 = -1 then true else false) W1 V1 A ne len (pa := (pxWh s t.1).2.1) (by omega) (by omega) (Or.inr c84) (fun z => by rw [if_neg z])
    refine pxW_b2 B fun v h1 q => pxW_some.mpr ?_
    obtain ⟨V2, q⟩ := q
    refine ⟨V2, ?_⟩
    by_cases d : pxOn s (pxWh s t.1).2.1 = -1
    · rw [if_pos d, if_pos d] at q
      rw [if_pos (Or.inr d)]
      exact q
    · rw [if_neg d, if_neg d] at q
      rw [if_neg (show ¬ (pxAc s t.1 = 113 ∨ pxOn s (pxWh s t.1).2.1 = -1) from fun z => z.elim c113 d), if_pos c84]
      exact q
set_option maxHeartbeats 8000000 in
theorem n_steer {nB : Int} {h : jw_H} {s : List Int} {L : List (Int × List Int)} {j : Nat} {t : Int × List Int} {came : Int} {T : pxTx} {S : pxSto} {rep : Bool} (W : pyGs nB h s T S rep came) (A : pyLs s 0 L) (ne : L ≠ []) (len : L.length ≤ 100) (e : L[j]? = some t) (ste : pxSteer (pxAc s t.1) = true) (n58 : pxAc s t.1 ≠ 58) (Wh : pyWh s t.1 h) (e64 : pxM h 587 64 = pyAp s L (j + 1)) :
    pxW (f_X12_steer h 587 (pxJ (pxWh s t.1).2.1)) fun v h' => pyV pyQst h h' ∧ pyStt nB s L came S (if (pxWh s t.1).2.2.1 ≠ 0 ∧ (pxRng s t.1 T).1 ≠ 0 then ((pxRng s t.1 T).1, j, T, rep) else pxStr s L j t.1 (pxRng s t.1 T).2.1 (pxRng s t.1 T).2.2 T rep) v h' := by
  obtain ⟨t0, t1, ok, -, -, -⟩ := pyLs_at L 0 j t A e
  have wb := pxWh_b (s := s) t0 (by omega)
  have tp := pyTop_a ok
  have W0 := W
  obtain ⟨H, G, X, Y, I, e44, e45, ca0, ca1, nb, nB1⟩ := W
  have l40 := I.1
  have i3 := I.2.2.1
  have i4 := I.2.2.2.1
  unfold f_X12_steer
  rw [pyN_gI H, px_bs, Wh.1]
  by_cases k0 : (pxWh s t.1).2.2.1 = 0
  · rw [if_pos (show pxJ (pxWh s t.1).2.2.1 ≤ (0 : Int32) by rw [k0]; decide), if_neg (show ¬ ((pxWh s t.1).2.2.1 ≠ 0 ∧ (pxRng s t.1 T).1 ≠ 0) from fun z => z.1 k0)]
    exact n_steer_b42 W0 pyV.rfl A ne len e ste n58 e64 (fun z => z.1 k0)
  have nle : ∀ z : Int, 0 < z → z ≤ 200 → ¬ (pxJ z ≤ (0 : Int32)) := fun z z0 z1 y => by
    have := (pxJ_le (a := z) (b := 0) (by omega) (by omega) (by omega) (by omega)).mp y
    omega
  rw [if_neg (nle _ (by omega) (by omega)), pyN_rc H, px_bs]
  have pc : pxAc s t.1 ≠ -1 := by
    have := pxSteer_i.mp ste
    omega
  refine pxW_b2 (n_range H G X I (by omega) t0 (by omega) tp.1 Wh pc) fun v h1 w => ?_
  obtain ⟨V1, rfl, w2⟩ := w
  have rb := pyRng_b (s := s) (p := t.1) I
  have V1' : pyV pyQst h h1 := V1.mono (fun k f z => Or.inl z)
  by_cases d : (pxRng s t.1 T).1 = 0
  · obtain ⟨f42, f43⟩ := w2 d
    have rg := pxRng_ok (s := s) (p := t.1) ⟨I.2.2.1, I.2.2.2.1⟩ I.1 d ⟨by omega, by omega⟩
    have H1 := V1.s H
    have W1 : pyGs nB h1 s T S rep came := W0.keep V1 (fun k f z => by unfold pyQGs at z; unfold pyQg2 pyQl; omega)
    have f64 : pxM h1 587 64 = pyAp s L (j + 1) := by rw [V1.m (by unfold pyQg2 pyQl; omega)]; exact e64
    have f16 : pxM h1 587 16 = T.2.2.1 := W1.2.2.1.2.2.1
    have rgb : 0 ≤ (pxRng s t.1 T).2.1 ∧ (pxRng s t.1 T).2.1 ≤ 200 ∧ 0 ≤ (pxRng s t.1 T).2.2 ∧ (pxRng s t.1 T).2.2 ≤ 200 := by unfold pxRgOk at rg; omega
    rw [d, if_pos (show pxJ 0 ≤ (0 : Int32) by decide), if_neg (show ¬ ((pxWh s t.1).2.2.1 ≠ 0 ∧ (0 : Int) ≠ 0) from fun z => z.2 rfl), pyN_gI H1, px_bs, pyN_gI H1, px_bs, f16, f42]
    have stays : (T.2.2.1 < (pxRng s t.1 T).2.1 ∨ (pxRng s t.1 T).2.2 < T.2.2.1) → pyV pyQst h h1 ∧ pyStt nB s L came S (pxStr s L j t.1 (pxRng s t.1 T).2.1 (pxRng s t.1 T).2.2 T rep) (pxJ 0) h1 := by
      intro y
      unfold pxStr
      rw [if_pos ⟨k0, y⟩]
      exact ⟨V1', rfl, fun _ => ⟨f64, rep, W1, Or.inl rfl⟩⟩
    by_cases y1 : T.2.2.1 < (pxRng s t.1 T).2.1
    · rw [if_pos (show pxJ T.2.2.1 < pxJ (pxRng s t.1 T).2.1 from (pxJ_lt (by omega) (by omega) (by omega) (by omega)).mpr y1)]
      exact pxW_some.mpr (stays (Or.inl y1))
    · rw [if_neg (show ¬ (pxJ T.2.2.1 < pxJ (pxRng s t.1 T).2.1) from fun z => y1 ((pxJ_lt (by omega) (by omega) (by omega) (by omega)).mp z)), pyN_gI H1, px_bs, px_bs, f43]
      by_cases y2 : (pxRng s t.1 T).2.2 < T.2.2.1
      · rw [if_neg (show ¬ (pxJ T.2.2.1 ≤ pxJ (pxRng s t.1 T).2.2) from fun z => by have := (pxJ_le (a := T.2.2.1) (b := (pxRng s t.1 T).2.2) (by omega) (by omega) (by omega) (by omega)).mp z; omega)]
        exact pxW_some.mpr (stays (Or.inr y2))
      · rw [if_pos (show pxJ T.2.2.1 ≤ pxJ (pxRng s t.1 T).2.2 from (pxJ_le (by omega) (by omega) (by omega) (by omega)).mpr (by omega))]
        exact n_steer_b42 W1 V1' A ne len e ste n58 f64 (fun z => by omega)
  · rw [if_neg (nle _ (by omega) (by omega)), if_pos (show (pxWh s t.1).2.2.1 ≠ 0 ∧ (pxRng s t.1 T).1 ≠ 0 from ⟨k0, d⟩)]
    exact pxW_some.mpr ⟨V1', rfl, fun z => absurd z d⟩
