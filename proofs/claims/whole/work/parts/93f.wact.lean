/-! the reference, line by line: the acts -/
def pyQwa : Nat → Nat → Prop := fun k f => (k = 592 ∧ 1271 ≤ f ∧ f < 14880) ∨ k = 594 ∨ (596 ≤ k ∧ k ≤ 598) ∨ (600 ≤ k ∧ k ≤ 603) ∨ (k = 587 ∧ (f = 13 ∨ f = 14 ∨ f = 15 ∨ f = 17 ∨ f = 20 ∨ (33 ≤ f ∧ f ≤ 37) ∨ f = 40 ∨ f = 41 ∨ f = 44 ∨ f = 66 ∨ f = 68 ∨ f = 70 ∨ f = 72))
/-- what an act comes to -/
def pyWR (s : List Int) (T : pxTx) (came : Int) (R : Int × pxBe) (v : Int32) (h' : jw_H) : Prop :=
  v = pxJ R.1 ∧ 0 ≤ R.1 ∧ R.1 ≤ 10 ∧ (R.1 = 0 → pyWs h' s T came R.2.1 R.2.2.1 R.2.2.2.1 R.2.2.2.2)
section
variable {h : jw_H} {s : List Int} {T : pxTx} {c0 p : Int} {W : pxWk} {F : pxFh} {S : pxSto} {rep : Bool}
theorem pyWs.b {h1 : jw_H} (A : pyWs h s T c0 W F S rep) (V : pyV pyQwa h h1) : pyS h1 ∧ pyG h1 s ∧ pyL h1 T.1 :=
  ⟨V.s A.1, A.2.1.keep V (by unfold pyQwa; omega) (fun f _ => by unfold pyQwa; omega), A.2.2.1.keep V (fun f _ => by unfold pyQwa; omega) (fun f _ => by unfold pyQwa; omega) (by unfold pyQwa; omega)⟩
theorem pyAct_told (ok : (pxAct s p).1 = true) (c : pxP s p = 97 ∨ pxP s p = 105 ∨ pxP s p = 99) (p0 : 0 ≤ p) (p1 : p < s.length) (l60 : s.length ≤ 60) : pxOk (pxTold s 61 (p + 1)) := by
  unfold pxAct at ok
  rw [if_pos c] at ok
  exact pxTold_ok 61 61 (p + 1) ok (by omega) (by omega) (by omega)
theorem n_w97 (A : pyWs h s T c0 W F S rep) (b0 : 0 ≤ c0) (b1 : c0 ≤ 400) (ok : (pxAct s p).1 = true) (c : pxP s p = 97) (p0 : 0 ≤ p) (p1 : p < s.length) :
    pxW (f_X12_dueTold h 587 (pxJ (p + 1))) fun v h' => pyV pyQwa h h' ∧ pyWR s T (c0 + 1) (0, pxWd W (pxBDue W.2.2.2.2.2.2 (pxTold s 61 (p + 1))), F, S, rep) v h' := by
  obtain ⟨H, G, L, Y, N, M, Wf, D, e17, e44, B⟩ := id A
  obtain ⟨m, e72, m0, m1, ld, okd, RS⟩ := D
  have l60 := G.2.1.1
  have tb := pyTold_61 (s := s) 61 (p + 1)
  unfold f_X12_dueTold
  rw [pyN_rc H, px_bs, n_rowsAt H G (by omega) (by omega), px_b2, show (0 : Int32) = pxJ 0 from rfl]
  refine pxW.mono (n_dueTold_b11 61 jw_FU h (p + 1) 0 m W.2.2.2.2.2.2 (by omega) (by unfold jw_FU; omega) (by omega) (by omega) (fun _ => by omega) (by omega) (by omega) H G ⟨e72, ld, okd, RS⟩ m0 (by omega) (pyAct_told ok (Or.inl c) p0 p1 (by omega))) fun v h' q => ?_
  obtain ⟨V, rfl, D'⟩ := q
  have V' : pyV pyQwa h h' := V.mono (fun k f z => by unfold pyQdt pyQm pyQR pyQdu at z; unfold pyQwa; omega)
  obtain ⟨H', G', L'⟩ := A.b V'
  refine ⟨V', rfl, py_0.1, py_0.2, fun _ => ⟨H', G', L', Y.keep V (fun k f z => by unfold pyQdt pyQm pyQR pyQdu; omega), N.keep V (fun k f z => by unfold pyQdt pyQm pyQR pyQdu; omega), M.keep V (fun f _ => by unfold pyQdt pyQm pyQR pyQdu; omega), Wf.keep V (fun k f z => by unfold pyQdt pyQm pyQR pyQdu; omega), ⟨_, D'.1, by omega, by omega, D'.2⟩, by rw [V.m (by unfold pyQdt pyQm pyQR pyQdu; omega)]; exact e17, by rw [V.m (by unfold pyQdt pyQm pyQR pyQdu; omega)]; exact e44, B⟩⟩
theorem n_w105 (A : pyWs h s T c0 W F S rep) (b0 : 0 ≤ c0) (ok : (pxAct s p).1 = true) (c : pxP s p = 105) (p0 : 0 ≤ p) (p1 : p < s.length) :
    pxW (f_X12_putTold h 587 (pxJ (p + 1)) (pxJ ((pxTold s 61 (p + 1)).length : Int))) fun v h' => pyV pyQwa h h' ∧ pyWR s T (c0 + 1) ((pxBPut (pxTold s 61 (p + 1)) F).elim (4, W, F, S, rep) (fun z => (0, W, z, S, rep))) v h' := by
  obtain ⟨H, G, L, Y, N, M, Wf, D, e17, e44, B⟩ := id A
  obtain ⟨B0, B1, B2⟩ := B
  have l60 := G.2.1.1
  refine pxW.mono (n_putTold (rest := (if W.2.2.2.2.1 = true then [] else [W.1]) ++ pxIds (T.1.drop W.2.2.1.toNat)) H G N (by omega) (by omega) e17 (by omega) (by omega) M (pyAct_told ok (Or.inr (Or.inl c)) p0 p1 (by omega))) fun v h' q => ?_
  obtain ⟨V, q1, q2⟩ := q
  have V' : pyV pyQwa h h' := V.mono (fun k f z => by unfold pyQpT pyQm pyQR pyQpn pyQpt at z; unfold pyQwa; omega)
  refine ⟨V', ?_⟩
  cases e : pxBPut (pxTold s 61 (p + 1)) F with
  | none => exact ⟨q1 e, py_4.1, py_4.2, fun z => absurd z (by show ¬ (4 : Int) = 0; decide)⟩
  | some F' =>
    obtain ⟨a1, a2, a3, a4, a5, a6⟩ := q2 F' e
    obtain ⟨H', G', L'⟩ := A.b V'
    refine ⟨a1, py_0.1, py_0.2, fun _ => ⟨H', G', L', Y.keep V (fun k f z => by unfold pyQpT pyQm pyQR pyQpn pyQpt; omega), a2, a6, Wf.keep V (fun k f z => by unfold pyQpT pyQm pyQR pyQpn pyQpt; omega), D.keep V (by omega) (fun k f z => by unfold pyQpT pyQm pyQR pyQpn pyQpt; omega), a3, by rw [V.m (by unfold pyQpT pyQm pyQR pyQpn pyQpt; omega)]; exact e44, ⟨B0.1, by show T.2.2.2 ≤ F'.2.2; omega⟩, ?_, B2⟩⟩
    show F'.2.2 ≤ T.2.2.2 + F'.1.length
    omega
/-- the line that is worked on goes -/
theorem pyWs.gone {h1 : jw_H} (A : pyWs h s T c0 W F S rep) (g : W.2.2.2.2.1 = false) (b0 : c0 ≤ c0 + 1) (V : pyV (fun k f => k = 587 ∧ f = 70) h h1) (e70 : pxM h1 587 70 = 0) : pyWs h1 s T (c0 + 1) (pxWg W) (pxBDrop F W.1) S rep := by
  obtain ⟨H, G, L, Y, N, M, Wf, D, e17, e44, B⟩ := A
  obtain ⟨R, okr, w65, w66, w67, w68, w69, w70, b1, b2, b3⟩ := Wf
  have M1 : pyMk h1 (pxDm F.2.1 W.1) F.2.2 (pxIds F.1 ++ ([] ++ pxIds (T.1.drop W.2.2.1.toNat))) := by
    have m1 := M.keep V (fun f _ => by omega)
    unfold pyLvs at m1
    rw [g, if_neg (show ¬ (false = true) by decide)] at m1
    refine pyMk.drop (m1.perm ?_)
    exact List.perm_middle
  exact ⟨V.s H, G.keep V (by omega) (fun f _ => by omega), L.keep V (fun f _ => by omega) (fun f _ => by omega) (by omega), Y.keep V (fun k f z => by omega), N.keep V (fun k f z => by omega), M1, ⟨R.keep V (by omega) okr.1 (fun f _ _ => by omega), okr, by rw [V.m (by omega)]; exact w65, by rw [V.m (by omega)]; exact w66, by rw [V.m (by omega)]; exact w67, by rw [V.m (by omega)]; exact w68, by rw [V.m (by omega)]; exact w69, e70, b1, b2, b3⟩, D.keep V b0 (fun k f z => by omega), by rw [V.m (by omega)]; exact e17, by rw [V.m (by omega)]; exact e44, B⟩
theorem n_w99_b13 {tt : List (List Int)} {k : Int} (A : pyWs h s T c0 W F S rep) (g : W.2.2.2.2.1 = false) (b0 : 0 ≤ c0) (ok : (pxAct s p).1 = true) (c : pxP s p = 99) (p0 : 0 ≤ p) (p1 : p < s.length) (ek : (k = 0 ∧ tt = []) ∨ (k = (pxTold s 61 (p + 1)).length ∧ tt = pxTold s 61 (p + 1))) :
    pxW (g_X12_changeWork_b13 h 587 (pxJ (p + 1)) (pxJ k)) fun v h' => pyV pyQwa h h' ∧ pyWR s T (c0 + 1) ((pxBPut tt (pxBDrop F W.1)).elim (4, W, F, S, rep) (fun z => (0, pxWg W, z, S, rep))) v h' := by
  have H := A.1
  have V1 : pyV (fun k f => k = 587 ∧ f = 70) h (jw_setI h 587 70 (pxJ 0)) := pyV.rfl.set ⟨rfl, rfl⟩
  have e70 : pxM (jw_setI h 587 70 (pxJ 0)) 587 70 = 0 := by rw [pxM_eq (by omega) (by omega)]
  have A1 := A.gone g (by omega) V1 e70
  have V1' : pyV pyQwa h (jw_setI h 587 70 (pxJ 0)) := V1.mono (fun k f z => by unfold pyQwa; omega)
  unfold g_X12_changeWork_b13
  rw [show (0 : Int32) = pxJ 0 from rfl, pyN_pB H 70 (pxJ 0) (Or.inl rfl), px_bs]
  generalize jw_setI h 587 70 (pxJ 0) = h1 at *
  have H1 := A1.1
  rw [pyN_rc H1, px_bs]
  rcases ek with ⟨e, et⟩ | ⟨e, et⟩
  · rw [e, et]
    obtain ⟨N', eN⟩ : ∃ N', jw_FU = N' + 1 := ⟨99999, by unfold jw_FU; rfl⟩
    unfold f_X12_putTold
    rw [eN, u_X12_putTold_b8]
    unfold g_X12_putTold_b8
    rw [if_pos (show pxJ 0 ≤ (0 : Int32) by decide), px_b2]
    exact pxW_some.mpr ⟨V1', rfl, py_0.1, py_0.2, fun _ => A1⟩
  · rw [e, et]
    refine pxW_b2 (n_putTold (F := pxBDrop F W.1) (rest := [] ++ pxIds (T.1.drop W.2.2.1.toNat)) H1 A1.2.1 A1.2.2.2.2.1 (by omega) (by omega) A1.2.2.2.2.2.2.2.2.1 (by have := A1.2.2.2.2.2.2.2.2.2.2.1; omega) (by have := A1.2.2.2.2.2.2.2.2.2.2; unfold pyBd at this; omega) A1.2.2.2.2.2.1 (pyAct_told ok (Or.inr (Or.inr c)) p0 p1 (by have := A.2.1.2.1.1; omega))) fun v h' q => pxW_some.mpr ?_
    obtain ⟨V, q1, q2⟩ := q
    have V' : pyV pyQwa h h' := V1'.trans (V.mono (fun k f z => by unfold pyQpT pyQm pyQR pyQpn pyQpt at z; unfold pyQwa; omega))
    refine ⟨V', ?_⟩
    obtain ⟨-, -, -, Y, N, M, Wf, D, e17, e44, B⟩ := A1
    obtain ⟨B0, B1, B2⟩ := B
    have eb : (pxBDrop F W.1).2.2 = F.2.2 := rfl
    cases e : pxBPut (pxTold s 61 (p + 1)) (pxBDrop F W.1) with
    | none => exact ⟨q1 e, py_4.1, py_4.2, fun z => absurd z (by show ¬ (4 : Int) = 0; decide)⟩
    | some F' =>
      obtain ⟨a1, a2, a3, a4, a5, a6⟩ := q2 F' e
      obtain ⟨H', G', L'⟩ := A.b V'
      refine ⟨a1, py_0.1, py_0.2, fun _ => ⟨H', G', L', Y.keep V (fun k f z => by unfold pyQpT pyQm pyQR pyQpn pyQpt; omega), a2, a6, Wf.keep V (fun k f z => by unfold pyQpT pyQm pyQR pyQpn pyQpt; omega), D.keep V (by omega) (fun k f z => by unfold pyQpT pyQm pyQR pyQpn pyQpt; omega), a3, by rw [V.m (by unfold pyQpT pyQm pyQR pyQpn pyQpt; omega)]; exact e44, ⟨B0.1, by show T.2.2.2 ≤ F'.2.2; omega⟩, ?_, B2⟩⟩
      show F'.2.2 ≤ T.2.2.2 + F'.1.length
      omega
theorem n_w100 (A : pyWs h s T c0 W F S rep) (g : W.2.2.2.2.1 = false) (b0 : 0 ≤ c0) : pyV pyQwa h (jw_setI h 587 70 (pxJ 0)) ∧ pyWR s T (c0 + 1) (0, pxWg W, pxBDrop F W.1, S, rep) (pxJ 0) (jw_setI h 587 70 (pxJ 0)) := by
  have V1 : pyV (fun k f => k = 587 ∧ f = 70) h (jw_setI h 587 70 (pxJ 0)) := pyV.rfl.set ⟨rfl, rfl⟩
  exact ⟨V1.mono (fun k f z => by unfold pyQwa; omega), rfl, py_0.1, py_0.2, fun _ => A.gone g (by omega) V1 (by rw [pxM_eq (by omega) (by omega)])⟩
/-- the row of the work is another one -/
theorem pyWs.row {P : Nat → Nat → Prop} {h1 : jw_H} {r : List Int} {rep2 : Bool} {c2 : Int} (A : pyWs h s T c0 W F S rep) (cc : c0 ≤ c2) (V : pyV P h h1) (n : ∀ k f, pyQWs k f → P k f → (k = 592 ∧ 13299 ≤ f ∧ f < 13330) ∨ (k = 587 ∧ f = 44)) (R : pyR h1 429 r) (okr : pxOr r) (e44 : pxM h1 587 44 = pyB rep2) : pyWs h1 s T c2 (pxWr W r) F S rep2 := by
  obtain ⟨H, G, L, Y, N, M, Wf, D, e17, -, B⟩ := A
  obtain ⟨-, -, w65, w66, w67, w68, w69, w70, b1, b2, b3⟩ := Wf
  have no : ∀ k f, pyQWs k f → ¬ ((k = 592 ∧ 13299 ≤ f ∧ f < 13330) ∨ (k = 587 ∧ f = 44)) → ¬ P k f := fun k f z y x => y (n k f z x)
  exact ⟨V.s H, G.keep V (no _ _ (by unfold pyQWs; omega) (by omega)) (fun f _ => no _ _ (by unfold pyQWs; omega) (by omega)), L.keep V (fun f _ => no _ _ (by unfold pyQWs; omega) (by omega)) (fun f _ => no _ _ (by unfold pyQWs; omega) (by omega)) (no _ _ (by unfold pyQWs; omega) (by omega)), Y.keep V (fun k f z => no _ _ (by unfold pyQWs; omega) (by omega)), N.keep V (fun k f z => no _ _ (by unfold pyQWs; omega) (by omega)), M.keep V (fun f _ => no _ _ (by unfold pyQWs; omega) (by omega)), ⟨R, okr, by rw [V.m (no _ _ (by unfold pyQWs; omega) (by omega))]; exact w65, by rw [V.m (no _ _ (by unfold pyQWs; omega) (by omega))]; exact w66, by rw [V.m (no _ _ (by unfold pyQWs; omega) (by omega))]; exact w67, by rw [V.m (no _ _ (by unfold pyQWs; omega) (by omega))]; exact w68, by rw [V.m (no _ _ (by unfold pyQWs; omega) (by omega))]; exact w69, by rw [V.m (no _ _ (by unfold pyQWs; omega) (by omega))]; exact w70, b1, b2, b3⟩, D.keep V cc (fun k f z => no _ _ (by unfold pyQWs; omega) (by omega)), by rw [V.m (no _ _ (by unfold pyQWs; omega) (by omega))]; exact e17, e44, B⟩
set_option maxHeartbeats 8000000 in
theorem n_joinNext (A : pyWs h s T c0 W F S rep) (g : W.2.2.2.2.1 = false) (b0 : 0 ≤ c0) :
    pxW (f_X12_joinNext h 587) fun v h' => pyV pyQwa h h' ∧ pyWR s T (c0 + 1) (pxBJoin T W F S rep) v h' := by
  obtain ⟨H, G, L, Y, N, M, Wf, D, e17, e44, B⟩ := id A
  obtain ⟨R, okr, w65, w66, w67, w68, w69, w70, b1, b2, b3⟩ := Wf
  have l40 := L.2.1
  have l30 := okr.1
  unfold f_X12_joinNext pxBJoin
  rw [pyN_gI H, px_bs, w66, pyN_gI H, px_bs, w65]
  by_cases c : W.2.2.1 < (T.1.length : Int)
  · obtain ⟨rw1, ri1⟩ := L.2.2.2 (W.2.2.1 + 1) (by omega) (by omega)
    rw [show W.2.2.1 + 1 - 1 = W.2.2.1 by omega] at rw1 ri1
    have okn := pyAt_or L.2.2.1 (W.2.2.1 + 1)
    have n30 := okn.1
    have ern : pxRw (pxRs T.1) (W.2.2.1 + 1) = (pxAt T.1 (W.2.2.1 + 1)).2 := pxRs_at _ _
    have eln : pxLn (pxRs T.1) (W.2.2.1 + 1) = ((pxAt T.1 (W.2.2.1 + 1)).2.length : Int) := by unfold pxLn; rw [ern]
    rw [if_pos c, if_neg (show ¬ (pxJ W.2.2.1 = pxJ (T.1.length : Int)) from py32 (a := W.2.2.1) (b := (T.1.length : Int)) (by omega) (by omega) (by omega) (by omega) (by omega)), show (0 : Int32) = pxJ 0 from rfl, pyN_pI H, px_bs]
    have V1 : pyV pyQm h (jw_setI h 587 20 (pxJ 0)) := pyV.rfl.set (Or.inl ⟨rfl, rfl⟩)
    have M1 : pyMd (jw_setI h 587 20 (pxJ 0)) [] := pyMd_0
    generalize jw_setI h 587 20 (pxJ 0) = h1 at *
    have H1 := V1.s H
    have R1 : pyR h1 429 W.2.2.2.2.2.1 := R.keep V1 (by omega) l30 (fun f _ _ => by unfold pyQm; omega)
    rw [pyN_rc H1, px_bs, show (429 : Int32) = pxJ 429 from rfl, n_len H1 R1 (by omega) (by omega), px_b2, pyN_rc H1, px_bs]
    refine pxW_b2 (n_makesRow H1 R1 M1 (by omega) (by omega) l30 (show (0 : Int) ≤ 0 by omega) (by omega) (Int.le_refl _) (by simp)) fun _ h2 q => ?_
    obtain ⟨V2, M2⟩ := q
    have H2 := V2.s H1
    rw [List.nil_append, pxSl_all] at M2
    have V12 := V1.trans V2
    have r2 : pyR h2 W.2.2.1 (pxAt T.1 (W.2.2.1 + 1)).2 := rw1.keep V12 (by omega) n30 (fun f _ _ => by unfold pyQm; omega)
    rw [pyN_gI H2, px_bs, V12.m (by unfold pyQm; omega), w66, px_bs, pyN_rc H2, px_bs, show pxJ 0 + pxJ W.2.2.1 = pxJ W.2.2.1 by rw [pxJ_add, Int.zero_add], n_len H2 r2 (by omega) (by omega), px_b2, pyN_rc H2, px_bs]
    refine pxW_b2 (n_makesRow H2 r2 M2 (by omega) (by omega) n30 (show (0 : Int) ≤ 0 by omega) (by omega) (Int.le_refl _) (by omega)) fun _ h3 q => ?_
    obtain ⟨V3, M3⟩ := q
    have H3 := V3.s H2
    rw [pxSl_all] at M3
    have V13 := V12.trans V3
    rw [pyN_rc H3, px_bs]
    refine pxW_b2 (n_lays H3 M3 (i := 429) (by omega) (by omega)) fun v h4 q => ?_
    obtain ⟨rfl, V4, R4⟩ := q
    have H4 := V4.s H3
    have V04 : pyV (fun k f => pyQm k f ∨ pyQR 429 429 k f) h h4 := (V13.mono (fun k f z => Or.inl z)).trans (V4.mono (fun k f z => Or.inr z))
    have V04' : pyV pyQwa h h4 := V04.mono (fun k f z => by unfold pyQm pyQR at z; unfold pyQwa; omega)
    have el : ((W.2.2.2.2.2.1 ++ (pxAt T.1 (W.2.2.1 + 1)).2).length : Int) = W.2.2.2.2.2.1.length + (pxAt T.1 (W.2.2.1 + 1)).2.length := by rw [List.length_append]; omega
    rw [eln, ern]
    by_cases d : (W.2.2.2.2.2.1 ++ (pxAt T.1 (W.2.2.1 + 1)).2).length ≤ 30
    · have R4 := R4 d
      rw [if_pos d, if_neg (show ¬ (pxJ 1 = pxJ 0) by decide), if_pos (show (W.2.2.2.2.2.1.length : Int) + (pxAt T.1 (W.2.2.1 + 1)).2.length ≤ 30 by omega)]
      have okw : pxOr (W.2.2.2.2.2.1 ++ (pxAt T.1 (W.2.2.1 + 1)).2) := pxOr_app okr okn (by omega)
      have f66 : pxM h4 587 66 = W.2.2.1 := by rw [V04.m (by unfold pyQm pyQR; omega)]; exact w66
      have f593 : pxM h4 593 W.2.2.1.toNat = (pxAt T.1 (W.2.2.1 + 1)).1 := by rw [V04.m (by unfold pyQm pyQR; omega)]; exact ri1
      have lo := pxM_lo h4 593 W.2.2.1.toNat
      have hi := pxM_hi h4 593 W.2.2.1.toNat
      rw [f593] at lo hi
      rw [pyN_g7 H4, px_bs, pyN_gI H4, px_bs, f66, pyN_a593 H4 (by omega) (by omega), px_bs, f593, pyN_rc H4, px_bs]
      unfold f_X12_unmark
      rw [show (0 : Int32) = pxJ 0 from rfl]
      refine pxW_b2 (n_unmark_b2 lo hi 5 jw_FU h4 0 (by omega) (by omega) (by unfold jw_FU; omega) H4) fun _ h5 q => ?_
      obtain ⟨V5, K5⟩ := q
      have H5 := V5.s H4
      rw [pyN_gI H5, px_bs, V5.m (by omega), f66, show pxJ W.2.2.1 + (1 : Int32) = pxJ (W.2.2.1 + 1) from pxJ_add _ 1, pyN_pI H5, px_bs]
      have V6 : pyV (fun k f => k = 587 ∧ f = 66) h5 (jw_setI h5 587 66 (pxJ (W.2.2.1 + 1))) := pyV.rfl.set ⟨rfl, rfl⟩
      have g66 : pxM (jw_setI h5 587 66 (pxJ (W.2.2.1 + 1))) 587 66 = W.2.2.1 + 1 := by rw [pxM_eq (by omega) (by omega)]
      generalize jw_setI h5 587 66 (pxJ (W.2.2.1 + 1)) = h6 at *
      have H6 := V6.s H5
      rw [pyN_gI H6, px_bs, g66, pyN_pI H6, px_bs]
      have V7 : pyV (fun k f => k = 587 ∧ f = 68) h6 (jw_setI h6 587 68 (pxJ (W.2.2.1 + 1))) := pyV.rfl.set ⟨rfl, rfl⟩
      have g68 : pxM (jw_setI h6 587 68 (pxJ (W.2.2.1 + 1))) 587 68 = W.2.2.1 + 1 := by rw [pxM_eq (by omega) (by omega)]
      generalize jw_setI h6 587 68 (pxJ (W.2.2.1 + 1)) = h7 at *
      have V47 : pyV (fun k f => k = 596 ∨ (k = 587 ∧ (f = 66 ∨ f = 68))) h4 h7 := ((V5.mono (fun k f z => Or.inl z)).trans (V6.mono (fun k f z => by omega))).trans (V7.mono (fun k f z => by omega))
      have V07 : pyV pyQwa h h7 := V04'.trans (V47.mono (fun k f z => by unfold pyQwa; omega))
      obtain ⟨H7, G7, L7⟩ := A.b V07
      have M7 : pyMk h7 (pxDm F.2.1 (pxAt T.1 (W.2.2.1 + 1)).1) F.2.2 (pxIds F.1 ++ ([W.1] ++ pxIds (T.1.drop (W.2.2.1 + 1).toNat))) := by
        have m4 := M.keep V04 (fun f _ => by unfold pyQm pyQR; omega)
        unfold pyLvs at m4
        rw [g, if_neg (show ¬ (false = true) by decide)] at m4
        have ed := pxAt_drop (ls := T.1) (x := W.2.2.1 + 1) (by omega) (by omega)
        rw [show W.2.2.1 + 1 - 1 = W.2.2.1 by omega] at ed
        rw [ed] at m4
        have pm : (pxIds F.1 ++ ([W.1] ++ pxIds (pxAt T.1 (W.2.2.1 + 1) :: T.1.drop (W.2.2.1 + 1).toNat))).Perm ((pxAt T.1 (W.2.2.1 + 1)).1 :: (pxIds F.1 ++ ([W.1] ++ pxIds (T.1.drop (W.2.2.1 + 1).toNat)))) := by
          show (pxIds F.1 ++ ([W.1] ++ ((pxAt T.1 (W.2.2.1 + 1)).1 :: pxIds (T.1.drop (W.2.2.1 + 1).toNat)))).Perm _
          rw [← List.append_assoc, ← List.append_assoc]
          exact List.perm_middle
        refine (m4.perm pm).unmark (fun k k0 k5 => ?_)
        rw [V7.m (by omega), V6.m (by omega), K5 k k0 k5]
        by_cases y : pxM h4 596 k.toNat = (pxAt T.1 (W.2.2.1 + 1)).1
        · rw [if_pos ⟨k0, y⟩, if_pos y]
        · rw [if_neg (fun z => y z.2), if_neg y]
      have V4n : ∀ k f, k = 596 ∨ (k = 587 ∧ (f = 66 ∨ f = 68)) → ¬ (k = 592) := fun k f z => by omega
      refine pxW_some.mpr ⟨V07, rfl, py_0.1, py_0.2, fun _ => ⟨H7, G7, L7, (Y.keep V04 (fun k f z => by unfold pyQm pyQR; omega)).keep V47 (fun k f z => by omega), (N.keep V04 (fun k f z => by unfold pyQm pyQR; omega)).keep V47 (fun k f z => by omega), ?_, ⟨R4.keep V47 (by omega) okw.1 (fun f _ _ => by omega), okw, ?_, ?_, ?_, g68, ?_, ?_, ?_⟩, (D.keep V04 (Int.le_refl _) (fun k f z => by unfold pyQm pyQR; omega)).keep V47 (by omega) (fun k f z => by omega), ?_, ?_, B⟩⟩
      · show pyMk h7 (pxDm F.2.1 (pxAt T.1 (W.2.2.1 + 1)).1) F.2.2 (pxIds F.1 ++ ((if W.2.2.2.2.1 = true then [] else [W.1]) ++ pxIds (T.1.drop (W.2.2.1 + 1).toNat)))
        rw [g, if_neg (show ¬ (false = true) by decide)]
        exact M7
      · rw [V47.m (by omega), V04.m (by unfold pyQm pyQR; omega)]; exact w65
      · rw [V7.m (by omega)]; exact g66
      · rw [V47.m (by omega), V04.m (by unfold pyQm pyQR; omega)]; exact w67
      · rw [V47.m (by omega), V04.m (by unfold pyQm pyQR; omega)]; exact w69
      · rw [V47.m (by omega), V04.m (by unfold pyQm pyQR; omega)]; exact w70
      · show (0 ≤ W.2.2.1 + 1 ∧ W.2.2.1 + 1 ≤ (T.1.length : Int)) ∧ (0 ≤ W.2.2.1 + 1 ∧ W.2.2.1 + 1 ≤ (T.1.length : Int)) ∧ 1 ≤ W.2.2.2.1 ∧ W.2.2.2.1 ≤ W.2.2.1 + 1
        omega
      · rw [V47.m (by omega), V04.m (by unfold pyQm pyQR; omega)]; exact e17
      · rw [V47.m (by omega), V04.m (by unfold pyQm pyQR; omega)]; exact e44
    · rw [if_neg d, if_pos rfl, if_neg (show ¬ ((W.2.2.2.2.2.1.length : Int) + (pxAt T.1 (W.2.2.1 + 1)).2.length ≤ 30) by omega)]
      exact pxW_some.mpr ⟨V04', rfl, py_4.1, py_4.2, fun z => absurd z (by show ¬ (4 : Int) = 0; decide)⟩
  · rw [if_neg c, if_pos (show pxJ W.2.2.1 = pxJ (T.1.length : Int) by rw [show W.2.2.1 = (T.1.length : Int) by omega])]
    exact pxW_some.mpr ⟨pyV.rfl, rfl, py_0.1, py_0.2, fun _ => A.keep (P := fun _ _ => False) pyV.rfl (by show c0 ≤ c0 + 1; omega) (fun _ _ _ z => z)⟩
set_option maxHeartbeats 8000000 in
theorem n_partWork {n : Int} (A : pyWs h s T c0 W F S rep) (b0 : 0 ≤ c0) (b1 : c0 ≤ 400) (n0 : 0 ≤ n) (n1 : n ≤ 99) :
    pxW (f_X12_partWork h 587 (pxJ n)) fun v h' => pyV pyQwa h h' ∧ pyWR s T (c0 + 1) (pxBPart n W F S rep) v h' := by
  obtain ⟨H, G, L, Y, N, M, Wf, D, e17, e44, B⟩ := id A
  obtain ⟨R, okr, w65, w66, w67, w68, w69, w70, -, -, -⟩ := Wf
  obtain ⟨m, e72, m0, m1, ld, okd, RS⟩ := D
  have l30 := okr.1
  unfold f_X12_partWork pxBPart
  rw [pyN_rc H, px_bs, show (429 : Int32) = pxJ 429 from rfl, n_len H R (by omega) (by omega), px_b2]
  by_cases c : n < (W.2.2.2.2.2.1.length : Int)
  · rw [if_pos c, if_neg (show ¬ (pxJ (W.2.2.2.2.2.1.length : Int) ≤ pxJ n) from fun z => by have := (pxJ_le (a := (W.2.2.2.2.2.1.length : Int)) (b := n) (by omega) (by omega) (by omega) (by omega)).mp z; omega), show (0 : Int32) = pxJ 0 from rfl, pyN_pI H, px_bs]
    have V1 : pyV pyQm h (jw_setI h 587 20 (pxJ 0)) := pyV.rfl.set (Or.inl ⟨rfl, rfl⟩)
    have M1 : pyMd (jw_setI h 587 20 (pxJ 0)) [] := pyMd_0
    generalize jw_setI h 587 20 (pxJ 0) = h1 at *
    have H1 := V1.s H
    have R1 : pyR h1 429 W.2.2.2.2.2.1 := R.keep V1 (by omega) l30 (fun f _ _ => by unfold pyQm; omega)
    rw [pyN_rc H1, px_bs, n_len H1 R1 (by omega) (by omega), px_b2, pyN_rc H1, px_bs]
    refine pxW_b2 (n_makesRow H1 R1 M1 (by omega) (by omega) l30 n0 (by omega) (Int.le_refl _) (by simp)) fun _ h2 q => ?_
    obtain ⟨V2, M2⟩ := q
    have H2 := V2.s H1
    have ed : pxSl W.2.2.2.2.2.1 n W.2.2.2.2.2.1.length = W.2.2.2.2.2.1.drop n.toNat := by
      unfold pxSl
      rw [List.take_of_length_le (by rw [List.length_drop]; omega)]
    rw [List.nil_append, ed] at M2
    have okd2 : pxOr (W.2.2.2.2.2.1.drop n.toNat) := pxOr_drop okr
    rw [pyN_rc H2, px_bs, show (431 : Int32) = pxJ 431 from rfl]
    refine pxW_b2 (n_lays H2 M2 (i := 431) (by omega) (by omega)) fun v h3 q => ?_
    obtain ⟨-, V3, R3⟩ := q
    have R3 := R3 okd2.1
    have H3 := V3.s H2
    have V03 : pyV (fun k f => pyQm k f ∨ pyQR 431 431 k f) h h3 := ((V1.trans V2).mono (fun k f z => Or.inl z)).trans (V3.mono (fun k f z => Or.inr z))
    rw [pyN_rc H3, px_bs]
    refine pxW_b2 (n_due H3 (by rw [V03.m (by unfold pyQm pyQR; omega)]; exact e72) m0 (by omega) ld okd (RS.keep V03 (by omega) okd (fun f _ _ => by unfold pyQm pyQR; omega)) R3 okd2 (by omega) (by omega) (by omega)) fun _ h4 q => ?_
    obtain ⟨V4, f72, l4, ok4, RS4⟩ := q
    have H4 := V4.s H3
    have V04 : pyV (fun k f => pyQm k f ∨ pyQR 431 431 k f ∨ pyQdu k f) h h4 := (V03.mono (fun k f z => z.elim Or.inl (fun z => Or.inr (Or.inl z)))).trans (V4.mono (fun k f z => Or.inr (Or.inr z)))
    have R4 : pyR h4 429 W.2.2.2.2.2.1 := R.keep V04 (by omega) l30 (fun f _ _ => by unfold pyQm pyQR pyQdu; omega)
    have A4 : pyWs h4 s T (c0 + 1) (pxWd W (pxBDue W.2.2.2.2.2.2 [W.2.2.2.2.2.1.drop n.toNat])) F S rep := by
      obtain ⟨-, -, -, -, -, -, Wf, -, -, -, -⟩ := A
      exact ⟨H4, G.keep V04 (by unfold pyQm pyQR pyQdu; omega) (fun f _ => by unfold pyQm pyQR pyQdu; omega), L.keep V04 (fun f _ => by unfold pyQm pyQR pyQdu; omega) (fun f _ => by unfold pyQm pyQR pyQdu; omega) (by unfold pyQm pyQR pyQdu; omega), Y.keep V04 (fun k f z => by unfold pyQm pyQR pyQdu; omega), N.keep V04 (fun k f z => by unfold pyQm pyQR pyQdu; omega), M.keep V04 (fun f _ => by unfold pyQm pyQR pyQdu; omega), Wf.keep V04 (fun k f z => by unfold pyQm pyQR pyQdu; omega), ⟨m + 1, f72, by omega, by omega, l4, ok4, RS4⟩, by rw [V04.m (by unfold pyQm pyQR pyQdu; omega)]; exact e17, by rw [V04.m (by unfold pyQm pyQR pyQdu; omega)]; exact e44, B⟩
    rw [pyN_rc H4, px_bs]
    refine pxW_b2 (n_cutTo H4 R4 (by omega) (by omega) l30 n0 (by omega)) fun _ h5 q => pxW_some.mpr ?_
    obtain ⟨V5, R5⟩ := q
    have A5 := A4.row (rep2 := rep) (Int.le_refl _) V5 (fun k f _ z => by unfold pyQR at z; omega) R5 (pxOr_take okr) (by rw [V5.m (by unfold pyQR; omega)]; exact A4.2.2.2.2.2.2.2.2.2.1)
    exact ⟨(V04.mono (fun k f z => by unfold pyQm pyQR pyQdu at z; unfold pyQwa; omega)).trans (V5.mono (fun k f z => by unfold pyQR at z; unfold pyQwa; omega)), rfl, py_0.1, py_0.2, fun _ => A5⟩
  · rw [if_neg c, if_pos (show pxJ (W.2.2.2.2.2.1.length : Int) ≤ pxJ n from (pxJ_le (by omega) (by omega) (by omega) (by omega)).mpr (by omega))]
    exact pxW_some.mpr ⟨pyV.rfl, rfl, py_0.1, py_0.2, fun _ => A.keep (P := fun _ _ => False) pyV.rfl (by show c0 ≤ c0 + 1; omega) (fun _ _ _ z => z)⟩
/-- the stores are other ones -/
theorem pyWs.sto {P : Nat → Nat → Prop} {h1 : jw_H} {S' : pxSto} {c2 : Int} (A : pyWs h s T c0 W F S rep) (cc : c0 ≤ c2) (V : pyV P h h1) (n : ∀ k f, pyQWs k f → P k f → (k = 592 ∧ 2542 ≤ f ∧ f < 11997) ∨ k = 597 ∨ (k = 587 ∧ (f = 14 ∨ f = 15))) (Y' : pyY h1 S') : pyWs h1 s T c2 W F S' rep := by
  obtain ⟨H, G, L, Y, N, M, Wf, D, e17, e44, B⟩ := A
  have no : ∀ k f, pyQWs k f → ¬ ((k = 592 ∧ 2542 ≤ f ∧ f < 11997) ∨ k = 597 ∨ (k = 587 ∧ (f = 14 ∨ f = 15))) → ¬ P k f := fun k f z y x => y (n k f z x)
  exact ⟨V.s H, G.keep V (no _ _ (by unfold pyQWs; omega) (by omega)) (fun f _ => no _ _ (by unfold pyQWs; omega) (by omega)), L.keep V (fun f _ => no _ _ (by unfold pyQWs; omega) (by omega)) (fun f _ => no _ _ (by unfold pyQWs; omega) (by omega)) (no _ _ (by unfold pyQWs; omega) (by omega)), Y', N.keep V (fun k f z => no _ _ (by unfold pyQWs; omega) (by omega)), M.keep V (fun f _ => no _ _ (by unfold pyQWs; omega) (by omega)), Wf.keep V (fun k f z => no _ _ (by unfold pyQWs; omega) (by omega)), D.keep V cc (fun k f z => no _ _ (by unfold pyQWs; omega) (by omega)), by rw [V.m (no _ _ (by unfold pyQWs; omega) (by omega))]; exact e17, by rw [V.m (no _ _ (by unfold pyQWs; omega) (by omega))]; exact e44, B⟩
/-- a row is told -/
theorem n_tellW {w : List Int} {h0 : jw_H} (A : pyWs h0 s T c0 W F S rep) (b0 : 0 ≤ c0) (V0 : pyV pyQm h0 h) (M : pyMd h w) (okw : w.length ≤ 30 → pxOr w) :
    pxW (g_X12_tellWork_b50 h 587) fun v h' => pyV pyQwa h0 h' ∧ pyWR s T (c0 + 1) (if w.length ≤ 30 ∧ S.2.1.length < 100 then (0, W, F, (S.1, S.2.1 ++ [w], S.2.2), rep) else (4, W, F, S, rep)) v h' := by
  have A1 : pyWs h s T c0 W F S rep := A.keep V0 (Int.le_refl _) (fun k f z => by unfold pyQWs at z; unfold pyQm; omega)
  have H := A1.1
  obtain ⟨IS, He, Ou, Fi⟩ := A1.2.2.2.1
  unfold g_X12_tellWork_b50
  rw [pyN_rc H, px_bs]
  refine pxW_b2 (n_tells H Ou IS.2.1.1 IS.2.1.2 M) fun v h1 q => pxW_some.mpr ?_
  obtain ⟨V, rfl, O⟩ := q
  have V' : pyV pyQwa h0 h1 := (V0.mono (fun k f z => by unfold pyQm at z; unfold pyQwa; omega)).trans (V.mono (fun k f z => by unfold pyQu at z; unfold pyQwa; omega))
  refine ⟨V', ?_⟩
  by_cases c : w.length ≤ 30 ∧ S.2.1.length < 100
  · rw [if_pos c, if_pos c]
    refine ⟨rfl, py_0.1, py_0.2, fun _ => A1.sto (by omega) V (fun k f _ z => by unfold pyQu at z; omega) ⟨⟨IS.1, ⟨?_, ?_⟩, IS.2.2⟩, ?_, O c, ?_⟩⟩
    · show (S.2.1 ++ [w]).length ≤ 100
      rw [List.length_append, List.length_singleton]; omega
    · exact pxOk_app IS.2.1.2 (pxOk_one (okw c.1))
    · exact ⟨by rw [V.m (by unfold pyQu; omega)]; exact He.1, He.2.keep V (by omega) IS.1.2 (fun f _ z => by have := IS.1.1; unfold pyQu; omega)⟩
    · intro k k0 k4
      obtain ⟨y1, y2⟩ := Fi k k0 k4
      obtain ⟨i1, i2⟩ := IS.2.2 k k0 k4
      exact ⟨by rw [V.m (by unfold pyQu; omega)]; exact y1, y2.keep V (by omega) i2 (fun f _ z => by unfold pyQu; omega)⟩
  · rw [if_neg c, if_neg c]
    exact ⟨rfl, py_4.1, py_4.2, fun z => absurd z (by show ¬ (4 : Int) = 0; decide)⟩
end
