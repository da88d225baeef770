/-! the reference: one order of a run -/
def pyQO : Nat → Nat → Prop := fun k f => pyQE k f ∨ pyQst k f
/-- what a step of a run comes to -/
def pySR (nB : Int) (s : List Int) (L : List (Int × List Int)) (R : Int × Nat × Int × pxTx × pxSto × Bool) (v : Int32) (h' : jw_H) : Prop :=
  v = pxJ R.1 ∧ 0 ≤ R.1 ∧ R.1 ≤ 10 ∧ (R.1 = 0 → pxM h' 587 64 = pyAp s L R.2.1 ∧ ∃ rep2, pyGs nB h' s R.2.2.2.1 R.2.2.2.2.1 rep2 R.2.2.1 ∧ (rep2 = R.2.2.2.2.2 ∨ L.length ≤ R.2.1))
theorem pyStep_s {s : List Int} {L : List (Int × List Int)} {j : Nat} {t : Int × List Int} {came : Int} {T : pxTx} {S : pxSto} {rep : Bool} (c60 : came < 60) (ste : pxSteer (pxAc s t.1) = true) (X : Int × Nat × pxTx × Bool) (eX : X = if (pxWh s t.1).2.2.1 ≠ 0 ∧ (pxRng s t.1 T).1 ≠ 0 then ((pxRng s t.1 T).1, j, T, rep) else pxStr s L j t.1 (pxRng s t.1 T).2.1 (pxRng s t.1 T).2.2 T rep) :
    pxStep s L j t came T S rep = (X.1, X.2.1, came + 1, X.2.2.1, S, X.2.2.2) := by
  unfold pxStep
  rw [if_neg (by omega), if_pos ste, eX]
  by_cases c : (pxWh s t.1).2.2.1 ≠ 0 ∧ (pxRng s t.1 T).1 ≠ 0
  · rw [if_pos c, if_pos c]
  · rw [if_neg c, if_neg c]
theorem pyStep_cm {s : List Int} {L : List (Int × List Int)} {j : Nat} {t : Int × List Int} {came : Int} {T : pxTx} {S : pxSto} {rep : Bool} (c60 : came < 60) : came + 1 ≤ (pxStep s L j t came T S rep).2.2.1 := by
  unfold pxStep
  rw [if_neg (by omega)]
  by_cases a : pxSteer (pxAc s t.1) = true
  · rw [if_pos a]
    by_cases b : (pxWh s t.1).2.2.1 ≠ 0 ∧ (pxRng s t.1 T).1 ≠ 0
    · rw [if_pos b]; exact Int.le_refl _
    · rw [if_neg b]; exact Int.le_refl _
  rw [if_neg a]
  by_cases b : (pxRng s t.1 T).1 ≠ 0
  · rw [if_pos b]; exact Int.le_refl _
  rw [if_neg b]
  by_cases g : pxAc s t.1 = 103 ∨ pxAc s t.1 = 71 ∨ pxAc s t.1 = 123
  · rw [if_pos g]; exact pxMets_came _ _ _ _ _
  · rw [if_neg g]; exact Int.le_refl _
theorem pyLe0 {z : Int} (z0 : z ≠ 0) (z1 : 0 ≤ z) (z2 : z ≤ 2000) : ¬ (pxJ z ≤ (0 : Int32)) := fun y => by
  have := (pxJ_le (a := z) (b := 0) (by omega) (by omega) (by omega) (by omega)).mp y
  omega
set_option maxHeartbeats 8000000 in
theorem n_doOrder {nB : Int} {h : jw_H} {s : List Int} {L : List (Int × List Int)} {j : Nat} {t : Int × List Int} {came : Int} {T : pxTx} {S : pxSto} {rep : Bool} (W : pyGs nB h s T S rep (came + 1)) (c0 : 0 ≤ came) (c60 : came < 60) (nb0 : T.2.2.2 + 40 * (60 - came) ≤ nB) (A : pyLs s 0 L) (ne : L ≠ []) (len : L.length ≤ 100) (e : L[j]? = some t) :
    pxW (f_X12_doOrder h 587 (pxJ t.1)) fun v h' => pyV pyQO h h' ∧ pySR nB s L (pxStep s L j t came T S rep) v h' := by
  obtain ⟨t0, t1, ok, et2, nx, eap⟩ := pyLs_at L 0 j t A e
  have wb := pxWh_b (s := s) t0 (by omega)
  have tp := pyTop_a ok
  have W0 := W
  obtain ⟨H, G, X, Y, I, e44, e45, ca0, ca1, nb, nB1⟩ := W
  have l60 := G.2.1.1
  have l40 := I.1
  have tb := pxTop_b (s := s) t0 (by omega)
  have n48 : pxP s (pxTop s t.1).2.1 ≠ 48 := by
    intro z
    rcases nx with y | y
    · omega
    · have := (pxP_lt (s := s) (p := (pxTop s t.1).2.1) (by omega)).2
      omega
  have key : ∀ h2, pyV pyQp h h2 → pxW (g_X12_doOrder_b26 h2 587 (pxJ t.1) 587 (pxJ (pyAp s L (j + 1)))) fun v h' => pyV pyQO h h' ∧ pySR nB s L (pxStep s L j t came T S rep) v h' := by
    intro h2 V2
    have H2 := V2.s H
    unfold g_X12_doOrder_b26
    rw [pyN_pI H2, px_bs]
    have eapb : 0 ≤ pyAp s L (j + 1) ∧ pyAp s L (j + 1) ≤ 200 := by rw [eap]; split <;> omega
    have V3 : pyV (fun k f => pyQp k f ∨ (k = 587 ∧ f = 64)) h (jw_setI h2 587 64 (pxJ (pyAp s L (j + 1)))) := (V2.mono (fun k f z => Or.inl z)).set (Or.inr ⟨rfl, rfl⟩)
    have e64a : pxM (jw_setI h2 587 64 (pxJ (pyAp s L (j + 1)))) 587 64 = pyAp s L (j + 1) := by rw [pxM_eq (by omega) (by omega)]
    generalize jw_setI h2 587 64 (pxJ (pyAp s L (j + 1))) = h3 at *
    have H3 := V3.s H
    have W3 : pyGs nB h3 s T S rep (came + 1) := W0.keep V3 (fun k f z => by unfold pyQGs at z; unfold pyQp; omega)
    rw [pyN_rc H3, px_bs]
    refine pxW_b2 (n_readWhere H3 W3.2.1 t0 (by omega) tp.1) fun _ h4 w => ?_
    obtain ⟨V4, Wh⟩ := w
    have W4 : pyGs nB h4 s T S rep (came + 1) := W3.keep V4 (fun k f z => by unfold pyQGs at z; unfold pyQp; omega)
    have e64 : pxM h4 587 64 = pyAp s L (j + 1) := by rw [V4.m (by unfold pyQp; omega)]; exact e64a
    have V04 : pyV pyQO h h4 := (V3.mono (fun k f z => by unfold pyQp at z; unfold pyQO pyQst pyQj pyQp; omega)).trans (V4.mono (fun k f z => by unfold pyQp at z; unfold pyQO pyQst pyQj pyQp; omega))
    have H4 := W4.1
    have G4 := W4.2.1
    clear V3 e64a W3 H3 V2 H2
    have pn : pxP s (pxWh s t.1).2.1 ≠ -1 := by
      intro z
      by_cases d : pxAc s t.1 = 123 ∨ pxAc s t.1 = 103 ∨ pxAc s t.1 = 71
      · unfold pxAc at d; omega
      · have aok := (tp.2.2.1 d).1
        unfold pxAct at aok
        rw [z] at aok
        have aok' : (false, (pxWh s t.1).2.1).1 = true := aok
        cases aok'
    have pl := (pxP_lt pn).2
    have m := G4.2.2 (pxWh s t.1).2.1 (by omega) pl
    rw [← pxP_E (by omega) pl] at m
    have pb := pyP_200 G4.2.1 (pxWh s t.1).2.1
    rw [pyN_gI H4, px_bs, Wh.2.2.2, pyN_g21 H4, px_bs, pyN_a599 H4 (by omega) (by omega), px_bs, m]
    have ea : pxP s (pxWh s t.1).2.1 = pxAc s t.1 := rfl
    rw [ea] at pb pn ⊢
    -- a label
    by_cases c58 : pxAc s t.1 = 58
    · rw [if_pos (show pxJ (pxAc s t.1) = (58 : Int32) by rw [c58]; rfl)]
      have k0 := tp.2.1 c58
      rw [pyStep_s c60 (by rw [c58]; rfl) _ rfl]
      rw [if_neg (show ¬ ((pxWh s t.1).2.2.1 ≠ 0 ∧ (pxRng s t.1 T).1 ≠ 0) from fun z => z.1 k0)]
      unfold pxStr
      rw [if_neg (show ¬ ((pxWh s t.1).2.2.1 ≠ 0 ∧ (T.2.2.1 < (pxRng s t.1 T).2.1 ∨ (pxRng s t.1 T).2.2 < T.2.2.1)) from fun z => z.1 k0), if_neg (by omega), if_pos (Or.inl c58)]
      exact pxW_some.mpr ⟨V04, rfl, py_0.1, py_0.2, fun _ => ⟨e64, rep, W4, Or.inl rfl⟩⟩
    rw [if_neg (show ¬ (pxJ (pxAc s t.1) = (58 : Int32)) from py32 (a := (pxAc s t.1)) (b := 58) c58 (by omega) (by omega) (by omega) (by omega))]
    have steers : pxSteer (pxAc s t.1) = true → pxW (g_X12_doOrder_b84 h4 587 (pxJ (pxWh s t.1).2.1)) fun v h' => pyV pyQO h h' ∧ pySR nB s L (pxStep s L j t came T S rep) v h' := by
      intro ste
      unfold g_X12_doOrder_b84
      rw [pyN_rc H4, px_bs]
      refine pxW_b2 (n_steer W4 A ne len e ste c58 Wh e64) fun v h5 q => pxW_some.mpr ?_
      obtain ⟨V5, q⟩ := q
      rw [pyStep_s c60 ste _ rfl]
      have rb := pyRng_b (s := s) (p := t.1) I
      have sb := pxStr_b (s := s) (L := L) (j := j) (p := t.1) (f := (pxRng s t.1 T).2.1) (l := (pxRng s t.1 T).2.2) (T := T) (rep := rep)
      refine ⟨V04.trans (V5.mono (fun k f z => Or.inr z)), q.1, ?_, ?_, fun z => q.2 z⟩
      · show 0 ≤ (if (pxWh s t.1).2.2.1 ≠ 0 ∧ (pxRng s t.1 T).1 ≠ 0 then ((pxRng s t.1 T).1, j, T, rep) else pxStr s L j t.1 (pxRng s t.1 T).2.1 (pxRng s t.1 T).2.2 T rep).1
        by_cases d : (pxWh s t.1).2.2.1 ≠ 0 ∧ (pxRng s t.1 T).1 ≠ 0
        · rw [if_pos d]; exact rb.1
        · rw [if_neg d]; exact sb.1
      · show (if (pxWh s t.1).2.2.1 ≠ 0 ∧ (pxRng s t.1 T).1 ≠ 0 then ((pxRng s t.1 T).1, j, T, rep) else pxStr s L j t.1 (pxRng s t.1 T).2.1 (pxRng s t.1 T).2.2 T rep).1 ≤ 10
        by_cases d : (pxWh s t.1).2.2.1 ≠ 0 ∧ (pxRng s t.1 T).1 ≠ 0
        · rw [if_pos d]; show (pxRng s t.1 T).1 ≤ 10; omega
        · rw [if_neg d]; omega
    by_cases c113 : pxAc s t.1 = 113
    · rw [if_pos (show pxJ (pxAc s t.1) = (113 : Int32) by rw [c113]; rfl)]
      exact steers (by rw [c113]; rfl)
    rw [if_neg (show ¬ (pxJ (pxAc s t.1) = (113 : Int32)) from py32 (a := (pxAc s t.1)) (b := 113) c113 (by omega) (by omega) (by omega) (by omega))]
    by_cases c98 : pxAc s t.1 = 98
    · rw [if_pos (show pxJ (pxAc s t.1) = (98 : Int32) by rw [c98]; rfl)]
      exact steers (by rw [c98]; rfl)
    rw [if_neg (show ¬ (pxJ (pxAc s t.1) = (98 : Int32)) from py32 (a := (pxAc s t.1)) (b := 98) c98 (by omega) (by omega) (by omega) (by omega))]
    by_cases c84 : pxAc s t.1 = 84
    · rw [if_pos (show pxJ (pxAc s t.1) = (84 : Int32) by rw [c84]; rfl)]
      exact steers (by rw [c84]; rfl)
    rw [if_neg (show ¬ (pxJ (pxAc s t.1) = (84 : Int32)) from py32 (a := (pxAc s t.1)) (b := 84) c84 (by omega) (by omega) (by omega) (by omega))]
    by_cases c78 : pxAc s t.1 = 78
    · rw [if_pos (show pxJ (pxAc s t.1) = (78 : Int32) by rw [c78]; rfl)]
      exact steers (by rw [c78]; rfl)
    rw [if_neg (show ¬ (pxJ (pxAc s t.1) = (78 : Int32)) from py32 (a := (pxAc s t.1)) (b := 78) c78 (by omega) (by omega) (by omega) (by omega))]
    have nst : ¬ pxSteer (pxAc s t.1) = true := fun z => by
      have := pxSteer_i.mp z
      omega
    unfold pxStep
    rw [if_neg (show ¬ 60 ≤ came by omega), if_neg nst, pyN_rc H4, px_bs]
    refine pxW_b2 (n_range H4 G4 W4.2.2.1 I (by omega) t0 (by omega) tp.1 Wh pn) fun v h5 w => ?_
    obtain ⟨V5, rfl, w2⟩ := w
    have rb := pyRng_b (s := s) (p := t.1) I
    have V05 : pyV pyQO h h5 := V04.trans (V5.mono (fun k f z => Or.inr (Or.inl z)))
    by_cases d : (pxRng s t.1 T).1 = 0
    · obtain ⟨f42, f43⟩ := w2 d
      have rg := pxRng_ok (s := s) (p := t.1) ⟨I.2.2.1, I.2.2.2.1⟩ I.1 d ⟨by omega, by omega⟩
      have W5 : pyGs nB h5 s T S rep (came + 1) := W4.keep V5 (fun k f z => by unfold pyQGs at z; unfold pyQg2 pyQl; omega)
      have f64 : pxM h5 587 64 = pyAp s L (j + 1) := by rw [V5.m (by unfold pyQg2 pyQl; omega)]; exact e64
      have H5 := W5.1
      rw [d, if_pos (show pxJ 0 ≤ (0 : Int32) by decide), if_neg (show ¬ (0 : Int) ≠ 0 from fun z => z rfl)]
      have grp : (pxAc s t.1 = 103 ∨ pxAc s t.1 = 71 ∨ pxAc s t.1 = 123) → pxW (g_X12_doOrder_b125 h5 587 (pxJ (pxWh s t.1).2.1)) fun v h' => pyV pyQO h h' ∧ pySR nB s L (if pxAc s t.1 = 103 ∨ pxAc s t.1 = 71 ∨ pxAc s t.1 = 123 then
    ((pxGp s t.1 t.2 (pxRng s t.1 T).2.1 (pxRng s t.1 T).2.2 (came + 1) T S rep).1, j + 1, (pxGp s t.1 t.2 (pxRng s t.1 T).2.1 (pxRng s t.1 T).2.2 (came + 1) T S rep).2.1, (pxGp s t.1 t.2 (pxRng s t.1 T).2.1 (pxRng s t.1 T).2.2 (came + 1) T S rep).2.2.1, (pxGp s t.1 t.2 (pxRng s t.1 T).2.1 (pxRng s t.1 T).2.2 (came + 1) T S rep).2.2.2.1, (pxGp s t.1 t.2 (pxRng s t.1 T).2.1 (pxRng s t.1 T).2.2 (came + 1) T S rep).2.2.2.2)
  else ((pxDo s (pxWh s t.1).2.1 (pxRng s t.1 T).2.1 (pxRng s t.1 T).2.2 T S rep).1.1, j + 1, came + 1, (pxDo s (pxWh s t.1).2.1 (pxRng s t.1 T).2.1 (pxRng s t.1 T).2.2 T S rep).1.2.1, (pxDo s (pxWh s t.1).2.1 (pxRng s t.1 T).2.1 (pxRng s t.1 T).2.2 T S rep).1.2.2, (pxDo s (pxWh s t.1).2.1 (pxRng s t.1 T).2.1 (pxRng s t.1 T).2.2 T S rep).2)) v h' := by
        intro cc
        rw [if_pos cc]
        have hz : (pxP s (pxWh s t.1).2.1 ≠ 123 → (pxPtn s ((pxWh s t.1).2.1 + 1)).1 = true) ∧ pyPz s (pxWh s t.1).2.1 < s.length ∧ (pyPs s (pyPz s (pxWh s t.1).2.1)).1 = true ∧ (pxTop s t.1).2 = (pyPs s (pyPz s (pxWh s t.1).2.1)).2 := by
          unfold pyPz
          by_cases z : pxP s (pxWh s t.1).2.1 = 123
          · rw [if_pos z]
            obtain ⟨y1, y2⟩ := tp.2.2.2.1 z
            have ep : pyPs s (pxWh s t.1).2.1 = pxBlk s 61 ((pxWh s t.1).2.1 + 1) := by unfold pyPs; rw [if_pos z]
            rw [ep]
            exact ⟨fun y => absurd z y, by omega, y1, y2⟩
          · rw [if_neg z]
            obtain ⟨y1, y2, y3⟩ := tp.2.2.2.2 (by unfold pxAc at cc ⊢; omega)
            refine ⟨fun _ => y1, ?_, y2, y3⟩
            obtain ⟨p1, p2, p3⟩ := pyPtn_ok y1 (by omega) (by omega)
            have p4 := (pxP_lt (s := s) (p := (pxPat s ((pxWh s t.1).2.1 + 2)).2) (by omega))
            unfold pyPs at y2
            by_cases g : pxP s (pxPtn s ((pxWh s t.1).2.1 + 1)).2 = 123
            · exact (pxP_lt (by omega)).2
            · rw [if_neg g] at y2
              have ib := pxInn_b (s := s) (p := (pxPtn s ((pxWh s t.1).2.1 + 1)).2) (by omega) (by omega)
              have := ib.2.2 y2
              omega
        obtain ⟨z1, z2, z3, z4⟩ := hz
        have rg' : 1 ≤ (pxRng s t.1 T).2.1 ∧ (pxRng s t.1 T).2.1 ≤ (pxRng s t.1 T).2.2 + 1 ∧ (pxRng s t.1 T).2.2 ≤ T.1.length := by unfold pxRgOk at rg; omega
        unfold g_X12_doOrder_b125 g_X12_doOrder_b138
        rw [pyN_rc H5, px_bs]
        refine pxW_b2 (n_each W5 f42 f43 rg'.1 rg'.2.1 rg'.2.2 (by omega) (by unfold pxAc at cc; exact cc) z1 z2 z3 (by rw [← z4]; exact n48)) fun v h6 q => pxW_some.mpr ?_
        obtain ⟨V6, rfl, r0, r1, R6⟩ := q
        rw [← z4, ← et2, ea] at r0 r1 R6 ⊢
        refine ⟨V05.trans (V6.mono (fun k f z => Or.inl z)), rfl, r0, r1, fun z => ⟨?_, _, R6 z, Or.inl rfl⟩⟩
        rw [V6.m (by unfold pyQE pyQI pyQA4 pyQA pyQg2 pyQl; omega)]
        exact f64
      by_cases c103 : pxAc s t.1 = 103
      · rw [if_pos (show pxJ (pxAc s t.1) = (103 : Int32) by rw [c103]; rfl)]
        exact grp (Or.inl c103)
      rw [if_neg (show ¬ (pxJ (pxAc s t.1) = (103 : Int32)) from py32 (a := (pxAc s t.1)) (b := 103) c103 (by omega) (by omega) (by omega) (by omega))]
      by_cases c71 : pxAc s t.1 = 71
      · rw [if_pos (show pxJ (pxAc s t.1) = (71 : Int32) by rw [c71]; rfl)]
        exact grp (Or.inr (Or.inl c71))
      rw [if_neg (show ¬ (pxJ (pxAc s t.1) = (71 : Int32)) from py32 (a := (pxAc s t.1)) (b := 71) c71 (by omega) (by omega) (by omega) (by omega))]
      by_cases c123 : pxAc s t.1 = 123
      · rw [if_pos (show pxJ (pxAc s t.1) = (123 : Int32) by rw [c123]; rfl)]
        exact grp (Or.inr (Or.inr c123))
      rw [if_neg (show ¬ (pxJ (pxAc s t.1) = (123 : Int32)) from py32 (a := (pxAc s t.1)) (b := 123) c123 (by omega) (by omega) (by omega) (by omega))]
      rw [if_neg (show ¬ (pxAc s t.1 = 103 ∨ pxAc s t.1 = 71 ∨ pxAc s t.1 = 123) from fun z => by omega)]
      obtain ⟨aok, eend⟩ := tp.2.2.1 (fun z => by omega)
      have ns5 : ¬ (pxP s (pxWh s t.1).2.1 = 58 ∨ pxP s (pxWh s t.1).2.1 = 98 ∨ pxP s (pxWh s t.1).2.1 = 84 ∨ pxP s (pxWh s t.1).2.1 = 113 ∨ pxP s (pxWh s t.1).2.1 = 78) := fun z => nst (by rw [pxSteer_i]; exact z)
      have Y5 := W5.2.2.2.1
      have gd := pxGood_do (rep := rep) I Y5.1 (show 0 ≤ (pxWh s t.1).2.1 by omega) (by omega) l60 aok ns5 (pyAct_3 aok) rg
      have db := pyDo_b (s := s) (p := (pxWh s t.1).2.1) (f := (pxRng s t.1 T).2.1) (l := (pxRng s t.1 T).2.2) (S := S) (rep := rep) I
      have AC := n_act H5 W5.2.1 W5.2.2.1 Y5 I (by omega) f42 f43 W5.2.2.2.2.2.1 rg (by omega) aok ns5 (fun z => by rw [← pyAct_115 z, ← eend]; exact n48)
      unfold g_X12_doOrder_b138
      rw [pyN_rc H5, px_bs]
      refine pxW_b2 AC fun v h6 q => pxW_some.mpr ?_
      obtain ⟨⟨V6, v6, x6⟩, r6⟩ := q
      have V6' : pyV pyQO h5 h6 := V6.mono (fun k f z => Or.inl (Or.inl (Or.inl z)))
      generalize pxDo s (pxWh s t.1).2.1 (pxRng s t.1 T).2.1 (pxRng s t.1 T).2.2 T S rep = R at *
      refine ⟨V05.trans V6', v6, db.1, db.2, fun z => ?_⟩
      have z' : R.1.1 = 0 := z
      obtain ⟨g1, g2, g3⟩ := gd z'
      refine ⟨by rw [V6.m (by unfold pyQA4 pyQA; omega)]; exact f64, R.2, ⟨V6.s H5, W5.2.1.keep V6 (by unfold pyQA4 pyQA; omega) (fun f _ => by unfold pyQA4 pyQA; omega), (x6 z').1, (x6 z').2, g1, r6 z', ?_, show (0 : Int) ≤ came + 1 by omega, show came + 1 ≤ 60 by omega, ?_, nB1⟩, Or.inl rfl⟩
      · rw [V6.m (by unfold pyQA4 pyQA; omega)]
        exact W5.2.2.2.2.2.2.1
      · show R.1.2.1.2.2.2 + 40 * (60 - (came + 1)) ≤ nB
        omega
    · rw [if_neg (pyLe0 d rb.1 (by omega)), if_pos (show (pxRng s t.1 T).1 ≠ 0 from d)]
      exact pxW_some.mpr ⟨V05, rfl, rb.1, by show (pxRng s t.1 T).1 ≤ 10; omega, fun y => absurd y d⟩
  unfold f_X12_doOrder
  rw [pyN_rc H, px_bs, show (0 : Int32) = pxJ 0 from rfl]
  refine pxW_b2 (n_endOf0 H G t0 (by omega) ok) fun v h2 q => ?_
  obtain ⟨rfl, V2⟩ := q
  have B := key h2 V2
  rw [eap] at B
  have G2 : pxM h2 587 22 = s.length := by rw [V2.m (by unfold pyQp; omega)]; exact G.1
  rw [pyN_gI (V2.s H), px_bs, G2]
  by_cases g : (s.length : Int) ≤ (pxTop s t.1).2.1
  · rw [if_pos (show pxJ (s.length : Int) ≤ pxJ (pxTop s t.1).2.1 from (pxJ_le (by omega) (by omega) (by omega) (by omega)).mpr g), px_bs]
    rw [if_pos g] at B
    exact B
  · rw [if_neg (show ¬ (pxJ (s.length : Int) ≤ pxJ (pxTop s t.1).2.1) from fun z => g ((pxJ_le (by omega) (by omega) (by omega) (by omega)).mp z)), show pxJ (pxTop s t.1).2.1 + (1 : Int32) = pxJ ((pxTop s t.1).2.1 + 1) from pxJ_add _ 1]
    rw [if_neg g] at B
    exact B
