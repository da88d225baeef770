/-! the reference, line by line: an order of the list, and all orders with a line -/
set_option maxHeartbeats 8000000 in
theorem n_workOrder {h : jw_H} {s : List Int} {T : pxTx} {L : List (Int × List Int)} {came : Int} {G : Nat → pxFg} {β : pxBe} {m j : Nat} {t : Int × List Int} {X : Int × Int × pxFh × pxSto} (A : pyLs s 0 L) (ne : L ≠ []) (len : L.length ≤ 100) (W : pyWo h s T L came G β) (g : β.1.2.2.2.2.1 = false) (e : L[j]? = some t) (eX : X = pxBLoop s L T m (pxCnt (L.take j)) false false came G β) (fu : (400 - came) + (T.1.length - β.1.2.2.2.1) < m) :
    pxW (f_X12_workOrder h 587 (pxJ t.1)) fun v h' => pyV pyQwo h h' ∧ pyOT (came + 1) s T L X v h' := by
  obtain ⟨t0, t1, ok, et2, nx, eap⟩ := pyLs_at L 0 j t A e
  have wb := pxWh_b (s := s) t0 (by omega)
  have tp := pyTop_a ok
  have tb := pxTop_b (s := s) t0 (by omega)
  have tnb := W.1.2.2.2.2.2.2.1.2.2.2.2.2.2.2.2
  have cam := W.2.2.2.1
  obtain ⟨m, rfl⟩ : ∃ m', m = m' + 1 := ⟨m - 1, by omega⟩
  have W0 := W
  have H := W.1.1
  have Gs := W.1.2.1
  have l60 := Gs.2.1.1
  have n48 : pxP s (pxTop s t.1).2.1 ≠ 48 := by
    intro z
    rcases nx with y | y
    · omega
    · have := (pxP_lt (s := s) (p := (pxTop s t.1).2.1) (by omega)).2
      omega
  have pn := pyTop_pn ok
  have eK := pyFl_top L 0 j t e
  rw [Nat.zero_add] at eK
  have eL := pyLoop_s (s := s) (T := T) (m := m) (came := came) (G := G) (β := β) eK _ rfl
  rw [← eX] at eL
  have eL : X = if (pxBOrd s L T (pxCnt (L.take j)) t.1 (pxCnt (L.take (j + 1))) came G β.1 β.2.1 β.2.2.1 β.2.2.2).1 ≠ 0 then (came + 1, (pxBOrd s L T (pxCnt (L.take j)) t.1 (pxCnt (L.take (j + 1))) came G β.1 β.2.1 β.2.2.1 β.2.2.2).1, β.2.1, β.2.2.1) else pxBLoop s L T m (pxBOrd s L T (pxCnt (L.take j)) t.1 (pxCnt (L.take (j + 1))) came G β.1 β.2.1 β.2.2.1 β.2.2.2).2.1 (pxBOrd s L T (pxCnt (L.take j)) t.1 (pxCnt (L.take (j + 1))) came G β.1 β.2.1 β.2.2.1 β.2.2.2).2.2.1 (pxBOrd s L T (pxCnt (L.take j)) t.1 (pxCnt (L.take (j + 1))) came G β.1 β.2.1 β.2.2.1 β.2.2.2).2.2.2.1 (came + 1) (pxBOrd s L T (pxCnt (L.take j)) t.1 (pxCnt (L.take (j + 1))) came G β.1 β.2.1 β.2.2.1 β.2.2.2).2.2.2.2.1 (pxBOrd s L T (pxCnt (L.take j)) t.1 (pxCnt (L.take (j + 1))) came G β.1 β.2.1 β.2.2.1 β.2.2.2).2.2.2.2.2 := eL
  have tO := pxBOrd_t (s := s) (L := L) (T := T) (k := pxCnt (L.take j)) (q := t.1) (nx := pxCnt (L.take (j + 1))) (came := came) (G := G) (W := β.1) (Fr := β.2.1) (S := β.2.2.1) (rep := β.2.2.2)
  have key : ∀ h2, pyV pyQp h h2 → pxW (g_X12_workOrder_b26 h2 587 (pxJ t.1) 587 (pxJ (pyAp s L (j + 1)))) fun v h' => pyV pyQwo h h' ∧ pyOT (came + 1) s T L X v h' := by
    intro h2 V2
    have H2 := V2.s H
    unfold g_X12_workOrder_b26
    rw [pyN_pI H2, px_bs]
    have eapb : 0 ≤ pyAp s L (j + 1) ∧ pyAp s L (j + 1) ≤ 200 := by rw [eap]; split <;> omega
    have V3 : pyV (fun k f => pyQp k f ∨ (k = 587 ∧ f = 64)) h (jw_setI h2 587 64 (pxJ (pyAp s L (j + 1)))) := (V2.mono (fun k f z => Or.inl z)).set (Or.inr ⟨rfl, rfl⟩)
    have e64a : pxM (jw_setI h2 587 64 (pxJ (pyAp s L (j + 1)))) 587 64 = pyAp s L (j + 1) := by rw [pxM_eq (by omega) (by omega)]
    generalize jw_setI h2 587 64 (pxJ (pyAp s L (j + 1))) = h3 at *
    have V3' : pyV pyQwo h h3 := V3.mono (fun k f z => by unfold pyQp at z; unfold pyQwo pyQj pyQp; omega)
    have W3 : pyWo h3 s T L came G β := W0.keep V3 (fun k f z => by unfold pyQWs pyQru at z; unfold pyQp; omega)
    obtain ⟨Ws, e73, ca0, ca1, Ru, e71⟩ := W3
    have H3 := Ws.1
    rw [pyN_rc H3, px_bs]
    refine pxW_b2 (n_comesTo H3 Ws.2.1 e73 ca0 ca1 t0 (by omega) tp.1 pn) fun v h4 w => ?_
    obtain ⟨V4, w7, w8⟩ := w
    have V4' : pyV pyQwo h h4 := V3'.trans (V4.mono (fun k f z => Or.inl (Or.inl z)))
    have H4 := V4.s H3
    by_cases c400 : 400 ≤ came
    · have eO : pxBOrd s L T (pxCnt (L.take j)) t.1 (pxCnt (L.take (j + 1))) came G β.1 β.2.1 β.2.2.1 β.2.2.2 = (7, pxCnt (L.take j), false, false, G, β.1, β.2.1, β.2.2.1, β.2.2.2) := by unfold pxBOrd; rw [if_pos (by omega)]
      rw [eO] at eL
      rw [if_pos (show ((7, pxCnt (L.take j), false, false, G, β.1, β.2.1, β.2.2.1, β.2.2.2) : Int × pxBq).1 ≠ 0 from fun z => absurd z (by show ¬ (7 : Int) = 0; decide))] at eL
      rw [w7 c400, if_neg (show ¬ (pxJ 7 ≤ (0 : Int32)) by decide)]
      exact pxW_some.mpr ⟨V4', Or.inl ⟨7, rfl, by omega, by omega, by rw [eL]⟩⟩
    obtain ⟨rv, Wh, f73⟩ := w8 (by omega)
    by_cases cb : pxBar s t.1 = true
    · have eO : pxBOrd s L T (pxCnt (L.take j)) t.1 (pxCnt (L.take (j + 1))) came G β.1 β.2.1 β.2.2.1 β.2.2.2 = (8, pxCnt (L.take j), false, false, G, β.1, β.2.1, β.2.2.1, β.2.2.2) := by unfold pxBOrd; rw [if_neg (by omega), if_pos cb]
      rw [eO] at eL
      rw [if_pos (show ((8, pxCnt (L.take j), false, false, G, β.1, β.2.1, β.2.2.1, β.2.2.2) : Int × pxBq).1 ≠ 0 from fun z => absurd z (by show ¬ (8 : Int) = 0; decide))] at eL
      rw [rv, if_pos cb, if_neg (show ¬ (pxJ 8 ≤ (0 : Int32)) by decide)]
      exact pxW_some.mpr ⟨V4', Or.inl ⟨8, rfl, by omega, by omega, by rw [eL]⟩⟩
    rw [if_neg cb] at rv
    rw [rv, if_pos (show pxJ 0 ≤ (0 : Int32) by decide), pyN_gI H4, px_bs, Wh.2.2.2, pyN_rc H4, px_bs]
    have W4 : pyWs h4 s T came β.1 β.2.1 β.2.2.1 β.2.2.2 := Ws.keep V4 (Int.le_refl _) (fun k f z => by unfold pyQWs at z; unfold pyQct pyQl pyQp; omega)
    have Ru4 : pyRu h4 L G := Ru.keep V4 (fun k f z => by unfold pyQru at z; unfold pyQct pyQl pyQp; omega)
    have f71 : pxM h4 587 71 = 0 := by rw [V4.m (by unfold pyQct pyQl pyQp; omega)]; exact e71
    have f64 : pxM h4 587 64 = pyAp s L (j + 1) := by rw [V4.m (by unfold pyQct pyQl pyQp; omega)]; exact e64a
    refine pxW_b2 (n_whereHolds W4 g Wh tp.1 t0 t1 (Ru4 _ (t.1, _) eK)) fun v h5 w => ?_
    obtain ⟨V5, rfl, Rn5⟩ := w
    have H5 := V5.s H4
    have V5' : pyV pyQwo h h5 := V4'.trans (V5.mono (fun k f z => z.elim (fun a => Or.inl (Or.inl (Or.inl a))) (fun b => Or.inl (Or.inr (Or.inr (by unfold pyQru; omega))))))
    have W5 : pyWs h5 s T came β.1 β.2.1 β.2.2.1 β.2.2.2 := W4.keep V5 (Int.le_refl _) (fun k f z => by unfold pyQWs at z; unfold pyQrn pyQl; omega)
    have Ru5 : pyRu h5 L (pxBSet G (pxCnt (L.take j)) (pxBHold s t.1 T.1.length β.1 β.2.1 (G (pxCnt (L.take j)))).2) := Ru4.set A eK V5 t0 Rn5
    have g71 : pxM h5 587 71 = 0 := by rw [V5.m (by unfold pyQrn pyQl; omega)]; exact f71
    have g73 : pxM h5 587 73 = came + 1 := by rw [V5.m (by unfold pyQrn pyQl; omega)]; exact f73
    have g64 : pxM h5 587 64 = pyAp s L (j + 1) := by rw [V5.m (by unfold pyQrn pyQl; omega)]; exact f64
    have Wh5 := Wh.keep V5 (fun f _ _ => by unfold pyQrn pyQl; omega)
    have W5' : pyWo h5 s T L (came + 1) (pxBSet G (pxCnt (L.take j)) (pxBHold s t.1 T.1.length β.1 β.2.1 (G (pxCnt (L.take j)))).2) β := ⟨W5.keep (P := fun _ _ => False) pyV.rfl (by omega) (fun _ _ _ z => z), g73, by omega, by omega, Ru5, g71⟩
    have h3 := pyHold_3 (s := s) (p := t.1) (n := T.1.length) (W := β.1) (F := β.2.1) (g := G (pxCnt (L.take j)))
    cases hd : (pxBHold s t.1 T.1.length β.1 β.2.1 (G (pxCnt (L.take j)))).1 with
    | false =>
      have eO : pxBOrd s L T (pxCnt (L.take j)) t.1 (pxCnt (L.take (j + 1))) came G β.1 β.2.1 β.2.2.1 β.2.2.2 = (0, pxCnt (L.take (j + 1)), false, false, pxBSet G (pxCnt (L.take j)) (pxBHold s t.1 T.1.length β.1 β.2.1 (G (pxCnt (L.take j)))).2, β.1, β.2.1, β.2.2.1, β.2.2.2) := by unfold pxBOrd; rw [if_neg (by omega), if_neg cb, if_pos hd]
      rw [eO] at eL
      rw [if_neg (fun z => z rfl)] at eL
      rw [if_pos (show pxJ (pyB false) = 0 from rfl)]
      exact pxW_some.mpr ⟨V5', Or.inr (Or.inr ⟨rfl, m, _, came + 1, _, β, Int.le_refl _, eL, by omega, W5', Or.inl ⟨g, j + 1, rfl, g64⟩⟩)⟩
    | true =>
      have hn : ¬ (pxBHold s t.1 T.1.length β.1 β.2.1 (G (pxCnt (L.take j)))).1 = false := by rw [hd]; decide
      have pl := (pxP_lt (s := s) (p := (pxWh s t.1).2.1) pn).2
      have m0 := W5.2.1.2.2 (pxWh s t.1).2.1 (by omega) pl
      rw [← pxP_E (by omega) pl] at m0
      have ea : pxP s (pxWh s t.1).2.1 = pxAc s t.1 := rfl
      have pb := pyP_200 Gs.2.1 (pxWh s t.1).2.1
      rw [ea] at m0 pb
      rw [if_neg (show ¬ (pxJ (pyB true) = 0) by decide), pyN_g21 H5, px_bs, pyN_a599 H5 (by omega) (by omega), px_bs, m0]
      -- orders that steer
      have steers : pxSteer (pxAc s t.1) = true → pxAc s t.1 ≠ 58 → pxW (g_X12_workOrder_b103 h5 587 (pxJ (pxWh s t.1).2.1)) fun v h' => pyV pyQwo h h' ∧ pyOT (came + 1) s T L X v h' := by
        intro ste n58
        have ng : ¬ (pxAc s t.1 = 103 ∨ pxAc s t.1 = 71 ∨ pxAc s t.1 = 123) := fun z => by
          have := pxSteer_i.mp ste
          omega
        have eO : pxBOrd s L T (pxCnt (L.take j)) t.1 (pxCnt (L.take (j + 1))) came G β.1 β.2.1 β.2.2.1 β.2.2.2 = ((pxBStr s L t.1 (pxCnt (L.take (j + 1))) β.2.2.2).1, (pxBStr s L t.1 (pxCnt (L.take (j + 1))) β.2.2.2).2.1, (pxBStr s L t.1 (pxCnt (L.take (j + 1))) β.2.2.2).2.2.1, (pxBStr s L t.1 (pxCnt (L.take (j + 1))) β.2.2.2).2.2.2.1, pxBSet G (pxCnt (L.take j)) (pxBHold s t.1 T.1.length β.1 β.2.1 (G (pxCnt (L.take j)))).2, β.1, β.2.1, β.2.2.1, (pxBStr s L t.1 (pxCnt (L.take (j + 1))) β.2.2.2).2.2.2.2) := by
          unfold pxBOrd
          rw [if_neg (by omega), if_neg cb, if_neg hn, if_neg ng, if_pos ste]
        rw [eO] at eL
        unfold g_X12_workOrder_b103
        rw [pyN_rc H5, px_bs]
        exact pxW_b2 (n_workSteer A ne len W5' g e ste n58 g64 _ rfl eL (by omega)) fun v h6 q => pxW_some.mpr ⟨V5'.trans q.1, q.2⟩
      by_cases c58 : pxAc s t.1 = 58
      · have k0 := tp.2.1 c58
        have eO : pxBOrd s L T (pxCnt (L.take j)) t.1 (pxCnt (L.take (j + 1))) came G β.1 β.2.1 β.2.2.1 β.2.2.2 = (0, pxCnt (L.take (j + 1)), false, false, pxBSet G (pxCnt (L.take j)) (pxBHold s t.1 T.1.length β.1 β.2.1 (G (pxCnt (L.take j)))).2, β.1, β.2.1, β.2.2.1, β.2.2.2) := by
          unfold pxBOrd
          rw [if_neg (by omega), if_neg cb, if_neg hn, if_neg (by omega), if_pos (show pxSteer (pxAc s t.1) = true by rw [c58]; rfl)]
          unfold pxBStr
          rw [if_neg (by omega), if_neg (by omega), if_pos (Or.inl c58)]
        rw [eO] at eL
        rw [if_neg (fun z => z rfl)] at eL
        rw [if_pos (show pxJ (pxAc s t.1) = (58 : Int32) by rw [c58]; rfl)]
        exact pxW_some.mpr ⟨V5', Or.inr (Or.inr ⟨rfl, m, _, came + 1, _, β, Int.le_refl _, eL, by omega, W5', Or.inl ⟨g, j + 1, rfl, g64⟩⟩)⟩
      rw [if_neg (show ¬ (pxJ (pxAc s t.1) = (58 : Int32)) from py32 (a := pxAc s t.1) (b := 58) c58 (by omega) (by omega) (by omega) (by omega))]
      by_cases c113 : pxAc s t.1 = 113
      · rw [if_pos (show pxJ (pxAc s t.1) = (113 : Int32) by rw [c113]; rfl)]
        exact steers (by rw [c113]; rfl) c58
      rw [if_neg (show ¬ (pxJ (pxAc s t.1) = (113 : Int32)) from py32 (a := pxAc s t.1) (b := 113) c113 (by omega) (by omega) (by omega) (by omega))]
      by_cases c98 : pxAc s t.1 = 98
      · rw [if_pos (show pxJ (pxAc s t.1) = (98 : Int32) by rw [c98]; rfl)]
        exact steers (by rw [c98]; rfl) c58
      rw [if_neg (show ¬ (pxJ (pxAc s t.1) = (98 : Int32)) from py32 (a := pxAc s t.1) (b := 98) c98 (by omega) (by omega) (by omega) (by omega))]
      by_cases c84 : pxAc s t.1 = 84
      · rw [if_pos (show pxJ (pxAc s t.1) = (84 : Int32) by rw [c84]; rfl)]
        exact steers (by rw [c84]; rfl) c58
      rw [if_neg (show ¬ (pxJ (pxAc s t.1) = (84 : Int32)) from py32 (a := pxAc s t.1) (b := 84) c84 (by omega) (by omega) (by omega) (by omega))]
      by_cases c78 : pxAc s t.1 = 78
      · rw [if_pos (show pxJ (pxAc s t.1) = (78 : Int32) by rw [c78]; rfl)]
        exact steers (by rw [c78]; rfl) c58
      rw [if_neg (show ¬ (pxJ (pxAc s t.1) = (78 : Int32)) from py32 (a := pxAc s t.1) (b := 78) c78 (by omega) (by omega) (by omega) (by omega))]
      have nst : ¬ pxSteer (pxAc s t.1) = true := fun z => by
        have := pxSteer_i.mp z
        omega
      have grp : (pxAc s t.1 = 103 ∨ pxAc s t.1 = 71 ∨ pxAc s t.1 = 123) → pxW (g_X12_workOrder_b131 h5 587 (pxJ (pxWh s t.1).2.1)) fun v h' => pyV pyQwo h h' ∧ pyOT (came + 1) s T L X v h' := by
        intro cc
        have eO : pxBOrd s L T (pxCnt (L.take j)) t.1 (pxCnt (L.take (j + 1))) came G β.1 β.2.1 β.2.2.1 β.2.2.2 = (0, (if pxAc s t.1 = 123 ∨ (pxHolds s (pxFull s ((pxWh s t.1).2.1 + 2)) β.1.2.2.2.2.2.1 = decide (pxAc s t.1 = 103)) then pxCnt (L.take j) + 1 else pxCnt (L.take (j + 1))), false, false, pxBSet G (pxCnt (L.take j)) (pxBHold s t.1 T.1.length β.1 β.2.1 (G (pxCnt (L.take j)))).2, β.1, β.2.1, β.2.2.1, β.2.2.2) := by
          unfold pxBOrd
          rw [if_neg (by omega), if_neg cb, if_neg hn, if_pos cc]
        rw [eO] at eL
        rw [if_neg (fun z => z rfl)] at eL
        unfold g_X12_workOrder_b131 g_X12_workOrder_b147
        rw [pyN_rc H5, px_bs]
        refine pxW_b2 (n_workEach A W5' g e cc eL (by omega)) fun v h6 q => pxW_some.mpr ⟨V5'.trans (q.1.mono (fun k f z => Or.inl z)), q.2.ot ?_⟩
        rw [q.1.m (by unfold pyQwi pyQct pyQl pyQp pyQwa pyQru; omega)]
        exact g64
      by_cases c103 : pxAc s t.1 = 103
      · rw [if_pos (show pxJ (pxAc s t.1) = (103 : Int32) by rw [c103]; rfl)]
        exact grp (Or.inl c103)
      rw [if_neg (show ¬ (pxJ (pxAc s t.1) = (103 : Int32)) from py32 (a := pxAc s t.1) (b := 103) c103 (by omega) (by omega) (by omega) (by omega))]
      by_cases c71 : pxAc s t.1 = 71
      · rw [if_pos (show pxJ (pxAc s t.1) = (71 : Int32) by rw [c71]; rfl)]
        exact grp (Or.inr (Or.inl c71))
      rw [if_neg (show ¬ (pxJ (pxAc s t.1) = (71 : Int32)) from py32 (a := pxAc s t.1) (b := 71) c71 (by omega) (by omega) (by omega) (by omega))]
      by_cases c123 : pxAc s t.1 = 123
      · rw [if_pos (show pxJ (pxAc s t.1) = (123 : Int32) by rw [c123]; rfl)]
        exact grp (Or.inr (Or.inr c123))
      rw [if_neg (show ¬ (pxJ (pxAc s t.1) = (123 : Int32)) from py32 (a := pxAc s t.1) (b := 123) c123 (by omega) (by omega) (by omega) (by omega))]
      obtain ⟨aok, eend⟩ := tp.2.2.1 (fun z => by omega)
      have eO : pxBOrd s L T (pxCnt (L.take j)) t.1 (pxCnt (L.take (j + 1))) came G β.1 β.2.1 β.2.2.1 β.2.2.2 = ((pxBAct s (pxWh s t.1).2.1 (pxWh s t.1).2.2.1 (pxBHold s t.1 T.1.length β.1 β.2.1 (G (pxCnt (L.take j)))).2.2.2.1 T β.1 β.2.1 β.2.2.1 β.2.2.2).1, if (pxBAct s (pxWh s t.1).2.1 (pxWh s t.1).2.2.1 (pxBHold s t.1 T.1.length β.1 β.2.1 (G (pxCnt (L.take j)))).2.2.2.1 T β.1 β.2.1 β.2.2.1 β.2.2.2).2.1.2.2.2.2.1 = true then pxCnt L else pxCnt (L.take (j + 1)), false, false, pxBSet G (pxCnt (L.take j)) (pxBHold s t.1 T.1.length β.1 β.2.1 (G (pxCnt (L.take j)))).2, (pxBAct s (pxWh s t.1).2.1 (pxWh s t.1).2.2.1 (pxBHold s t.1 T.1.length β.1 β.2.1 (G (pxCnt (L.take j)))).2.2.2.1 T β.1 β.2.1 β.2.2.1 β.2.2.2).2) := by
        unfold pxBOrd
        rw [if_neg (by omega), if_neg cb, if_neg hn, if_neg (fun z => by omega), if_neg nst]
      rw [eO] at eL tO
      unfold g_X12_workOrder_b147
      rw [pyN_rc H5, px_bs]
      refine pxW_b2 (n_act_w (X := X) W5 g73 ca0 (by omega) Ru5 g71 g eK Wh5 ?_ t0 t1 aok nst cb (by rw [← eend]; exact n48) eL tO fu) fun v h6 q => pxW_some.mpr ⟨V5'.trans (q.1.mono (fun k f z => Or.inl (Or.inr (Or.inl z)))), q.2.ot ?_⟩
      · by_cases k3 : (pxWh s t.1).2.2.1 = 3
        · left; rw [← h3 k3]; exact hd
        · right; exact k3
      · rw [q.1.m (by unfold pyQwa; omega)]
        exact g64
  unfold f_X12_workOrder
  rw [pyN_rc H, px_bs, show (0 : Int32) = pxJ 0 from rfl]
  refine pxW_b2 (n_endOf0 H Gs t0 (by omega) ok) fun v h2 q => ?_
  obtain ⟨rfl, V2⟩ := q
  have B := key h2 V2
  rw [eap] at B
  have G2 : pxM h2 587 22 = s.length := by rw [V2.m (by unfold pyQp; omega)]; exact Gs.1
  rw [pyN_gI (V2.s H), px_bs, G2]
  by_cases gg : (s.length : Int) ≤ (pxTop s t.1).2.1
  · rw [if_pos (show pxJ (s.length : Int) ≤ pxJ (pxTop s t.1).2.1 from (pxJ_le (by omega) (by omega) (by omega) (by omega)).mpr gg), px_bs]
    rw [if_pos gg] at B
    exact B
  · rw [if_neg (show ¬ (pxJ (s.length : Int) ≤ pxJ (pxTop s t.1).2.1) from fun z => gg ((pxJ_le (by omega) (by omega) (by omega) (by omega)).mp z)), show pxJ (pxTop s t.1).2.1 + (1 : Int32) = pxJ ((pxTop s t.1).2.1 + 1) from pxJ_add _ 1]
    rw [if_neg gg] at B
    exact B
/-- what all orders with a line come to -/
def pyOL (c0 : Int) (s : List Int) (T : pxTx) (L : List (Int × List Int)) (X : Int × Int × pxFh × pxSto) (v : Int32) (h' : jw_H) : Prop :=
  (∃ r, v = pxJ r ∧ 1 ≤ r ∧ r ≤ 10 ∧ X.2.1 = r) ∨
  (v = pxJ 0 ∧ (pxM h' 587 71 = 1 ∨ (pxM h' 587 71 = 0 ∧ pxM h' 587 66 = T.1.length ∧ pxM h' 587 65 = T.1.length)) ∧ X.2.1 = 0 ∧ pyWz h' s T X) ∨
  (v = pxJ 0 ∧ pxM h' 587 71 = 0 ∧ ∃ m came G F S tk tn, c0 ≤ came ∧ tk < (T.1.length : Int) ∧ X = pxBLoop s L T m 0 false false came G (pxBNext T (0, 0, tk, tn, false, [], []), F, S, false) ∧ (400 - came) + (T.1.length - (tn + 1)) < m ∧ pyWb h' s T tk tn F S ∧ pxM h' 587 73 = came ∧ 0 ≤ came ∧ came ≤ 400 ∧ pyRu h' L G)
/-- behind the last order of a line -/
theorem n_workLine_b44 {c0 : Int} {h0 h : jw_H} {s : List Int} {T : pxTx} {L : List (Int × List Int)} {came : Int} {G : Nat → pxFg} {β : pxBe} {m : Nat} {X : Int × Int × pxFh × pxSto} (cc : c0 ≤ came) (V0 : pyV pyQwo h0 h) (W : pyWo h s T L came G β) (eX : X = pxBLoop s L T m (pxCnt L) false false came G β) (fu : (400 - came) + (T.1.length - β.1.2.2.2.1) < m) :
    pxW (g_X12_workLine_b44 h 587 (pxJ 0)) fun v h' => pyV pyQwo h0 h' ∧ pyOL c0 s T L X v h' := by
  obtain ⟨Ws, e73, ca0, ca1, Ru, e71⟩ := W
  have tnb := Ws.2.2.2.2.2.2.1.2.2.2.2.2.2.2.2
  obtain ⟨m, rfl⟩ : ∃ m', m = m' + 1 := ⟨m - 1, by omega⟩
  have H := Ws.1
  rw [pyLoop_e (by omega)] at eX
  unfold g_X12_workLine_b44 g_X12_workLine_b63
  rw [if_neg (show ¬ ((0 : Int32) < pxJ 0) by decide), pyN_gI H, px_bs, e71, if_pos (show pxJ 0 = 0 from rfl), pyN_rc H, px_bs]
  refine pxW_b2 (n_putWork Ws (by omega)) fun v h1 q => pxW_some.mpr ?_
  obtain ⟨V1, pn1, ps1⟩ := q
  have V1' : pyV pyQwo h0 h1 := V0.trans (V1.mono (fun k f z => Or.inr (Or.inr (Or.inl z))))
  refine ⟨V1', ?_⟩
  cases eF : pxBEnd β.1 β.2.1 with
  | none =>
    rw [eF] at eX
    exact Or.inl ⟨4, pn1 eF, by omega, by omega, by rw [eX]; rfl⟩
  | some F =>
    obtain ⟨a1, a2, a3, a4, a5⟩ := ps1 F eF
    have Wb := Ws.put V1 a2 a3 a4 a5
    have f73 : pxM h1 587 73 = came := by rw [V1.m (by unfold pyQpn pyQpt; omega)]; exact e73
    have f71 : pxM h1 587 71 = 0 := by rw [V1.m (by unfold pyQpn pyQpt; omega)]; exact e71
    rw [eF] at eX
    dsimp only [Option.elim] at eX
    rw [if_neg (show ¬ (false = true) by decide)] at eX
    by_cases d : β.1.2.2.1 < (T.1.length : Int)
    · rw [if_pos d, if_neg (show ¬ (false = true) by decide)] at eX
      exact Or.inr (Or.inr ⟨a1, f71, m, came, G, F, β.2.2.1, β.1.2.2.1, β.1.2.2.2.1, cc, d, eX, by omega, Wb, f73, ca0, ca1, Ru.keep V1 (fun k f z => by unfold pyQru at z; unfold pyQpn pyQpt; omega)⟩)
    · rw [if_neg d] at eX
      obtain ⟨Hh, Gg, Ll, Yy, Nn, Mm, e65, e66, e69, e17, b2, b3, Bb⟩ := Wb
      have Mm' : pyMk h1 F.2.1 F.2.2 (pxIds F.1) := by
        rw [List.drop_eq_nil_of_le (by omega)] at Mm
        have e0 : pxIds ([] : pxLs) = [] := rfl
        rw [e0, List.append_nil] at Mm
        exact Mm
      right; left
      rw [eX]
      exact ⟨a1, Or.inr ⟨f71, by rw [e66]; omega, e65⟩, rfl, Hh, Gg, Ll, Yy, Nn, Mm', e17, Bb, f73, ca0, ca1⟩
set_option maxHeartbeats 8000000 in
theorem n_workLine_b4 {c0 : Int} {s : List Int} {T : pxTx} {L : List (Int × List Int)} {h0 : jw_H} {X : Int × Int × pxFh × pxSto} (A : pyLs s 0 L) (ne : L ≠ []) (len : L.length ≤ 100) : ∀ (d N : Nat) (h : jw_H) (j m : Nat) (came : Int) (G : Nat → pxFg) (β : pxBe), 400 - came < d → d < N → (c0 ≤ came ∨ (c0 ≤ came + 1 ∧ j < L.length)) → pyV pyQwo h0 h → pyWo h s T L came G β → β.1.2.2.2.2.1 = false → X = pxBLoop s L T m (pxCnt (L.take j)) false false came G β → (400 - came) + (T.1.length - β.1.2.2.2.1) < m →
    pxW (f_X12_workLine_b4 N h 587 (pxJ (pyAp s L j)) (pxJ 0)) fun v h' => pyV pyQwo h0 h' ∧ pyOL c0 s T L X v h' := by
  intro d
  induction d with
  | zero =>
    intro N h j m came G β hm hN cc V0 W g eX fu
    have := W.2.2.2.1
    omega
  | succ d ih =>
    intro N h j m came G β hm hN cc V0 W g eX fu
    obtain ⟨N, rfl, hN⟩ := px_fu hN
    have W0 := W
    have H := W.1.1
    have Gs := W.1.2.1
    have l60 := Gs.2.1.1
    have e71 := W.2.2.2.2.2
    have w70 : pxM h 587 70 = pyB (!β.1.2.2.2.2.1) := W.1.2.2.2.2.2.2.1.2.2.2.2.2.2.2.1
    rw [u_X12_workLine_b4]
    unfold g_X12_workLine_b4
    rw [pyN_gI H, px_bs, Gs.1]
    cases e : L[j]? with
    | none =>
      have jl : L.length ≤ j := List.getElem?_eq_none_iff.mp e
      rw [pxCnt_le L j jl] at eX
      rw [pyAp_end jl, if_pos (Int32.le_refl _)]
      exact n_workLine_b44 (by omega) V0 W0 eX fu
    | some t =>
      obtain ⟨t0, t1, ok, et2, nx, eap⟩ := pyLs_at L 0 j t A e
      rw [pyAp_at e, if_neg (show ¬ (pxJ (s.length : Int) ≤ pxJ t.1) from fun z => by have := (pxJ_le (a := (s.length : Int)) (b := t.1) (by omega) (by omega) (by omega) (by omega)).mp z; omega), if_pos (show pxJ 0 = 0 from rfl), pyN_gI H, px_bs, w70, g, if_neg (show ¬ (pxJ (pyB (!false)) = 0) by decide), pyN_gI H, px_bs, e71, if_pos (show pxJ 0 = 0 from rfl), pyN_rc H, px_bs]
      refine pxW_b2 (n_workOrder A ne len W0 g e eX fu) fun v h1 q => ?_
      obtain ⟨V1, O⟩ := q
      have V01 := V0.trans V1
      have H1 := V1.s H
      have G1 : pxM h1 587 22 = s.length := by rw [V1.m (by unfold pyQwo pyQwi pyQct pyQl pyQp pyQwa pyQru pyQj pyQp pyQpn pyQpt pyQpr pyQpt pyQtn; omega)]; exact Gs.1
      rw [pyN_gI H1, px_bs]
      rcases O with ⟨r, rfl, r1, r10, eXr⟩ | ⟨rfl, f71, x0, Z⟩ | ⟨rfl, m', K', came', G', β', cm, eX', fu', W', O⟩
      · obtain ⟨N, rfl⟩ : ∃ N', N = N' + 1 := ⟨N - 1, by omega⟩
        have fin : pxW (g_X12_workLine_b44 h1 587 (pxJ r)) fun v h' => pyV pyQwo h0 h' ∧ pyOL c0 s T L X v h' := by
          unfold g_X12_workLine_b44 g_X12_workLine_b55 g_X12_workLine_b63
          rw [if_pos (show (0 : Int32) < pxJ r from (pxJ_lt (a := 0) (b := r) (by omega) (by omega) (by omega) (by omega)).mpr (by omega))]
          exact pxW_some.mpr ⟨V01, Or.inl ⟨r, rfl, r1, r10, eXr⟩⟩
        rw [u_X12_workLine_b4]
        unfold g_X12_workLine_b4
        rw [pyN_gI H1, px_bs]
        by_cases y : pxJ (pxM h1 587 22) ≤ pxJ (pxM h1 587 64)
        · rw [if_pos y]; exact fin
        · rw [if_neg y, if_neg (show ¬ (pxJ r = 0) from py32 (a := r) (b := 0) (by omega) (by omega) (by omega) (by omega) (by omega))]
          exact fin
      · obtain ⟨N, rfl⟩ : ∃ N', N = N' + 1 := ⟨N - 1, by omega⟩
        have fin : pxW (g_X12_workLine_b44 h1 587 (pxJ 0)) fun v h' => pyV pyQwo h0 h' ∧ pyOL c0 s T L X v h' := by
          unfold g_X12_workLine_b44 g_X12_workLine_b55 g_X12_workLine_b63
          rw [if_neg (show ¬ ((0 : Int32) < pxJ 0) by decide), pyN_gI H1, px_bs, f71, if_neg (show ¬ (pxJ 1 = 0) by decide)]
          exact pxW_some.mpr ⟨V01, Or.inr (Or.inl ⟨rfl, Or.inl f71, x0, Z⟩)⟩
        rw [u_X12_workLine_b4]
        unfold g_X12_workLine_b4
        rw [pyN_gI H1, px_bs]
        by_cases y : pxJ (pxM h1 587 22) ≤ pxJ (pxM h1 587 64)
        · rw [if_pos y]; exact fin
        · rw [if_neg y, if_pos (show pxJ 0 = 0 from rfl), pyN_gI H1, px_bs]
          by_cases y2 : pxJ (pxM h1 587 70) = 0
          · rw [if_pos y2]; exact fin
          · rw [if_neg y2, pyN_gI H1, px_bs, f71, if_neg (show ¬ (pxJ 1 = 0) by decide)]
            exact fin
      · rcases O with ⟨gf, j', eK', e64⟩ | ⟨gt, eK'⟩
        · rw [eK'] at eX'
          rw [e64]
          exact ih N h1 j' m' came' G' β' (by omega) (by omega) (Or.inl (by omega)) V01 W' gf eX' fu'
        · rw [eK'] at eX'
          obtain ⟨N, rfl⟩ : ∃ N', N = N' + 1 := ⟨N - 1, by omega⟩
          have fin := n_workLine_b44 (c0 := c0) (X := X) (by omega) V01 W' eX' fu'
          have w70' : pxM h1 587 70 = pyB (!β'.1.2.2.2.2.1) := W'.1.2.2.2.2.2.2.1.2.2.2.2.2.2.2.1
          rw [u_X12_workLine_b4]
          unfold g_X12_workLine_b4
          rw [pyN_gI H1, px_bs]
          by_cases y : pxJ (pxM h1 587 22) ≤ pxJ (pxM h1 587 64)
          · rw [if_pos y]; exact fin
          · rw [if_neg y, if_pos (show pxJ 0 = 0 from rfl), pyN_gI H1, px_bs, w70', gt, if_pos (show pxJ (pyB (!true)) = 0 from rfl)]
            exact fin
theorem n_workLine {s : List Int} {T : pxTx} {L : List (Int × List Int)} {h : jw_H} {X : Int × Int × pxFh × pxSto} {m : Nat} {came : Int} {G : Nat → pxFg} {β : pxBe} (A : pyLs s 0 L) (ne : L ≠ []) (len : L.length ≤ 100) (W : pyWo h s T L came G β) (g : β.1.2.2.2.2.1 = false) (eX : X = pxBLoop s L T m 0 false false came G β) (fu : (400 - came) + (T.1.length - β.1.2.2.2.1) < m) :
    pxW (f_X12_workLine h 587) fun v h' => pyV pyQwo h h' ∧ pyOL (came + 1) s T L X v h' := by
  have a0 : pyAp s L 0 = 0 := by
    cases L with
    | nil => exact absurd rfl ne
    | cons t r => rw [pyAp_at (t := t) rfl]; exact A.1
  unfold f_X12_workLine
  rw [show (0 : Int32) = pxJ 0 from rfl]
  have B := n_workLine_b4 (c0 := came + 1) (h0 := h) (X := X) A ne len 402 jw_FU h 0 m came G β (by have := W.2.2.1; omega) (by unfold jw_FU; omega) (Or.inr ⟨Int.le_refl _, List.length_pos_iff.mpr ne⟩) pyV.rfl W g (by rw [List.take_zero]; exact eX) fu
  rw [a0] at B
  exact B
