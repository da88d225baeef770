/-! the reference, line by line: an order of the list -/
set_option maxHeartbeats 8000000 in
theorem n_workEach {h : jw_H} {s : List Int} {T : pxTx} {L : List (Int × List Int)} {came : Int} {G : Nat → pxFg} {β : pxBe} {m j : Nat} {t : Int × List Int} {X : Int × Int × pxFh × pxSto} (A : pyLs s 0 L) (W : pyWo h s T L came G β) (g : β.1.2.2.2.2.1 = false) (e : L[j]? = some t) (cc : pxAc s t.1 = 103 ∨ pxAc s t.1 = 71 ∨ pxAc s t.1 = 123) (eX : X = pxBLoop s L T m (if pxAc s t.1 = 123 ∨ (pxHolds s (pxFull s ((pxWh s t.1).2.1 + 2)) β.1.2.2.2.2.2.1 = decide (pxAc s t.1 = 103)) then pxCnt (L.take j) + 1 else pxCnt (L.take (j + 1))) false false came G β) (fu : (400 - came) + (T.1.length - β.1.2.2.2.1) < m) :
    pxW (f_X12_workEach h 587 (pxJ (pxWh s t.1).2.1)) fun v h' => pyV pyQwi h h' ∧ pyOC came s T L X (pxCnt (L.take (j + 1))) v h' := by
  obtain ⟨t0, t1, ok, et2, nx, eap⟩ := pyLs_at L 0 j t A e
  have wb := pxWh_b (s := s) t0 (by omega)
  have tp := pyTop_a ok
  have tb := pxTop_b (s := s) t0 (by omega)
  have W0 := W
  have H := W.1.1
  have Gs := W.1.2.1
  have l60 := Gs.2.1.1
  have okr := W.1.2.2.2.2.2.2.1.2.1
  have R := W.1.2.2.2.2.2.2.1.1
  have n48 : pxP s (pxTop s t.1).2.1 ≠ 48 := by
    intro z
    rcases nx with y | y
    · omega
    · have := (pxP_lt (s := s) (p := (pxTop s t.1).2.1) (by omega)).2
      omega
  have pn : pxP s (pxWh s t.1).2.1 ≠ -1 := by unfold pxAc at cc; omega
  have pl := (pxP_lt pn).2
  have m0 := Gs.2.2 (pxWh s t.1).2.1 (by omega) pl
  rw [← pxP_E (by omega) pl] at m0
  have ea : pxP s (pxWh s t.1).2.1 = pxAc s t.1 := rfl
  have ct := (pxCnt_take e).1
  have fin : ∀ i q, t.2[i]? = some q → (pxFl L 0)[pxCnt (L.take j) + 1 + i]? = some (q, pxCnt (L.take j) + 1 + i + 1) := by
    intro i q hq
    have := pyFl_in L 0 j i t q e hq
    rw [show 0 + (pxCnt (L.take j) + 1 + i) + 1 = pxCnt (L.take j) + 1 + i + 1 by omega] at this
    exact this
  unfold f_X12_workEach
  rw [pyN_g21 H, px_bs, pyN_a599 H (by omega) (by omega), px_bs, m0, ea]
  by_cases c123 : pxAc s t.1 = 123
  · obtain ⟨y1, y2⟩ := tp.2.2.2.1 c123
    have ep : pyPs s (pxWh s t.1).2.1 = pxBlk s 61 ((pxWh s t.1).2.1 + 1) := by unfold pyPs; rw [ea, if_pos c123]
    have e2 : (pyPs s (pxWh s t.1).2.1).2.2 = t.2 := by rw [ep, ← y2, et2]
    rw [if_pos (Or.inl c123)] at eX
    rw [if_pos (show pxJ (pxAc s t.1) = (123 : Int32) by rw [c123]; rfl), pyN_rc H, px_bs]
    have P := n_workParts (z := (pxWh s t.1).2.1) (K := pxCnt (L.take j) + 1) A W0 g (by omega) (by omega) (by rw [ep]; exact y1) (by rw [ep, ← y2]; exact n48) (by rw [e2]; exact fin) eX fu
    rw [e2, ← ct] at P
    exact pxW_b2 P fun v h1 q => pxW_some.mpr q
  have c2 : pxAc s t.1 = 103 ∨ pxAc s t.1 = 71 := by omega
  obtain ⟨y1, y2, y3⟩ := tp.2.2.2.2 c2
  obtain ⟨K, p47, ep⟩ := pyPtn_ok y1 (by omega) (by omega)
  have pb := pxPat_b (s := s) (p := (pxWh s t.1).2.1 + 2) K.1 K.2.1
  have pl2 := (pxP_lt (s := s) (p := (pxPat s ((pxWh s t.1).2.1 + 2)).2) (by omega)).2
  have cp := pyC_f Gs.2.1 (p := (pxPat s ((pxWh s t.1).2.1 + 2)).2) (by omega)
  rw [if_neg (show ¬ (pxJ (pxAc s t.1) = (123 : Int32)) from py32 (a := pxAc s t.1) (b := 123) c123 (by omega) (by omega) (by omega) (by omega)), pyN_rc H, px_bs, show pxJ (pxWh s t.1).2.1 + (2 : Int32) = pxJ ((pxWh s t.1).2.1 + 2) from pxJ_add _ 2, show (47 : Int32) = pxJ 47 from rfl]
  refine pxW_b2 (n_compile (u := 47) (p := (pxWh s t.1).2.1 + 2) (by omega) H Gs (by omega) (by omega) K.2.2 (by omega)) fun _ h1 w => ?_
  obtain ⟨V1, C, e37⟩ := w
  have H1 := V1.s H
  have V1' : pyV pyQwi h h1 := V1.mono (fun k f z => by unfold pyQk at z; unfold pyQwi pyQct pyQl; omega)
  have W1 : pyWo h1 s T L came G β := W0.keep V1 (fun k f z => by unfold pyQWs pyQru at z; unfold pyQk; omega)
  rw [pyN_gI H1, px_bs, e37, pyN_rc H1, px_bs, show (429 : Int32) = pxJ 429 from rfl, show (0 : Int32) = pxJ 0 from rfl]
  refine pxW_b2 (n_finds K (i := 429) (fr := 0) ⟨H1, W1.1.2.1, W1.1.2.2.2.2.2.2.1.1, C⟩ (by omega) (by omega) okr (by omega) (by omega)) fun v h2 q2 => ?_
  obtain ⟨V2, S2⟩ := q2
  have H2 := V2.s H1
  have V2' : pyV pyQwi h h2 := V1'.trans (V2.mono (fun k f z => by unfold pyQn at z; unfold pyQwi pyQct pyQl; omega))
  have W2 : pyWo h2 s T L came G β := W1.keep V2 (fun k f z => by unfold pyQWs pyQru at z; unfold pyQn; omega)
  have hv : v = pxJ (if (pxFind s β.1.2.2.2.2.2.1 (pxFull s ((pxWh s t.1).2.1 + 2)) 0 false).isSome = true then 1 else 0) := by
    cases y : pxFind s β.1.2.2.2.2.2.1 (pxFull s ((pxWh s t.1).2.1 + 2)) 0 false with
    | none => rw [y] at S2; exact S2.1 rfl
    | some w => rw [y] at S2; exact (S2.2 w.1 w.2.1 w.2.2.1 w.2.2.2 rfl).1
  have eh : (pxFind s β.1.2.2.2.2.2.1 (pxFull s ((pxWh s t.1).2.1 + 2)) 0 false).isSome = pxHolds s (pxFull s ((pxWh s t.1).2.1 + 2)) β.1.2.2.2.2.2.1 := rfl
  rw [eh] at hv
  have ez : pxJ (pxPat s ((pxWh s t.1).2.1 + 2)).2 + (1 : Int32) = pxJ (pxPtn s ((pxWh s t.1).2.1 + 1)).2 := by rw [ep]; exact pxJ_add _ 1
  have e2 : (pyPs s (pxPtn s ((pxWh s t.1).2.1 + 1)).2).2.2 = t.2 := by rw [← y3, et2]
  have z1 : (pxPtn s ((pxWh s t.1).2.1 + 1)).2 < s.length := by
    have y2' := y2
    unfold pyPs at y2'
    by_cases gg : pxP s (pxPtn s ((pxWh s t.1).2.1 + 1)).2 = 123
    · exact (pxP_lt (by omega)).2
    · rw [if_neg gg] at y2'
      have ib := pxInn_b (s := s) (p := (pxPtn s ((pxWh s t.1).2.1 + 1)).2) (by omega) (by omega)
      have := ib.2.2 y2'
      omega
  have enter : pxHolds s (pxFull s ((pxWh s t.1).2.1 + 2)) β.1.2.2.2.2.2.1 = decide (pxAc s t.1 = 103) → pxW (jw_b2 (f_X12_workParts h2 587 (pxJ (pxPtn s ((pxWh s t.1).2.1 + 1)).2)) fun w4 h3 => g_X12_workEach_b66 h3 w4) fun v h' => pyV pyQwi h h' ∧ pyOC came s T L X (pxCnt (L.take (j + 1))) v h' := by
    intro y
    rw [if_pos (Or.inr y)] at eX
    have P := n_workParts (z := (pxPtn s ((pxWh s t.1).2.1 + 1)).2) (K := pxCnt (L.take j) + 1) A W2 g (by omega) z1 y2 (by rw [← y3]; exact n48) (by rw [e2]; exact fin) eX fu
    rw [e2, ← ct] at P
    unfold g_X12_workEach_b66
    exact pxW_b2 P fun v h3 q => pxW_some.mpr ⟨V2'.trans q.1, q.2⟩
  have skip : ¬ (pxHolds s (pxFull s ((pxWh s t.1).2.1 + 2)) β.1.2.2.2.2.2.1 = decide (pxAc s t.1 = 103)) → pxW (g_X12_workEach_b66 h2 (0 : Int32)) fun v h' => pyV pyQwi h h' ∧ pyOC came s T L X (pxCnt (L.take (j + 1))) v h' := by
    intro y
    rw [if_neg (fun z => z.elim c123 y)] at eX
    unfold g_X12_workEach_b66
    exact pxW_some.mpr ⟨V2', Or.inr ⟨rfl, m, _, came, G, β, Int.le_refl _, eX, fu, W2, fun _ => rfl, fun z => by rw [g] at z; cases z⟩⟩
  unfold g_X12_workEach_b54
  rw [hv]
  by_cases c103 : pxAc s t.1 = 103
  · rw [decide_eq_true c103] at enter skip
    rw [if_pos (show pxJ (pxAc s t.1) = (103 : Int32) by rw [c103]; rfl), ez]
    cases y : pxHolds s (pxFull s ((pxWh s t.1).2.1 + 2)) β.1.2.2.2.2.2.1 with
    | true =>
      rw [if_pos rfl, if_pos (show pxJ 1 = (1 : Int32) from rfl), pyN_rc H2, px_bs]
      exact enter y
    | false =>
      rw [if_neg (show ¬ (false = true) by decide), if_neg (show ¬ (pxJ 0 = (1 : Int32)) by decide)]
      exact skip (by rw [y]; decide)
  · rw [decide_eq_false c103] at enter skip
    rw [if_neg (show ¬ (pxJ (pxAc s t.1) = (103 : Int32)) from py32 (a := pxAc s t.1) (b := 103) c103 (by omega) (by omega) (by omega) (by omega)), ez]
    cases y : pxHolds s (pxFull s ((pxWh s t.1).2.1 + 2)) β.1.2.2.2.2.2.1 with
    | true =>
      rw [if_pos rfl, if_neg (show ¬ (pxJ 1 = pxJ 0) by decide)]
      exact skip (by rw [y]; decide)
    | false =>
      rw [if_neg (show ¬ (false = true) by decide), if_pos (show pxJ 0 = pxJ 0 from rfl), pyN_rc H2, px_bs]
      exact enter y
/-- the state behind the last line -/
def pyWz (h : jw_H) (s : List Int) (T : pxTx) (X : Int × Int × pxFh × pxSto) : Prop :=
  pyS h ∧ pyG h s ∧ pyL h T.1 ∧ pyY h X.2.2.2 ∧ pyNw h X.2.2.1.1 ∧ pyMk h X.2.2.1.2.1 X.2.2.1.2.2 (pxIds X.2.2.1.1) ∧ pxM h 587 17 = X.2.2.1.2.2 ∧ pyBd T X.2.2.1 ∧ pxM h 587 73 = X.1 ∧ 0 ≤ X.1 ∧ X.1 ≤ 400
/-- what an order of the list comes to -/
def pyOT (c0 : Int) (s : List Int) (T : pxTx) (L : List (Int × List Int)) (X : Int × Int × pxFh × pxSto) (v : Int32) (h' : jw_H) : Prop :=
  (∃ r, v = pxJ r ∧ 1 ≤ r ∧ r ≤ 10 ∧ X.2.1 = r) ∨
  (v = pxJ 0 ∧ pxM h' 587 71 = 1 ∧ X.2.1 = 0 ∧ pyWz h' s T X) ∨
  (v = pxJ 0 ∧ ∃ m K' came' G' β', c0 ≤ came' ∧ X = pxBLoop s L T m K' false false came' G' β' ∧ (400 - came') + (T.1.length - β'.1.2.2.2.1) < m ∧ pyWo h' s T L came' G' β' ∧ ((β'.1.2.2.2.2.1 = false ∧ ∃ j', K' = pxCnt (L.take j') ∧ pxM h' 587 64 = pyAp s L j') ∨ (β'.1.2.2.2.2.1 = true ∧ K' = pxCnt L)))
theorem pyOC.ot {c0 : Int} {s : List Int} {T : pxTx} {L : List (Int × List Int)} {X : Int × Int × pxFh × pxSto} {j : Nat} {v : Int32} {h' : jw_H} (O : pyOC c0 s T L X (pxCnt (L.take j)) v h') (e64 : pxM h' 587 64 = pyAp s L j) : pyOT c0 s T L X v h' := by
  rcases O with O | ⟨rv, m, K', came', G', β', cm, eX, fu, W, kF, kT⟩
  · exact Or.inl O
  · right; right
    refine ⟨rv, m, K', came', G', β', cm, eX, fu, W, ?_⟩
    cases gt : β'.1.2.2.2.2.1 with
    | false => exact Or.inl ⟨rfl, j, kF gt, e64⟩
    | true => exact Or.inr ⟨rfl, kT gt⟩
def pyQwo : Nat → Nat → Prop := fun k f => pyQwi k f ∨ pyQj k f ∨ pyQpn k f ∨ pyQpr k f ∨ pyQtn k f ∨ (k = 587 ∧ f = 71)
set_option maxHeartbeats 8000000 in
theorem n_workSteer {h : jw_H} {s : List Int} {T : pxTx} {L : List (Int × List Int)} {came : Int} {G : Nat → pxFg} {β : pxBe} {m j : Nat} {t : Int × List Int} {X : Int × Int × pxFh × pxSto} (A : pyLs s 0 L) (ne : L ≠ []) (len : L.length ≤ 100) (W : pyWo h s T L came G β) (g : β.1.2.2.2.2.1 = false) (e : L[j]? = some t) (ste : pxSteer (pxAc s t.1) = true) (n58 : pxAc s t.1 ≠ 58) (e64 : pxM h 587 64 = pyAp s L (j + 1)) (R : Int × Nat × Bool × Bool × Bool) (eR : R = pxBStr s L t.1 (pxCnt (L.take (j + 1))) β.2.2.2) (eX : X = if R.1 ≠ 0 then (came, R.1, β.2.1, β.2.2.1) else pxBLoop s L T m R.2.1 R.2.2.1 R.2.2.2.1 came G (β.1, β.2.1, β.2.2.1, R.2.2.2.2)) (fu : (400 - came) + (T.1.length - β.1.2.2.2.1) < m) :
    pxW (f_X12_workSteer h 587 (pxJ (pxWh s t.1).2.1)) fun v h' => pyV pyQwo h h' ∧ pyOT came s T L X v h' := by
  obtain ⟨t0, t1, ok, et2, -, -⟩ := pyLs_at L 0 j t A e
  have wb := pxWh_b (s := s) t0 (by omega)
  have W0 := W
  obtain ⟨Ws, e73, ca0, ca1, Ru, e71⟩ := W
  have tnb := Ws.2.2.2.2.2.2.1.2.2.2.2.2.2.2.2
  obtain ⟨m, rfl⟩ : ∃ m', m = m' + 1 := ⟨m - 1, by omega⟩
  have H := Ws.1
  have Gs := Ws.2.1
  have l60 := Gs.2.1.1
  have l40 := Ws.2.2.1.2.1
  have e44 : pxM h 587 44 = pyB β.2.2.2 := Ws.2.2.2.2.2.2.2.2.2.1
  have hc : pxAc s t.1 = 98 ∨ pxAc s t.1 = 84 ∨ pxAc s t.1 = 113 ∨ pxAc s t.1 = 78 := by
    have := pxSteer_i.mp ste
    omega
  have pn : pxP s (pxWh s t.1).2.1 ≠ -1 := by unfold pxAc at hc; omega
  have pl := (pxP_lt pn).2
  have m0 := Gs.2.2 (pxWh s t.1).2.1 (by omega) pl
  rw [← pxP_E (by omega) pl] at m0
  have ea : pxP s (pxWh s t.1).2.1 = pxAc s t.1 := rfl
  have n6 : ¬ (6 : Int) = 0 := by decide
  -- a jump
  have jmp : ∀ (h1 : jw_H) (rp : Bool), pyV pyQwo h h1 → pyWo h1 s T L came G (β.1, β.2.1, β.2.2.1, rp) → (pxAc s t.1 = 98 ∨ pxAc s t.1 = 84) → (X = if pxOn s (pxWh s t.1).2.1 = -1 then pxBLoop s L T (m + 1) (pxCnt L) false false came G (β.1, β.2.1, β.2.2.1, rp) else if pxBeh s (pxOn s (pxWh s t.1).2.1) L 0 = -1 then (came, 6, β.2.1, β.2.2.1) else pxBLoop s L T (m + 1) (pxCnt (L.take (pxBeh s (pxOn s (pxWh s t.1).2.1) L 0).toNat)) false false came G (β.1, β.2.1, β.2.2.1, rp)) → pxW (f_X12_jump h1 587 (pxJ (pxWh s t.1).2.1)) fun v h' => pyV pyQwo h h' ∧ pyOT came s T L X v h' := by
    intro h1 rp V1 W1 c eX1
    refine pxW.mono (n_jump W1.1.1 W1.1.2.1 A ne len (pa := (pxWh s t.1).2.1) (by omega) (by omega)) fun v h' q => ?_
    obtain ⟨V, ev, f64⟩ := q
    have ej := pyJp_of (pa := (pxWh s t.1).2.1) A c
    have W' : pyWo h' s T L came G (β.1, β.2.1, β.2.2.1, rp) := W1.keep V (fun k f z => by unfold pyQWs pyQru at z; unfold pyQj pyQp; omega)
    refine ⟨V1.trans (V.mono (fun k f z => Or.inr (Or.inl z))), ?_⟩
    by_cases d : pxOn s (pxWh s t.1).2.1 = -1
    · rw [if_pos d] at ej eX1
      rw [ej] at ev f64
      rw [if_neg (by omega)] at ev
      exact Or.inr (Or.inr ⟨ev, m + 1, _, came, G, _, Int.le_refl _, eX1, fu, W', Or.inl ⟨g, L.length, by rw [List.take_length], by rw [pyAp_end (Nat.le_refl _)]; exact f64⟩⟩)
    · rw [if_neg d] at ej eX1
      by_cases y : pxBeh s (pxOn s (pxWh s t.1).2.1) L 0 = -1
      · rw [if_pos y] at ej eX1
        rw [ej, if_pos rfl] at ev
        exact Or.inl ⟨6, ev, by omega, by omega, by rw [eX1]⟩
      · rw [if_neg y] at ej eX1
        have ap0 : 0 ≤ pyAp s L (pxBeh s (pxOn s (pxWh s t.1).2.1) L 0).toNat := by
          cases e2 : L[(pxBeh s (pxOn s (pxWh s t.1).2.1) L 0).toNat]? with
          | none => unfold pyAp; rw [e2]; show (0 : Int) ≤ s.length; omega
          | some t2 => rw [pyAp_at e2]; exact (pyLs_at L 0 _ t2 A e2).1
        rw [ej] at f64
        rw [ej, if_neg (by omega)] at ev
        exact Or.inr (Or.inr ⟨ev, m + 1, _, came, G, _, Int.le_refl _, eX1, fu, W', Or.inl ⟨g, _, rfl, f64⟩⟩)
  unfold f_X12_workSteer
  rw [pyN_g21 H, px_bs, pyN_a599 H (by omega) (by omega), px_bs, m0, ea]
  unfold pxBStr at eR
  by_cases c98 : pxAc s t.1 = 98
  · rw [if_neg (by omega), if_neg (by omega), if_neg (by omega)] at eR
    rw [if_pos (show pxJ (pxAc s t.1) = (98 : Int32) by rw [c98]; rfl), pyN_rc H, px_bs]
    refine pxW_b2 (jmp h β.2.2.2 pyV.rfl W0 (Or.inl c98) ?_) fun v h1 q => pxW_some.mpr q
    rw [eX, eR]
    by_cases d : pxOn s (pxWh s t.1).2.1 = -1
    · rw [if_pos d, if_pos d, if_neg (fun z => z rfl)]
    · rw [if_neg d, if_neg d]
      by_cases y : pxBeh s (pxOn s (pxWh s t.1).2.1) L 0 = -1
      · rw [if_pos y, if_pos y, if_pos (show ((6 : Int), pxCnt (L.take (pxBeh s (pxOn s (pxWh s t.1).2.1) L 0).toNat), false, false, (if pxAc s t.1 = 84 then false else β.2.2.2)).1 ≠ 0 from n6)]
      · rw [if_neg y, if_neg y, if_neg (fun z => z rfl)]
        show pxBLoop s L T (m + 1) _ false false came G (β.1, β.2.1, β.2.2.1, if pxAc s t.1 = 84 then false else β.2.2.2) = _
        rw [if_neg (show ¬ pxAc s t.1 = 84 by omega)]
  rw [if_neg (show ¬ (pxJ (pxAc s t.1) = (98 : Int32)) from py32 (a := pxAc s t.1) (b := 98) c98 (by omega) (by omega) (by omega) (by omega))]
  by_cases c84 : pxAc s t.1 = 84
  · rw [if_neg (by omega), if_neg (by omega)] at eR
    rw [if_pos (show pxJ (pxAc s t.1) = (84 : Int32) by rw [c84]; rfl), pyN_gI H, px_bs, e44, pyN_pB H 44 (0 : Int32) (Or.inl rfl), px_bs, show (0 : Int32) = pxJ 0 from rfl]
    have V1 : pyV (fun k f => k = 587 ∧ f = 44) h (jw_setI h 587 44 (pxJ 0)) := pyV.rfl.set ⟨rfl, rfl⟩
    have f44 : pxM (jw_setI h 587 44 (pxJ 0)) 587 44 = 0 := by rw [pxM_eq (by omega) (by omega)]
    generalize jw_setI h 587 44 (pxJ 0) = h1 at *
    have V1' : pyV pyQwo h h1 := V1.mono (fun k f z => by unfold pyQwo pyQtn; omega)
    have W1 : pyWo h1 s T L came G (β.1, β.2.1, β.2.2.1, false) := by
      obtain ⟨Hh, Gg, Ll, Yy, Nn, Mm, Wf, Dd, e17, -, Bb⟩ := Ws
      exact ⟨⟨V1.s Hh, Gg.keep V1 (by omega) (fun f _ => by omega), Ll.keep V1 (fun f _ => by omega) (fun f _ => by omega) (by omega), Yy.keep V1 (fun k f z => by omega), Nn.keep V1 (fun k f z => by omega), Mm.keep V1 (fun f _ => by omega), Wf.keep V1 (fun k f z => by omega), Dd.keep V1 (Int.le_refl _) (fun k f z => by omega), by rw [V1.m (by omega)]; exact e17, f44, Bb⟩, by rw [V1.m (by omega)]; exact e73, ca0, ca1, Ru.keep V1 (fun k f z => by unfold pyQru at z; omega), by rw [V1.m (by omega)]; exact e71⟩
    have g64 : pxM h1 587 64 = pyAp s L (j + 1) := by rw [V1.m (by omega)]; exact e64
    unfold g_X12_workSteer_b48
    cases rp : β.2.2.2 with
    | false =>
      rw [if_pos (Or.inr ⟨c84, rp⟩)] at eR
      rw [eR] at eX
      rw [if_neg (fun z => z rfl)] at eX
      rw [if_pos (show pxJ (pyB false) = pxJ 0 from rfl)]
      rw [rp] at eX
      exact pxW_some.mpr ⟨V1', Or.inr (Or.inr ⟨rfl, m + 1, _, came, G, _, Int.le_refl _, eX, fu, W1, Or.inl ⟨g, j + 1, rfl, g64⟩⟩)⟩
    | true =>
      rw [if_neg (show ¬ (pxAc s t.1 = 58 ∨ (pxAc s t.1 = 84 ∧ β.2.2.2 = false)) from fun z => z.elim n58 (fun z => by rw [rp] at z; cases z.2))] at eR
      rw [if_neg (show ¬ (pxJ (pyB true) = pxJ 0) by decide), pyN_rc W1.1.1, px_bs]
      refine pxW_b2 (jmp h1 false V1' W1 (Or.inr c84) ?_) fun v h2 q => pxW_some.mpr q
      rw [eX, eR]
      by_cases d : pxOn s (pxWh s t.1).2.1 = -1
      · rw [if_pos d, if_pos d, if_neg (fun z => z rfl)]
        rw [pyLoop_e (show ¬ (_ = false ∧ pxCnt L < pxCnt L) from fun z => Nat.lt_irrefl _ z.2)]
        first
        | rfl
        | rw [pyLoop_e (show ¬ (_ = false ∧ pxCnt L < pxCnt L) from fun z => Nat.lt_irrefl _ z.2)]
      · rw [if_neg d, if_neg d]
        by_cases y : pxBeh s (pxOn s (pxWh s t.1).2.1) L 0 = -1
        · rw [if_pos y, if_pos y, if_pos (show ((6 : Int), pxCnt (L.take (pxBeh s (pxOn s (pxWh s t.1).2.1) L 0).toNat), false, false, (if pxAc s t.1 = 84 then false else β.2.2.2)).1 ≠ 0 from n6)]
        · rw [if_neg y, if_neg y, if_neg (fun z => z rfl)]
          show pxBLoop s L T (m + 1) _ false false came G (β.1, β.2.1, β.2.2.1, if pxAc s t.1 = 84 then false else β.2.2.2) = _
          rw [if_pos c84]
  rw [if_neg (show ¬ (pxJ (pxAc s t.1) = (84 : Int32)) from py32 (a := pxAc s t.1) (b := 84) c84 (by omega) (by omega) (by omega) (by omega)), pyN_rc H, px_bs]
  refine pxW_b2 (n_putWork Ws (by omega)) fun v h1 q => ?_
  obtain ⟨V1, pn1, ps1⟩ := q
  have V1' : pyV pyQwo h h1 := V1.mono (fun k f z => Or.inr (Or.inr (Or.inl z)))
  have H1 := V1.s H
  have n4 : ¬ (4 : Int) = 0 := by decide
  -- the loop's end
  have eE : X = (pxBEnd β.1 β.2.1).elim (came, 4, β.2.1, β.2.2.1) fun F =>
      if pxAc s t.1 = 113 then (pxBRest (T.1.drop β.1.2.2.1.toNat) F).elim (came, 4, F, β.2.2.1) (fun F' => (came, 0, F', β.2.2.1))
      else if β.1.2.2.1 < (T.1.length : Int) then pxBLoop s L T m (pxCnt (L.take (j + 1))) false false came G (pxBNext T β.1, F, β.2.2.1, false)
      else (came, 0, F, β.2.2.1) := by
    by_cases c113 : pxAc s t.1 = 113
    · rw [if_pos c113] at eR
      rw [eX, eR, if_neg (fun z => z rfl)]
      rw [pyLoop_e (show ¬ (_ = false ∧ pxCnt L < pxCnt L) from fun z => Nat.lt_irrefl _ z.2)]
      simp only [if_pos c113, if_pos]
    · rw [if_neg c113, if_pos (by omega)] at eR
      rw [eX, eR, if_neg (fun z => z rfl)]
      rw [pyLoop_e (fun z => by cases z.1)]
      simp only [if_neg c113, Bool.false_eq_true, if_false, if_true]
  cases eF : pxBEnd β.1 β.2.1 with
  | none =>
    rw [eF] at eE
    rw [pn1 eF, if_neg (show ¬ (pxJ 4 ≤ (0 : Int32)) by decide)]
    exact pxW_some.mpr ⟨V1', Or.inl ⟨4, rfl, by omega, by omega, by rw [eE]; rfl⟩⟩
  | some F =>
    obtain ⟨a1, a2, a3, a4, a5⟩ := ps1 F eF
    have Wb := Ws.put V1 a2 a3 a4 a5
    have f73 : pxM h1 587 73 = came := by rw [V1.m (by unfold pyQpn pyQpt; omega)]; exact e73
    rw [eF] at eE
    dsimp only [Option.elim] at eE
    rw [a1, if_pos (show pxJ 0 ≤ (0 : Int32) by decide)]
    by_cases c113 : pxAc s t.1 = 113
    · rw [if_pos c113] at eE
      rw [if_pos (show pxJ (pxAc s t.1) = (113 : Int32) by rw [c113]; rfl), pyN_pB H1 71 (1 : Int32) (Or.inr rfl), px_bs, show (1 : Int32) = pxJ 1 from rfl]
      have V2 : pyV (fun k f => k = 587 ∧ f = 71) h1 (jw_setI h1 587 71 (pxJ 1)) := pyV.rfl.set ⟨rfl, rfl⟩
      have f71 : pxM (jw_setI h1 587 71 (pxJ 1)) 587 71 = 1 := by rw [pxM_eq (by omega) (by omega)]
      generalize jw_setI h1 587 71 (pxJ 1) = h2 at *
      have H2 := V2.s H1
      have Wb2 : pyWb h2 s T β.1.2.2.1 β.1.2.2.2.1 F β.2.2.1 := by
        obtain ⟨Hh, Gg, Ll, Yy, Nn, Mm, e65, e66, e69, e17, b2, b3, Bb⟩ := Wb
        exact ⟨H2, Gg.keep V2 (by omega) (fun f _ => by omega), Ll.keep V2 (fun f _ => by omega) (fun f _ => by omega) (by omega), Yy.keep V2 (fun k f z => by omega), Nn.keep V2 (fun k f z => by omega), Mm.keep V2 (fun f _ => by omega), by rw [V2.m (by omega)]; exact e65, by rw [V2.m (by omega)]; exact e66, by rw [V2.m (by omega)]; exact e69, by rw [V2.m (by omega)]; exact e17, b2, b3, Bb⟩
      rw [pyN_rc H2, px_bs]
      refine pxW_b2 (n_putRest Wb2) fun v h3 q => pxW_some.mpr ?_
      obtain ⟨V3, rn, rs⟩ := q
      have V3' : pyV pyQwo h h3 := (V1'.trans (V2.mono (fun k f z => Or.inr (Or.inr (Or.inr (Or.inr (Or.inr z))))))).trans (V3.mono (fun k f z => Or.inr (Or.inr (Or.inr (Or.inl z)))))
      refine ⟨V3', ?_⟩
      cases eQ : pxBRest (T.1.drop β.1.2.2.1.toNat) F with
      | none =>
        rw [eQ] at eE
        exact Or.inl ⟨4, rn eQ, by omega, by omega, by rw [eE]⟩
      | some F' =>
        obtain ⟨z1, z2, z3, z4, z5⟩ := rs F' eQ
        rw [eQ] at eE
        dsimp only [Option.elim] at eE
        obtain ⟨Hh, Gg, Ll, Yy, Nn, Mm, e65, e66, e69, e17, b2, b3, Bb⟩ := Wb2
        right; left
        rw [eE]
        refine ⟨z1, by rw [V3.m (by unfold pyQpr pyQpt; omega)]; exact f71, rfl, V3.s Hh, Gg.keep V3 (by unfold pyQpr pyQpt; omega) (fun f _ => by unfold pyQpr pyQpt; omega), Ll.keep V3 (fun f _ => by unfold pyQpr pyQpt; omega) (fun f _ => by unfold pyQpr pyQpt; omega) (by unfold pyQpr pyQpt; omega), Yy.keep V3 (fun k f z => by unfold pyQpr pyQpt; omega), z2, z5, ?_, ?_, ?_, ca0, ca1⟩
        · show pxM h3 587 17 = F'.2.2
          rw [V3.m (by unfold pyQpr pyQpt; omega), z3]; exact e17
        · show pyBd T F'
          unfold pyBd at Bb ⊢
          rw [z3]
          omega
        · show pxM h3 587 73 = came
          rw [V3.m (by unfold pyQpr pyQpt; omega), V2.m (by omega)]; exact f73
    · have c78 : pxAc s t.1 = 78 := by omega
      obtain ⟨Hh, Gg, Ll, Yy, Nn, Mm, e65, e66, e69, e17, b2, b3, Bb⟩ := id Wb
      rw [if_neg c113] at eE
      rw [if_neg (show ¬ (pxJ (pxAc s t.1) = (113 : Int32)) from py32 (a := pxAc s t.1) (b := 113) c113 (by omega) (by omega) (by omega) (by omega)), pyN_gI H1, px_bs, e66, pyN_gI H1, px_bs, e65]
      by_cases d : β.1.2.2.1 < (T.1.length : Int)
      · rw [if_pos d] at eE
        rw [if_neg (show ¬ (pxJ β.1.2.2.1 = pxJ (T.1.length : Int)) from py32 (a := β.1.2.2.1) (b := (T.1.length : Int)) (by omega) (by omega) (by omega) (by omega) (by omega)), pyN_rc H1, px_bs]
        refine pxW_b2 (n_takeNext Wb ca0 d) fun _ h2 q => pxW_some.mpr ?_
        obtain ⟨V2, W2⟩ := q
        have V2' : pyV pyQwo h h2 := V1'.trans (V2.mono (fun k f z => Or.inr (Or.inr (Or.inr (Or.inr (Or.inl z))))))
        refine ⟨V2', Or.inr (Or.inr ⟨rfl, m, _, came, G, (pxBNext T β.1, F, β.2.2.1, false), Int.le_refl _, eE, ?_, ⟨W2, ?_, ca0, ca1, (Ru.keep V1 (fun k f z => by unfold pyQru at z; unfold pyQpn pyQpt; omega)).keep V2 (fun k f z => by unfold pyQru at z; unfold pyQtn; omega), ?_⟩, Or.inl ⟨rfl, j + 1, rfl, ?_⟩⟩)⟩
        · show (400 - came) + ((T.1.length : Int) - (β.1.2.2.2.1 + 1)) < (m : Int)
          omega
        · rw [V2.m (by unfold pyQtn; omega)]; exact f73
        · rw [V2.m (by unfold pyQtn; omega), V1.m (by unfold pyQpn pyQpt; omega)]; exact e71
        · rw [V2.m (by unfold pyQtn; omega), V1.m (by unfold pyQpn pyQpt; omega)]; exact e64
      · rw [if_neg d] at eE
        rw [if_pos (show pxJ β.1.2.2.1 = pxJ (T.1.length : Int) by rw [show β.1.2.2.1 = (T.1.length : Int) by omega]), pyN_pB H1 71 (1 : Int32) (Or.inr rfl), px_bs, show (1 : Int32) = pxJ 1 from rfl]
        have V2 : pyV (fun k f => k = 587 ∧ f = 71) h1 (jw_setI h1 587 71 (pxJ 1)) := pyV.rfl.set ⟨rfl, rfl⟩
        have f71 : pxM (jw_setI h1 587 71 (pxJ 1)) 587 71 = 1 := by rw [pxM_eq (by omega) (by omega)]
        generalize jw_setI h1 587 71 (pxJ 1) = h2 at *
        have Mm' : pyMk h2 F.2.1 F.2.2 (pxIds F.1) := by
          have m1 := Mm.keep V2 (fun f _ => by omega)
          rw [List.drop_eq_nil_of_le (by omega)] at m1
          have e0 : pxIds ([] : pxLs) = [] := rfl
          rw [e0, List.append_nil] at m1
          exact m1
        refine pxW_some.mpr ⟨V1'.trans (V2.mono (fun k f z => Or.inr (Or.inr (Or.inr (Or.inr (Or.inr z)))))), Or.inr (Or.inl ?_)⟩
        rw [eE]
        exact ⟨rfl, f71, rfl, V2.s Hh, Gg.keep V2 (by omega) (fun f _ => by omega), Ll.keep V2 (fun f _ => by omega) (fun f _ => by omega) (by omega), Yy.keep V2 (fun k f z => by omega), Nn.keep V2 (fun k f z => by omega), Mm', by rw [V2.m (by omega)]; exact e17, Bb, by rw [V2.m (by omega)]; exact f73, ca0, ca1⟩
