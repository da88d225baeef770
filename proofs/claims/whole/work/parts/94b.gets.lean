/-! the reference's calls: what is only read -/
section
variable {h : jw_H} {α : pzA} {n : Int}
theorem pyA.n0 (A : pyA h α) (t : Int) (t0 : 0 ≤ t) (t1 : t ≤ 10) : pyV pyQZ h (jw_setI h 587 0 (pxJ t)) ∧ pxM (jw_setI h 587 0 (pxJ t)) 587 0 = t ∧ pyA (jw_setI h 587 0 (pxJ t)) α := by
  have Z := pyZ_0 (v := 0) (w := pxJ 0) A t0 t1 (fun _ => rfl)
  exact ⟨Z.1, Z.2.1, Z.2.2.2⟩
theorem n_thrown {t : Int} (H : pyS h) (e : pxM h 587 0 = t) : f_X12_thrown h 587 = some (pxJ t, h) := by
  unfold f_X12_thrown
  rw [pyN_gI H, px_bs, e]
theorem n_get {f : Nat} {v : Int} (A : pyA h α) (e : pxM h 587 f = v) (hf : f ≠ 0) : ((jw_pI h 12 (some 587) 0 (0 : Int32)).bind fun h1 => (jw_gI h1 12 (some 587) f).bind fun v2 => some (v2, h1)) = some (pxJ v, jw_setI h 587 0 (pxJ 0)) := by
  have H := A.1
  rw [show (0 : Int32) = pxJ 0 from rfl, pyN_pI H, px_bs]
  have H1 : pyS (jw_setI h 587 0 (pxJ 0)) := H
  rw [pyN_gI H1, px_bs, pxM_ne (by omega), e]
theorem n_reason (A : pyA h α) : pxW (f_X12_reason h 587) fun v h' => pyZ h (pz_reason α) v h' := by
  unfold f_X12_reason
  rw [n_get A A.2.2.2.2.2.2.2 (by decide)]
  exact pxW_some.mpr (pyZ_0 A (by omega) (by omega) (fun _ => rfl))
theorem n_deeds (A : pyA h α) : pxW (f_X12_deeds h 587) fun v h' => pyZ h (pz_deeds α) v h' := by
  obtain ⟨B, -, -, -, e62, -⟩ := A.2.2.2.2.2.1
  unfold f_X12_deeds
  rw [n_get A e62 (by decide)]
  exact pxW_some.mpr (pyZ_0 A (by omega) (by omega) (fun _ => rfl))
theorem n_lines (A : pyA h α) : pxW (f_X12_lines h 587) fun v h' => pyZ h (pz_lines α) v h' := by
  unfold f_X12_lines
  rw [n_get A A.2.2.2.1.1.1 (by decide)]
  exact pxW_some.mpr (pyZ_0 A (by omega) (by omega) (fun _ => rfl))
theorem n_present (A : pyA h α) : pxW (f_X12_present h 587) fun v h' => pyZ h (pz_present α) v h' := by
  unfold f_X12_present
  rw [n_get A A.2.2.2.1.2.2.1 (by decide)]
  exact pxW_some.mpr (pyZ_0 A (by omega) (by omega) (fun _ => rfl))
theorem n_held (A : pyA h α) : pxW (f_X12_held h 587) fun v h' => pyZ h (pz_held α) v h' := by
  unfold f_X12_held
  rw [n_get A A.2.2.2.2.1.2.1.1 (by decide)]
  exact pxW_some.mpr (pyZ_0 A (by omega) (by omega) (fun _ => rfl))
theorem n_outs (A : pyA h α) : pxW (f_X12_outs h 587) fun v h' => pyZ h (pz_outs α) v h' := by
  unfold f_X12_outs
  rw [n_get A A.2.2.2.2.1.2.2.1.1 (by decide)]
  exact pxW_some.mpr (pyZ_0 A (by omega) (by omega) (fun _ => rfl))
theorem n_clearOut (A : pyA h α) : pxW (f_X12_clearOut h 587) fun v h' => pyZ h (pz_clearOut α) v h' := by
  have H := A.1
  obtain ⟨z1, z2, A1⟩ := A.n0 0 (by omega) (by omega)
  unfold f_X12_clearOut
  rw [show (0 : Int32) = pxJ 0 from rfl, pyN_pI H, px_bs]
  generalize jw_setI h 587 0 (pxJ 0) = h1 at *
  have H1 := A1.1
  obtain ⟨-, Tp, Sc, X, Y, D, e63, e18⟩ := id A1
  obtain ⟨IS, He, Ou, Fi⟩ := Y
  rw [pyN_gI H1, px_bs, Ou.1, pyN_pI H1, px_bs]
  have V : pyV (fun k f => k = 587 ∧ f = 15) h1 (jw_setI h1 587 15 (pxJ 0)) := pyV.rfl.set ⟨rfl, rfl⟩
  have g15 : pxM (jw_setI h1 587 15 (pxJ 0)) 587 15 = 0 := by rw [pxM_eq (by omega) (by omega)]
  refine pxW_some.mpr ⟨z1.trans (V.mono (fun k f z => by unfold pyQZ; omega)), by rw [V.m (by omega)]; exact z2, fun _ => rfl, V.s H1, Tp.keep V (by omega) (fun f => by omega), Sc.keep V (fun k f z => by omega), X.keep V (fun k f z => by omega), ⟨⟨IS.1, ⟨by show (0 : Nat) ≤ 100; omega, pxOk_nil⟩, IS.2.2⟩, He.keep IS.1.1 IS.1.2 V (fun f _ _ => by omega) (by omega), ⟨g15, fun x x0 x1 => by
    have : x ≤ 0 := x1
    omega⟩, Fi.keep IS.2.2 V (fun f _ _ => by omega) (fun f _ => by omega)⟩, D.keep V (fun k f z => by unfold pyQnd at z; omega), by rw [V.m (by omega)]; exact e63, by rw [V.m (by omega)]; exact e18⟩
theorem n_wipe (A : pyA h α) : pxW (f_X12_wipe h 587) fun v h' => pyZ h (pz_wipe α) v h' := by
  have H := A.1
  obtain ⟨z1, z2, A1⟩ := A.n0 0 (by omega) (by omega)
  unfold f_X12_wipe
  rw [show (0 : Int32) = pxJ 0 from rfl, pyN_pI H, px_bs]
  generalize jw_setI h 587 0 (pxJ 0) = h1 at *
  have H1 := A1.1
  obtain ⟨-, Tp, Sc, X, Y, D, e63, e18⟩ := id A1
  rw [pyN_gI H1, px_bs, Tp.1, pyN_pI H1, px_bs]
  have V : pyV (fun k f => k = 587 ∧ f = 2) h1 (jw_setI h1 587 2 (pxJ 0)) := pyV.rfl.set ⟨rfl, rfl⟩
  exact pxW_some.mpr ⟨z1.trans (V.mono (fun k f z => by unfold pyQZ; omega)), by rw [V.m (by omega)]; exact z2, fun _ => rfl, V.s H1, ⟨by rw [pxM_eq (by omega) (by omega)]; rfl, fun j j0 j1 => by
    have : j < 0 := j1
    omega⟩, Sc.keep V (fun k f z => by omega), X.keep V (fun k f z => by omega), Y.keep V (fun k f z => by omega), D.keep V (fun k f z => by unfold pyQnd at z; omega), by rw [V.m (by omega)]; exact e63, by rw [V.m (by omega)]; exact e18⟩
theorem n_isFour {k : Int} (k0 : -2147483648 ≤ k) (k1 : k ≤ 2147483647) : f_X12_isFour h (pxJ k) = some (pxJ (if 0 ≤ k ∧ k < 4 then 1 else 0), h) := by
  unfold f_X12_isFour g_X12_isFour_b13 g_X12_isFour_b14
  by_cases a : k < 0
  · rw [if_pos (show pxJ k < 0 from (pxJ_lt (a := k) (b := 0) k0 k1 (by omega) (by omega)).mpr a), pyRb0, px_bs, if_neg (by omega)]
    rfl
  rw [if_neg (show ¬ (pxJ k < 0) from fun z => a ((pxJ_lt (a := k) (b := 0) k0 k1 (by omega) (by omega)).mp z))]
  by_cases b : 4 ≤ k
  · rw [if_pos (show (4 : Int32) ≤ pxJ k from (pxJ_le (a := 4) (b := k) (by omega) (by omega) k0 k1).mpr b), pyRb0, px_bs, if_neg (by omega)]
    rfl
  · rw [if_neg (show ¬ ((4 : Int32) ≤ pxJ k) from fun z => b ((pxJ_le (a := 4) (b := k) (by omega) (by omega) k0 k1).mp z)), pyRb1, px_bs, if_pos (by omega)]
    rfl
theorem n_isLine {k : Int} {ls : pxLs} (H : pyS h) (L : pyL h ls) (k0 : -2147483648 ≤ k) (k1 : k ≤ 2147483647) : f_X12_isLine h 587 (pxJ k) = some (pxJ (if 1 ≤ k ∧ k ≤ ls.length then 1 else 0), h) := by
  have l40 := L.2.1
  unfold f_X12_isLine g_X12_isLine_b17 g_X12_isLine_b18
  by_cases a : k < 1
  · rw [if_pos (show pxJ k < (1 : Int32) from (pxJ_lt (a := k) (b := 1) k0 k1 (by omega) (by omega)).mpr a), pyRb0, px_bs, if_neg (by omega)]
    rfl
  rw [if_neg (show ¬ (pxJ k < (1 : Int32)) from fun z => a ((pxJ_lt (a := k) (b := 1) k0 k1 (by omega) (by omega)).mp z)), pyN_gI H, px_bs, L.1]
  by_cases b : (ls.length : Int) < k
  · rw [if_pos (show pxJ (ls.length : Int) < pxJ k from (pxJ_lt (a := (ls.length : Int)) (b := k) (by omega) (by omega) k0 k1).mpr b), pyRb0, px_bs, if_neg (by omega)]
    rfl
  · rw [if_neg (show ¬ (pxJ (ls.length : Int) < pxJ k) from fun z => b ((pxJ_lt (a := (ls.length : Int)) (b := k) (by omega) (by omega) k0 k1).mp z)), pyRb1, px_bs, if_pos (by omega)]
    rfl
theorem n_length {k : Int} (A : pyA h α) (k0 : -2147483648 ≤ k) (k1 : k ≤ 2147483647) : pxW (f_X12_length h 587 (pxJ k)) fun v h' => pyZ h (pz_len (pxRs α.2.2.1.1) k α) v h' := by
  have H := A.1
  have L := A.2.2.2.1.1
  have l40 := L.2.1
  unfold f_X12_length g_X12_length_b14 g_X12_length_b36 pz_len
  rw [pyN_rc H, px_bs, n_isLine H L k0 k1, px_b2, pxRs_len]
  by_cases c : 1 ≤ k ∧ k ≤ (α.2.2.1.1.length : Int)
  · have R := (L.2.2.2 k c.1 c.2).1
    have or := pyAt_or L.2.2.1 k
    have H1 : pyS (jw_setI h 587 0 (pxJ 0)) := H
    have R1 : pyR (jw_setI h 587 0 (pxJ 0)) (k - 1) (pxAt α.2.2.1.1 k).2 := R.keep (P := fun k f => k = 587 ∧ f = 0) (pyV.rfl.set ⟨rfl, rfl⟩) (by omega) or.1 (fun f _ _ => by omega)
    rw [if_pos c, if_pos c, if_neg (show ¬ (pxJ 1 = 0) by decide), show (0 : Int32) = pxJ 0 from rfl, pyN_pI H, px_bs, pyN_gI H1, px_bs, pxM_eq (by omega) (by omega), if_pos (show pxJ 0 ≤ pxJ 0 from Int32.le_refl _), n_textRow (by omega) (by omega), px_b2, pyN_rc H1, px_bs, n_len H1 R1 (by omega) (by omega), px_b2]
    refine pxW_some.mpr (pyZ_0 A (by omega) (by omega) (fun _ => ?_))
    unfold pxLn
    rw [pxRs_at]
  · have H1 : pyS (jw_setI h 587 0 (pxJ 1)) := H
    rw [if_neg c, if_neg c, if_pos (show pxJ 0 = 0 from rfl), show (1 : Int32) = pxJ 1 from rfl, pyN_pI H, px_bs, pyN_gI H1, px_bs, pxM_eq (by omega) (by omega), if_neg (show ¬ (pxJ 1 ≤ 0) by decide)]
    exact pxW_some.mpr (pyZ_0 A (by omega) (by omega) (fun z => absurd z (by decide)))
theorem n_id {k : Int} (A : pyA h α) (k0 : -2147483648 ≤ k) (k1 : k ≤ 2147483647) : pxW (f_X12_id h 587 (pxJ k)) fun v h' => pyZ h (pz_id k α) v h' := by
  have H := A.1
  have L := A.2.2.2.1.1
  have l40 := L.2.1
  unfold f_X12_id g_X12_id_b14 g_X12_id_b36 pz_id
  rw [pyN_rc H, px_bs, n_isLine H L k0 k1, px_b2]
  by_cases c : 1 ≤ k ∧ k ≤ (α.2.2.1.1.length : Int)
  · have R := (L.2.2.2 k c.1 c.2).2
    have H1 : pyS (jw_setI h 587 0 (pxJ 0)) := H
    rw [if_pos c, if_pos c, if_neg (show ¬ (pxJ 1 = 0) by decide), show (0 : Int32) = pxJ 0 from rfl, pyN_pI H, px_bs, pyN_gI H1, px_bs, pxM_eq (by omega) (by omega), if_pos (show pxJ 0 ≤ pxJ 0 from Int32.le_refl _), pyN_g7 H1, px_bs, show pxJ k - (1 : Int32) = pxJ (k - 1) from pxJ_sub _ 1, pyN_a593 H1 (by omega) (by omega), px_bs, pxM_ne (by omega), R]
    exact pxW_some.mpr (pyZ_0 A (by omega) (by omega) (fun _ => rfl))
  · have H1 : pyS (jw_setI h 587 0 (pxJ 1)) := H
    rw [if_neg c, if_neg c, if_pos (show pxJ 0 = 0 from rfl), show (1 : Int32) = pxJ 1 from rfl, pyN_pI H, px_bs, pyN_gI H1, px_bs, pxM_eq (by omega) (by omega), if_neg (show ¬ (pxJ 1 ≤ 0) by decide)]
    exact pxW_some.mpr (pyZ_0 A (by omega) (by omega) (fun z => absurd z (by decide)))
/-- a place in a row: whether it is there -/
theorem n_isPlace {i y : Int} {r : List Int} {is : Bool} (A : pyA h α) (R : is = true → pyR h i r ∧ r.length ≤ 30 ∧ 0 ≤ i ∧ i < 868) (y0 : -2147483648 ≤ y) (y1 : y ≤ 2147483647) : f_X12_isPlace h 587 (pxJ (pyB is)) (pxJ i) (pxJ y) = some (pxJ (if is = true ∧ 0 ≤ y ∧ y < r.length then 1 else 0), jw_setI h 587 0 (pxJ (if is = true ∧ 0 ≤ y ∧ y < r.length then 0 else 1))) := by
  have H := A.1
  unfold f_X12_isPlace g_X12_isPlace_b21
  have b22 : ∀ t : Bool, g_X12_isPlace_b22 h 587 (pxJ (pyB t)) = some (pxJ (pyB t), jw_setI h 587 0 (pxJ (if t = true then 0 else 1))) := by
    intro t
    unfold g_X12_isPlace_b22 g_X12_isPlace_b35
    cases t with
    | false => rw [if_pos (show pxJ (pyB false) = 0 from rfl), pyN_pI H, px_bs, pyRbB, px_bs]; rfl
    | true => rw [if_neg (show ¬ (pxJ (pyB true) = 0) by decide), pyN_pI H, px_bs, pyRbB, px_bs]; rfl
  have no : ¬ (is = true ∧ 0 ≤ y ∧ y < (r.length : Int)) → g_X12_isPlace_b22 h 587 (0 : Int32) = some (pxJ (if is = true ∧ 0 ≤ y ∧ y < r.length then 1 else 0), jw_setI h 587 0 (pxJ (if is = true ∧ 0 ≤ y ∧ y < r.length then 0 else 1))) := by
    intro z
    rw [if_neg z, if_neg z]
    exact b22 false
  cases hs : is with
  | false =>
    rw [hs] at no
    rw [if_pos (show pxJ (pyB false) = 0 from rfl)]
    exact no (fun z => by cases z.1)
  | true =>
    obtain ⟨R, l30, i0, i1⟩ := R hs
    rw [hs] at no
    rw [if_neg (show ¬ (pxJ (pyB true) = 0) by decide)]
    by_cases a : y < 0
    · rw [if_pos (show pxJ y < 0 from (pxJ_lt (a := y) (b := 0) y0 y1 (by omega) (by omega)).mpr a)]
      exact no (by omega)
    rw [if_neg (show ¬ (pxJ y < 0) from fun z => a ((pxJ_lt (a := y) (b := 0) y0 y1 (by omega) (by omega)).mp z)), pyN_rc H, px_bs, n_len H R i0 i1, px_b2]
    by_cases b : (r.length : Int) ≤ y
    · rw [if_pos (show pxJ (r.length : Int) ≤ pxJ y from (pxJ_le (by omega) (by omega) y0 y1).mpr b)]
      exact no (by omega)
    · rw [if_neg (show ¬ (pxJ (r.length : Int) ≤ pxJ y) from fun z => b ((pxJ_le (by omega) (by omega) y0 y1).mp z)), if_pos (show true = true ∧ 0 ≤ y ∧ y < (r.length : Int) from ⟨rfl, by omega, by omega⟩), if_pos (show true = true ∧ 0 ≤ y ∧ y < (r.length : Int) from ⟨rfl, by omega, by omega⟩)]
      exact b22 true
end
