/-! the reference's calls: rows read, marks, finds -/
theorem pyTp_ok {s : List Int} (z : pxTpF s = -1) : (pxPat s 0).1 = true ∧ (s.length : Int) ≤ (pxPat s 0).2 := by
  have pb := pxPat_b (s := s) (p := 0) (by omega) (by omega)
  unfold pxTpF at z
  by_cases c : (pxPat s 0).1 = true ∧ (s.length : Int) ≤ (pxPat s 0).2
  · exact c
  · rw [if_neg c] at z
    omega
theorem pxNo_2 (ls : pxLs) (id : Int) (l40 : ls.length ≤ 40) : (pxNo ls id = -1 ∧ pyNo ls id = 0) ∨ (1 ≤ pxNo ls id ∧ pxNo ls id ≤ 40 ∧ pyNo ls id = pxNo ls id) := by
  unfold pyNo
  rcases pxNo_in ls id with e | e
  · exact Or.inl ⟨e, by rw [if_pos e]⟩
  · exact Or.inr ⟨e.1, by omega, by rw [if_neg (by omega)]⟩
section
variable {h : jw_H} {α : pzA} {n : Int}
theorem n_lengthOf {i : Int} {r : List Int} {is : Bool} (A : pyA h α) (R : is = true → pyR h i r ∧ r.length ≤ 30 ∧ 0 ≤ i ∧ i < 868) : pxW (f_X12_lengthOf h 587 (pxJ (pyB is)) (pxJ i)) fun v h' => pyZ h (if is = true then (0, (r.length : Int), α) else (1, 0, α)) v h' := by
  have H := A.1
  unfold f_X12_lengthOf g_X12_lengthOf_b10 g_X12_lengthOf_b26
  cases hs : is with
  | false =>
    rw [if_pos (show pxJ (pyB false) = 0 from rfl), pyN_pI H, px_bs, if_pos (show pxJ (pyB false) = 0 from rfl), if_neg (show ¬ (false = true) by decide)]
    exact pxW_some.mpr (pyZ_1 A)
  | true =>
    obtain ⟨R, l30, i0, i1⟩ := R hs
    obtain ⟨z1, z2, A1⟩ := A.n00
    have R1 : pyR (jw_setI h 587 0 (0 : Int32)) i r := R.keep (P := fun k f => k = 587 ∧ f = 0) (pyV.rfl.set ⟨rfl, rfl⟩) i0 l30 (fun f _ _ => by omega)
    rw [if_neg (show ¬ (pxJ (pyB true) = 0) by decide), pyN_pI H, px_bs, if_neg (show ¬ (pxJ (pyB true) = 0) by decide), if_pos (show true = true from rfl)]
    generalize jw_setI h 587 0 (0 : Int32) = h1 at *
    rw [pyN_rc A1.1, px_bs, n_len A1.1 R1 i0 i1, px_b2]
    exact pxW_some.mpr ⟨z1, z2, fun _ => rfl, A1⟩
theorem n_placeK {K : jw_H → Option (Int32 × jw_H)} {is : Bool} {rs : List (List Int)} {x y i : Int} (A : pyA h α) (e : is = true ↔ (1 ≤ x ∧ x ≤ (rs.length : Int))) (R : is = true → pyR h i (pxRw rs x) ∧ (pxRw rs x).length ≤ 30 ∧ 0 ≤ i ∧ i < 868) (y0 : -2147483648 ≤ y) (y1 : y ≤ 2147483647)
    (hK : ∀ h2, is = true → 0 ≤ y → y < (pxRw rs x).length → pyS h2 → pyR h2 i (pxRw rs x) → K h2 = some (pxJ (pxE (pxRw rs x) y), h2)) :
    pxW (jw_b2 (f_X12_isPlace h 587 (pxJ (pyB is)) (pxJ i) (pxJ y)) fun w3 h2 => if w3 = 0 then some ((0 : Int32), h2) else K h2) fun v h' => pyZ h (pz_at rs x y α) v h' := by
  have H := A.1
  rw [n_isPlace A R y0 y1, px_b2]
  unfold pz_at
  by_cases c : is = true ∧ 0 ≤ y ∧ y < ((pxRw rs x).length : Int)
  · obtain ⟨q, l30, i0, i1⟩ := R c.1
    have ex := e.mp c.1
    rw [if_pos c, if_pos c, if_neg (show ¬ (pxJ 1 = 0) by decide), if_pos (show 1 ≤ x ∧ x ≤ (rs.length : Int) ∧ 0 ≤ y ∧ y < pxLn rs x from ⟨ex.1, ex.2, c.2.1, c.2.2⟩)]
    obtain ⟨z1, z2, A1⟩ := A.n0 0 (by omega) (by omega)
    have R1 : pyR (jw_setI h 587 0 (pxJ 0)) i (pxRw rs x) := q.keep (P := fun k f => k = 587 ∧ f = 0) (pyV.rfl.set ⟨rfl, rfl⟩) i0 l30 (fun f _ _ => by omega)
    generalize jw_setI h 587 0 (pxJ 0) = h1 at *
    rw [hK h1 c.1 c.2.1 c.2.2 A1.1 R1]
    exact pxW_some.mpr ⟨z1, z2, fun _ => rfl, A1⟩
  · rw [if_neg c, if_neg c, if_pos (show pxJ 0 = 0 from rfl), if_neg (show ¬ (1 ≤ x ∧ x ≤ (rs.length : Int) ∧ 0 ≤ y ∧ y < pxLn rs x) from fun z => c ⟨e.mpr ⟨z.1, z.2.1⟩, z.2.2.1, z.2.2.2⟩)]
    exact pxW_some.mpr (pyZ_1 A)
theorem pyRowT {x : Int} (A : pyA h α) (x1 : 1 ≤ x) (x2 : x ≤ α.2.2.1.1.length) : pyR h (x - 1) (pxRw (pxRs α.2.2.1.1) x) ∧ (pxRw (pxRs α.2.2.1.1) x).length ≤ 30 ∧ 0 ≤ x - 1 ∧ x - 1 < 868 := by
  have L := A.2.2.2.1.1
  have l40 := L.2.1
  rw [pxRs_at]
  exact ⟨(L.2.2.2 x x1 x2).1, (pyAt_or L.2.2.1 x).1, by omega, by omega⟩
theorem n_at {x y : Int} (A : pyA h α) (x0 : -2147483648 ≤ x) (x1 : x ≤ 2147483647) (y0 : -2147483648 ≤ y) (y1 : y ≤ 2147483647) : pxW (f_X12_at h 587 (pxJ x) (pxJ y)) fun v h' => pyZ h (pz_at (pxRs α.2.2.1.1) x y α) v h' := by
  have H := A.1
  have L := A.2.2.2.1.1
  have l40 := L.2.1
  unfold f_X12_at g_X12_at_b22 g_X12_at_b42
  rw [pyN_rc H, px_bs, n_isLine H L x0 x1, px_b2, pyN_rc H, px_bs, n_isLine H L x0 x1, px_b2]
  by_cases c : 1 ≤ x ∧ x ≤ (α.2.2.1.1.length : Int)
  · rw [if_pos c, if_neg (show ¬ (pxJ 1 = 0) by decide), n_textRow (by omega) (by omega), px_b2, pyN_rc H, px_bs]
    exact n_placeK (is := true) (K := fun h2 => jw_b2 (f_X12_textRow h2 (pxJ x)) fun w6 h5 =>
 (jw_rc h5 12 (some 587)).bind fun a7 =>
 jw_b2 (f_X12_sign h5 a7 w6 (pxJ y)) fun w9 h8 => some (w9, h8)) A (by rw [pxRs_len]; exact ⟨fun _ => c, fun _ => rfl⟩) (fun _ => pyRowT A c.1 c.2) y0 y1 (fun h2 _ a b H2 R2 => by
      have q := pyRowT A c.1 c.2
      show (jw_b2 (f_X12_textRow h2 (pxJ x)) fun w6 h5 => (jw_rc h5 12 (some 587)).bind fun a7 => jw_b2 (f_X12_sign h5 a7 w6 (pxJ y)) fun w9 h8 => some (w9, h8)) = _
      rw [n_textRow (by omega) (by omega), px_b2, pyN_rc H2, px_bs, n_sign H2 R2 q.2.2.1 q.2.2.2 a b q.2.1, px_b2])
  · rw [if_neg c, if_pos (show pxJ 0 = 0 from rfl), pyN_rc H, px_bs]
    exact n_placeK (is := false) (i := 0) (K := fun h2 => jw_b2 (f_X12_textRow h2 (pxJ x)) fun w6 h5 =>
 (jw_rc h5 12 (some 587)).bind fun a7 =>
 jw_b2 (f_X12_sign h5 a7 w6 (pxJ y)) fun w9 h8 => some (w9, h8)) A (by rw [pxRs_len]; exact ⟨fun z => (by cases z), fun z => absurd z c⟩) (fun z => by cases z) y0 y1 (fun h2 z => by cases z)
/-- rows of a store -/
theorem pyRowS {b x : Int} {rs : List (List Int)} (R : pyRs h b rs) (ok : pxOk rs) (b0 : 0 ≤ b) (bl : b + rs.length ≤ 868) (x1 : 1 ≤ x) (x2 : x ≤ rs.length) : pyR h (b + x - 1) (pxRw rs x) ∧ (pxRw rs x).length ≤ 30 ∧ 0 ≤ b + x - 1 ∧ b + x - 1 < 868 :=
  ⟨R x x1 x2, (pxRw_or ok x).1, by omega, by omega⟩
theorem n_heldLength {x : Int} (A : pyA h α) (x0 : -2147483648 ≤ x) (x1 : x ≤ 2147483647) : pxW (f_X12_heldLength h 587 (pxJ x)) fun v h' => pyZ h (pz_len α.2.2.2.1.1 x α) v h' := by
  have H := A.1
  obtain ⟨IS, He, Ou, Fi⟩ := id A.2.2.2.2.1
  have l40 := IS.1.1
  have no : ¬ (1 ≤ x ∧ x ≤ (α.2.2.2.1.1.length : Int)) → pxW (g_X12_heldLength_b17 h 587 (pxJ x)) fun v h' => pyZ h (pz_len α.2.2.2.1.1 x α) v h' := by
    intro z
    unfold g_X12_heldLength_b17 g_X12_heldLength_b18 g_X12_heldLength_b35 pz_len
    rw [if_pos rfl, if_neg z, pyN_rc H, px_bs]
    refine pxW_b2 (n_lengthOf (is := false) (i := 0) (r := []) A (fun z => by cases z)) fun w h' q => ?_
    exact pxW_some.mpr q
  unfold f_X12_heldLength
  by_cases a : x < 1
  · rw [if_pos (show pxJ x < (1 : Int32) from (pxJ_lt (a := x) (b := 1) x0 x1 (by omega) (by omega)).mpr a)]
    exact no (by omega)
  rw [if_neg (show ¬ (pxJ x < (1 : Int32)) from fun z => a ((pxJ_lt (a := x) (b := 1) x0 x1 (by omega) (by omega)).mp z)), pyN_gI H, px_bs, He.1]
  by_cases b : (α.2.2.2.1.1.length : Int) < x
  · rw [if_pos (show pxJ (α.2.2.2.1.1.length : Int) < pxJ x from (pxJ_lt (by omega) (by omega) x0 x1).mpr b)]
    exact no (by omega)
  rw [if_neg (show ¬ (pxJ (α.2.2.2.1.1.length : Int) < pxJ x) from fun z => b ((pxJ_lt (by omega) (by omega) x0 x1).mp z))]
  have q := pyRowS (x := x) He.2 IS.1.2 (by omega) (by omega) (by omega) (by omega)
  unfold g_X12_heldLength_b18 g_X12_heldLength_b35 pz_len
  rw [if_neg (show ¬ ((1 : Int32) = 0) by decide), if_pos (show 1 ≤ x ∧ x ≤ (α.2.2.2.1.1.length : Int) from ⟨by omega, by omega⟩), pyN_rc H, px_bs, show ((82 : Int32) + pxJ x) - (1 : Int32) = pxJ (82 + x - 1) by rw [show (82 : Int32) = pxJ 82 from rfl, pxJ_add]; exact pxJ_sub _ 1]
  refine pxW_b2 (n_lengthOf (is := true) A (fun _ => q)) fun w h' q => ?_
  exact pxW_some.mpr q
theorem n_outLength {x : Int} (A : pyA h α) (x0 : -2147483648 ≤ x) (x1 : x ≤ 2147483647) : pxW (f_X12_outLength h 587 (pxJ x)) fun v h' => pyZ h (pz_len α.2.2.2.1.2.1 x α) v h' := by
  have H := A.1
  obtain ⟨IS, He, Ou, Fi⟩ := id A.2.2.2.2.1
  have l40 := IS.2.1.1
  have no : ¬ (1 ≤ x ∧ x ≤ (α.2.2.2.1.2.1.length : Int)) → pxW (g_X12_outLength_b17 h 587 (pxJ x)) fun v h' => pyZ h (pz_len α.2.2.2.1.2.1 x α) v h' := by
    intro z
    unfold g_X12_outLength_b17 g_X12_outLength_b18 g_X12_outLength_b36 pz_len
    rw [if_pos rfl, if_neg z, pyN_rc H, px_bs]
    refine pxW_b2 (n_lengthOf (is := false) (i := 0) (r := []) A (fun z => by cases z)) fun w h' q => ?_
    exact pxW_some.mpr q
  unfold f_X12_outLength
  by_cases a : x < 1
  · rw [if_pos (show pxJ x < (1 : Int32) from (pxJ_lt (a := x) (b := 1) x0 x1 (by omega) (by omega)).mpr a)]
    exact no (by omega)
  rw [if_neg (show ¬ (pxJ x < (1 : Int32)) from fun z => a ((pxJ_lt (a := x) (b := 1) x0 x1 (by omega) (by omega)).mp z)), pyN_gI H, px_bs, Ou.1]
  by_cases b : (α.2.2.2.1.2.1.length : Int) < x
  · rw [if_pos (show pxJ (α.2.2.2.1.2.1.length : Int) < pxJ x from (pxJ_lt (by omega) (by omega) x0 x1).mpr b)]
    exact no (by omega)
  rw [if_neg (show ¬ (pxJ (α.2.2.2.1.2.1.length : Int) < pxJ x) from fun z => b ((pxJ_lt (by omega) (by omega) x0 x1).mp z))]
  have q := pyRowS (x := x) Ou.2 IS.2.1.2 (by omega) (by omega) (by omega) (by omega)
  unfold g_X12_outLength_b18 g_X12_outLength_b36 pz_len
  rw [if_neg (show ¬ ((1 : Int32) = 0) by decide), if_pos (show 1 ≤ x ∧ x ≤ (α.2.2.2.1.2.1.length : Int) from ⟨by omega, by omega⟩), pyN_rc H, px_bs, show ((287 : Int32) + pxJ x) - (1 : Int32) = pxJ (287 + x - 1) by rw [show (287 : Int32) = pxJ 287 from rfl, pxJ_add]; exact pxJ_sub _ 1]
  refine pxW_b2 (n_lengthOf (is := true) A (fun _ => q)) fun w h' q => ?_
  exact pxW_some.mpr q
theorem n_heldAt {x y : Int} (A : pyA h α) (x0 : -2147483648 ≤ x) (x1 : x ≤ 2147483647) (y0 : -2147483648 ≤ y) (y1 : y ≤ 2147483647) : pxW (f_X12_heldAt h 587 (pxJ x) (pxJ y)) fun v h' => pyZ h (pz_at α.2.2.2.1.1 x y α) v h' := by
  have H := A.1
  obtain ⟨IS, He, Ou, Fi⟩ := id A.2.2.2.2.1
  have l40 := IS.1.1
  have no : ¬ (1 ≤ x ∧ x ≤ (α.2.2.2.1.1.length : Int)) → pxW (g_X12_heldAt_b17 h 587 (pxJ x) (pxJ y)) fun v h' => pyZ h (pz_at α.2.2.2.1.1 x y α) v h' := by
    intro z
    unfold g_X12_heldAt_b17 g_X12_heldAt_b18 g_X12_heldAt_b35 g_X12_heldAt_b57
    rw [if_pos rfl, pyN_rc H, px_bs]
    exact n_placeK (is := false) (i := 0) (K := fun h2 => (jw_rc h2 12 (some 587)).bind fun a5 => jw_b2 (f_X12_sign h2 a5 (((82 : Int32) + pxJ x) - (1 : Int32)) (pxJ y)) fun w7 h6 => some (w7, h6)) A ⟨fun z => (by cases z), fun y => absurd y z⟩ (fun z => by cases z) y0 y1 (fun h2 z => by cases z)
  unfold f_X12_heldAt
  by_cases a : x < 1
  · rw [if_pos (show pxJ x < (1 : Int32) from (pxJ_lt (a := x) (b := 1) x0 x1 (by omega) (by omega)).mpr a)]
    exact no (by omega)
  rw [if_neg (show ¬ (pxJ x < (1 : Int32)) from fun z => a ((pxJ_lt (a := x) (b := 1) x0 x1 (by omega) (by omega)).mp z)), pyN_gI H, px_bs, He.1]
  by_cases b : (α.2.2.2.1.1.length : Int) < x
  · rw [if_pos (show pxJ (α.2.2.2.1.1.length : Int) < pxJ x from (pxJ_lt (by omega) (by omega) x0 x1).mpr b)]
    exact no (by omega)
  rw [if_neg (show ¬ (pxJ (α.2.2.2.1.1.length : Int) < pxJ x) from fun z => b ((pxJ_lt (by omega) (by omega) x0 x1).mp z))]
  have q := pyRowS (x := x) He.2 IS.1.2 (by omega) (by omega) (by omega) (by omega)
  unfold g_X12_heldAt_b18 g_X12_heldAt_b35 g_X12_heldAt_b57
  rw [if_neg (show ¬ ((1 : Int32) = 0) by decide), pyN_rc H, px_bs, show ((82 : Int32) + pxJ x) - (1 : Int32) = pxJ (82 + x - 1) by rw [show (82 : Int32) = pxJ 82 from rfl, pxJ_add]; exact pxJ_sub _ 1]
  exact n_placeK (is := true) (K := fun h2 => (jw_rc h2 12 (some 587)).bind fun a5 => jw_b2 (f_X12_sign h2 a5 (pxJ (82 + x - 1)) (pxJ y)) fun w7 h6 => some (w7, h6)) A ⟨fun _ => ⟨by omega, by omega⟩, fun _ => rfl⟩ (fun _ => q) y0 y1 (fun h2 _ a b H2 R2 => by
    show ((jw_rc h2 12 (some 587)).bind fun a5 => jw_b2 (f_X12_sign h2 a5 (pxJ (82 + x - 1)) (pxJ y)) fun w7 h6 => some (w7, h6)) = _
    rw [pyN_rc H2, px_bs, n_sign H2 R2 q.2.2.1 q.2.2.2 a b q.2.1, px_b2])
theorem n_outAt {x y : Int} (A : pyA h α) (x0 : -2147483648 ≤ x) (x1 : x ≤ 2147483647) (y0 : -2147483648 ≤ y) (y1 : y ≤ 2147483647) : pxW (f_X12_outAt h 587 (pxJ x) (pxJ y)) fun v h' => pyZ h (pz_at α.2.2.2.1.2.1 x y α) v h' := by
  have H := A.1
  obtain ⟨IS, He, Ou, Fi⟩ := id A.2.2.2.2.1
  have l40 := IS.2.1.1
  have no : ¬ (1 ≤ x ∧ x ≤ (α.2.2.2.1.2.1.length : Int)) → pxW (g_X12_outAt_b17 h 587 (pxJ x) (pxJ y)) fun v h' => pyZ h (pz_at α.2.2.2.1.2.1 x y α) v h' := by
    intro z
    unfold g_X12_outAt_b17 g_X12_outAt_b18 g_X12_outAt_b36 g_X12_outAt_b59
    rw [if_pos rfl, pyN_rc H, px_bs]
    exact n_placeK (is := false) (i := 0) (K := fun h2 => (jw_rc h2 12 (some 587)).bind fun a5 => jw_b2 (f_X12_sign h2 a5 (((287 : Int32) + pxJ x) - (1 : Int32)) (pxJ y)) fun w7 h6 => some (w7, h6)) A ⟨fun z => (by cases z), fun y => absurd y z⟩ (fun z => by cases z) y0 y1 (fun h2 z => by cases z)
  unfold f_X12_outAt
  by_cases a : x < 1
  · rw [if_pos (show pxJ x < (1 : Int32) from (pxJ_lt (a := x) (b := 1) x0 x1 (by omega) (by omega)).mpr a)]
    exact no (by omega)
  rw [if_neg (show ¬ (pxJ x < (1 : Int32)) from fun z => a ((pxJ_lt (a := x) (b := 1) x0 x1 (by omega) (by omega)).mp z)), pyN_gI H, px_bs, Ou.1]
  by_cases b : (α.2.2.2.1.2.1.length : Int) < x
  · rw [if_pos (show pxJ (α.2.2.2.1.2.1.length : Int) < pxJ x from (pxJ_lt (by omega) (by omega) x0 x1).mpr b)]
    exact no (by omega)
  rw [if_neg (show ¬ (pxJ (α.2.2.2.1.2.1.length : Int) < pxJ x) from fun z => b ((pxJ_lt (by omega) (by omega) x0 x1).mp z))]
  have q := pyRowS (x := x) Ou.2 IS.2.1.2 (by omega) (by omega) (by omega) (by omega)
  unfold g_X12_outAt_b18 g_X12_outAt_b36 g_X12_outAt_b59
  rw [if_neg (show ¬ ((1 : Int32) = 0) by decide), pyN_rc H, px_bs, show ((287 : Int32) + pxJ x) - (1 : Int32) = pxJ (287 + x - 1) by rw [show (287 : Int32) = pxJ 287 from rfl, pxJ_add]; exact pxJ_sub _ 1]
  exact n_placeK (is := true) (K := fun h2 => (jw_rc h2 12 (some 587)).bind fun a5 => jw_b2 (f_X12_sign h2 a5 (pxJ (287 + x - 1)) (pxJ y)) fun w7 h6 => some (w7, h6)) A ⟨fun _ => ⟨by omega, by omega⟩, fun _ => rfl⟩ (fun _ => q) y0 y1 (fun h2 _ a b H2 R2 => by
    show ((jw_rc h2 12 (some 587)).bind fun a5 => jw_b2 (f_X12_sign h2 a5 (pxJ (287 + x - 1)) (pxJ y)) fun w7 h6 => some (w7, h6)) = _
    rw [pyN_rc H2, px_bs, n_sign H2 R2 q.2.2.1 q.2.2.2 a b q.2.1, px_b2])
theorem n_fileRows {k : Int} (A : pyA h α) (k0 : -2147483648 ≤ k) (k1 : k ≤ 2147483647) : pxW (f_X12_fileRows h 587 (pxJ k)) fun v h' => pyZ h (pz_frows k α) v h' := by
  have H := A.1
  unfold f_X12_fileRows g_X12_fileRows_b13 g_X12_fileRows_b33 pz_frows
  rw [n_isFour k0 k1, px_b2]
  by_cases c : 0 ≤ k ∧ k < 4
  · rw [if_pos c, if_neg (show ¬ (pxJ 1 = 0) by decide), if_pos c, pyThr (w := 0) (t := 0) H rfl (by omega) (by omega), if_pos (show (0 : Int32) ≤ 0 from Int32.le_refl _)]
    obtain ⟨z1, z2, A1⟩ := A.n00
    generalize jw_setI h 587 0 (0 : Int32) = h1 at *
    rw [pyN_g11 A1.1, px_bs, pyN_a597 A1.1 c.1 c.2, px_bs, (A1.2.2.2.2.1.2.2.2 k c.1 c.2).1]
    exact pxW_some.mpr ⟨z1, z2, fun _ => rfl, A1⟩
  · rw [if_neg c, if_pos (show pxJ 0 = 0 from rfl), if_neg c, pyThr (w := 1) (t := 1) H rfl (by omega) (by omega), if_neg (show ¬ ((1 : Int32) ≤ 0) by decide)]
    exact pxW_some.mpr (pyZ_1 A)
theorem n_isFileRow {k x : Int} (A : pyA h α) (k0 : -2147483648 ≤ k) (k1 : k ≤ 2147483647) (x0 : -2147483648 ≤ x) (x1 : x ≤ 2147483647) : f_X12_isFileRow h 587 (pxJ k) (pxJ x) = some (pxJ (pyB (decide ((0 ≤ k ∧ k < 4) ∧ 1 ≤ x ∧ x ≤ ((α.2.2.2.1.2.2 k).length : Int)))), h) := by
  have H := A.1
  unfold f_X12_isFileRow g_X12_isFileRow_b26 g_X12_isFileRow_b27
  rw [n_isFour k0 k1, px_b2]
  by_cases c : 0 ≤ k ∧ k < 4
  · have l40 := (A.2.2.2.2.1.1.2.2 k c.1 c.2).1
    rw [if_pos c, if_neg (show ¬ (pxJ 1 = 0) by decide)]
    by_cases a : x < 1
    · rw [if_pos (show pxJ x < (1 : Int32) from (pxJ_lt (a := x) (b := 1) x0 x1 (by omega) (by omega)).mpr a), pyRb0, px_bs, decide_eq_false (by omega)]
      rfl
    rw [if_neg (show ¬ (pxJ x < (1 : Int32)) from fun z => a ((pxJ_lt (a := x) (b := 1) x0 x1 (by omega) (by omega)).mp z)), pyN_g11 H, px_bs, pyN_a597 H c.1 c.2, px_bs, (A.2.2.2.2.1.2.2.2 k c.1 c.2).1]
    by_cases b : ((α.2.2.2.1.2.2 k).length : Int) < x
    · rw [if_pos (show pxJ ((α.2.2.2.1.2.2 k).length : Int) < pxJ x from (pxJ_lt (by omega) (by omega) x0 x1).mpr b), pyRb0, px_bs, decide_eq_false (by omega)]
      rfl
    · rw [if_neg (show ¬ (pxJ ((α.2.2.2.1.2.2 k).length : Int) < pxJ x) from fun z => b ((pxJ_lt (by omega) (by omega) x0 x1).mp z)), pyRb1, px_bs, decide_eq_true (by omega)]
      rfl
  · rw [if_neg c, if_pos (show pxJ 0 = 0 from rfl), pyRb0, px_bs, decide_eq_false (fun z => c z.1)]
    rfl
theorem n_fileRow1 {k x : Int} : f_X12_fileRow h (pxJ k) (pxJ x - (1 : Int32)) = some (pxJ (123 + 41 * k + x - 1), h) := by
  unfold f_X12_fileRow
  rw [show pxJ x - (1 : Int32) = pxJ (x - 1) from pxJ_sub _ 1, show (123 : Int32) = pxJ 123 from rfl, show (41 : Int32) = pxJ 41 from rfl, pxJ_mul, pxJ_add, pxJ_add, show 123 + 41 * k + (x - 1) = 123 + 41 * k + x - 1 by omega]
theorem n_fileLength {k x : Int} (A : pyA h α) (k0 : -2147483648 ≤ k) (k1 : k ≤ 2147483647) (x0 : -2147483648 ≤ x) (x1 : x ≤ 2147483647) : pxW (f_X12_fileLength h 587 (pxJ k) (pxJ x)) fun v h' => pyZ h (pz_flen k x α) v h' := by
  have H := A.1
  unfold f_X12_fileLength g_X12_fileLength_b24 pz_flen pz_len
  rw [pyN_rc H, px_bs, n_isFileRow A k0 k1 x0 x1, px_b2]
  by_cases c : (0 ≤ k ∧ k < 4) ∧ 1 ≤ x ∧ x ≤ ((α.2.2.2.1.2.2 k).length : Int)
  · have F := A.2.2.2.2.1.2.2.2 k c.1.1 c.1.2
    have S := A.2.2.2.2.1.1.2.2 k c.1.1 c.1.2
    have q := pyRowS (x := x) F.2 S.2 (by omega) (by omega) c.2.1 c.2.2
    rw [decide_eq_true c, if_neg (show ¬ (pxJ (pyB true) = 0) by decide), n_fileRow1, px_b2, pyN_rc H, px_bs, if_pos c.1, if_pos c.2]
    refine pxW_b2 (n_lengthOf (is := true) A (fun _ => q)) fun w h' q => ?_
    exact pxW_some.mpr q
  · rw [decide_eq_false c, if_pos (show pxJ (pyB false) = 0 from rfl), pyN_rc H, px_bs]
    have e : (if 0 ≤ k ∧ k < 4 then (if 1 ≤ x ∧ x ≤ ((α.2.2.2.1.2.2 k).length : Int) then ((0 : Int), pxLn (α.2.2.2.1.2.2 k) x, α) else (1, 0, α)) else (1, 0, α)) = (1, 0, α) := by
      by_cases d : 0 ≤ k ∧ k < 4
      · rw [if_pos d, if_neg (fun z => c ⟨d, z⟩)]
      · rw [if_neg d]
    rw [e]
    refine pxW_b2 (n_lengthOf (is := false) (i := 0) (r := []) A (fun z => by cases z)) fun w h' q => ?_
    exact pxW_some.mpr q
theorem n_fileAt {k x y : Int} (A : pyA h α) (k0 : -2147483648 ≤ k) (k1 : k ≤ 2147483647) (x0 : -2147483648 ≤ x) (x1 : x ≤ 2147483647) (y0 : -2147483648 ≤ y) (y1 : y ≤ 2147483647) : pxW (f_X12_fileAt h 587 (pxJ k) (pxJ x) (pxJ y)) fun v h' => pyZ h (pz_fat k x y α) v h' := by
  have H := A.1
  unfold f_X12_fileAt g_X12_fileAt_b27 g_X12_fileAt_b50
  rw [pyN_rc H, px_bs, n_isFileRow A k0 k1 x0 x1, px_b2]
  by_cases c : (0 ≤ k ∧ k < 4) ∧ 1 ≤ x ∧ x ≤ ((α.2.2.2.1.2.2 k).length : Int)
  · have F := A.2.2.2.2.1.2.2.2 k c.1.1 c.1.2
    have S := A.2.2.2.2.1.1.2.2 k c.1.1 c.1.2
    have q := pyRowS (x := x) F.2 S.2 (by omega) (by omega) c.2.1 c.2.2
    have e : pz_fat k x y α = pz_at (α.2.2.2.1.2.2 k) x y α := if_pos c.1
    rw [decide_eq_true c, if_neg (show ¬ (pxJ (pyB true) = 0) by decide), n_fileRow1, px_b2, pyN_rc H, px_bs, e]
    exact n_placeK (is := true) (K := fun h2 => jw_b2 (f_X12_fileRow h2 (pxJ k) (pxJ x - (1 : Int32))) fun w6 h5 =>
 (jw_rc h5 12 (some 587)).bind fun a7 =>
 jw_b2 (f_X12_sign h5 a7 w6 (pxJ y)) fun w9 h8 => some (w9, h8)) A ⟨fun _ => c.2, fun _ => rfl⟩ (fun _ => q) y0 y1 (fun h2 _ a b H2 R2 => by
      show (jw_b2 (f_X12_fileRow h2 (pxJ k) (pxJ x - (1 : Int32))) fun w6 h5 => (jw_rc h5 12 (some 587)).bind fun a7 => jw_b2 (f_X12_sign h5 a7 w6 (pxJ y)) fun w9 h8 => some (w9, h8)) = _
      rw [n_fileRow1, px_b2, pyN_rc H2, px_bs, n_sign H2 R2 q.2.2.1 q.2.2.2 a b q.2.1, px_b2])
  · have e : pz_fat k x y α = (1, 0, α) := by
      unfold pz_fat pz_at
      by_cases d : 0 ≤ k ∧ k < 4
      · rw [if_pos d, if_neg (fun z => c ⟨d, z.1, z.2.1⟩)]
      · rw [if_neg d]
    have e2 : pz_at [] 0 y α = (1, 0, α) := if_neg (fun z => by omega)
    rw [decide_eq_false c, if_pos (show pxJ (pyB false) = 0 from rfl), pyN_rc H, px_bs, e, ← e2]
    exact n_placeK (is := false) (i := 0) (rs := []) (x := 0) (K := fun h2 => jw_b2 (f_X12_fileRow h2 (pxJ k) (pxJ x - (1 : Int32))) fun w6 h5 =>
 (jw_rc h5 12 (some 587)).bind fun a7 =>
 jw_b2 (f_X12_sign h5 a7 w6 (pxJ y)) fun w9 h8 => some (w9, h8)) A ⟨fun z => (by cases z), fun z => by omega⟩ (fun z => by cases z) y0 y1 (fun h2 z => by cases z)
theorem n_lineOf {i : Int} (A : pyA h α) (i0 : -2147483648 ≤ i) (i1 : i ≤ 2147483647) : pxW (f_X12_lineOf h 587 (pxJ i)) fun v h' => pyZ h (pz_lineOf i α) v h' := by
  have H := A.1
  obtain ⟨z1, z2, A1⟩ := A.n00
  unfold f_X12_lineOf g_X12_lineOf_b20 pz_lineOf
  rw [pyN_pI H, px_bs]
  generalize jw_setI h 587 0 (0 : Int32) = h1 at *
  have L := A1.2.2.2.1.1
  rw [pyN_rc A1.1, px_bs, n_lineWith A1.1 L i0 i1, px_b2]
  rcases pxNo_2 α.2.2.1.1 i L.2.1 with ⟨a, b⟩ | ⟨a, b, c⟩
  · rw [b, if_pos (show pxJ 0 ≤ 0 from Int32.le_refl _), a]
    exact pxW_some.mpr ⟨z1, z2, fun _ => rfl, A1⟩
  · rw [c, if_neg (show ¬ (pxJ (pxNo α.2.2.1.1 i) ≤ 0) from pyLe0 (z := pxNo α.2.2.1.1 i) (by omega) (by omega) (by omega))]
    exact pxW_some.mpr ⟨z1, z2, fun _ => rfl, A1⟩
theorem n_mark {k : Int} (A : pyA h α) (I : pxInv α.2.2.1) (nb : α.2.2.1.2.2.2 ≤ 2147483647) (k0 : -2147483648 ≤ k) (k1 : k ≤ 2147483647) : pxW (f_X12_mark h 587 (pxJ k)) fun v h' => pyZ h (pz_mark k α) v h' := by
  have H := A.1
  have no : ¬ (0 ≤ k ∧ k < 5) → pxW (g_X12_mark_b14 h 587 (pxJ k) 587) fun v h' => pyZ h (pz_mark k α) v h' := by
    intro z
    unfold g_X12_mark_b14 g_X12_mark_b15 pz_mark
    have H1 : pyS (jw_setI h 587 0 (1 : Int32)) := H
    have e : pxM (jw_setI h 587 0 (1 : Int32)) 587 0 = 1 := pxM_eq (z := 1) (by omega) (by omega)
    rw [if_neg z, pyThr (w := 1) (t := 1) H rfl (by omega) (by omega), if_pos (show (0 : Int32) < 1 by decide)]
    unfold g_X12_mark_b34 g_X12_mark_b46
    rw [pyN_gI H1, px_bs, e, if_neg (show ¬ (pxJ 1 ≤ 0) by decide)]
    exact pxW_some.mpr (pyZ_1 A)
  unfold f_X12_mark
  by_cases a : k < 0
  · rw [if_pos (show pxJ k < (0 : Int32) from (pxJ_lt (a := k) (b := 0) k0 k1 (by omega) (by omega)).mpr a)]
    exact no (by omega)
  rw [if_neg (show ¬ (pxJ k < (0 : Int32)) from fun z => a ((pxJ_lt (a := k) (b := 0) k0 k1 (by omega) (by omega)).mp z))]
  by_cases b : 5 ≤ k
  · rw [if_pos (show (5 : Int32) ≤ pxJ k from (pxJ_le (a := 5) (b := k) (by omega) (by omega) k0 k1).mpr b)]
    exact no (by omega)
  rw [if_neg (show ¬ ((5 : Int32) ≤ pxJ k) from fun z => b ((pxJ_le (a := 5) (b := k) (by omega) (by omega) k0 k1).mp z))]
  unfold g_X12_mark_b15 pz_mark
  rw [pyThr (w := 0) (t := 0) H rfl (by omega) (by omega), if_neg (show ¬ ((0 : Int32) < 0) by decide), if_pos (show 0 ≤ k ∧ k < 5 from ⟨by omega, by omega⟩)]
  obtain ⟨z1, z2, A1⟩ := A.n00
  generalize jw_setI h 587 0 (0 : Int32) = h1 at *
  have K := A1.2.2.2.1.2.1 k (by omega) (by omega)
  obtain ⟨nd, rg, mk⟩ := pyIds_nd I
  rw [pyN_g10 A1.1, px_bs, pyN_a596 A1.1 (by omega) (by omega), px_bs, K]
  by_cases c : α.2.2.1.2.1 k = -1
  · rw [c, if_neg (show ¬ ((0 : Int32) ≤ pxJ (-1)) by decide), if_pos rfl]
    unfold g_X12_mark_b34 g_X12_mark_b46
    rw [pyN_gI A1.1, px_bs, z2, if_pos (show pxJ 0 ≤ 0 from Int32.le_refl _)]
    exact pxW_some.mpr ⟨z1, z2, fun _ => rfl, A1⟩
  · have m := (mk k (by omega) (by omega)).resolve_left c
    have r := rg _ m
    have L := A1.2.2.2.1.1
    rw [if_pos (show (0 : Int32) ≤ pxJ (α.2.2.1.2.1 k) from (pxJ_le (a := 0) (b := α.2.2.1.2.1 k) (by omega) (by omega) (by omega) (by omega)).mpr (by omega)), if_neg c, px_bs, pyN_a596 A1.1 (by omega) (by omega), px_bs, K, pyN_rc A1.1, px_bs, n_lineWith A1.1 L (by omega) (by omega), px_b2]
    have n1 : ¬ pxNo α.2.2.1.1 (α.2.2.1.2.1 k) = -1 := fun z => pxNo_mem.mp z m
    have e : pyNo α.2.2.1.1 (α.2.2.1.2.1 k) = pxNo α.2.2.1.1 (α.2.2.1.2.1 k) := if_neg n1
    rw [e]
    exact pxW_some.mpr ⟨z1, z2, fun _ => rfl, A1⟩
/-- finds -/
theorem pyA.qk {h1 : jw_H} (A : pyA h α) (V : pyV pyQk h h1) : pyA h1 α := A.keep V (fun k f z => by unfold pyQA0 at z; unfold pyQk; omega)
theorem pyA.qn {h1 : jw_H} (A : pyA h α) (V : pyV pyQn h h1) : pyA h1 α := A.keep V (fun k f z => by unfold pyQA0 at z; unfold pyQn; omega)
theorem n_find {back : Bool} (A : pyA h α) (O : pzOk n α) : pxW (f_X12_find h 587 (pxJ (if back = true then 1 else 0))) fun v h' => pyZ h (pz_find back α) v h' := by
  have H := A.1
  have T := O.1
  have I := O.2.2.1
  have l60 := T.1
  unfold f_X12_find pz_find g_X12_find_b17 g_X12_find_b50
  rw [pyN_rc H, px_bs]
  refine pxW_b2 (n_loadTape H A.2.1 T) fun _ h1 q => ?_
  obtain ⟨V1, G1⟩ := q
  have A1 := A.ld V1
  refine pyW_tr (pyQld.z V1) ?_
  rw [pyN_rc A1.1, px_bs]
  refine pxW_b2 (n_patternsFault A1.1 G1) fun r h2 q => ?_
  obtain ⟨er, V2⟩ := q
  have V2' : pyV pyQp h1 h2 := V2.mono (fun k f z => by unfold pyQs at z; unfold pyQp; omega)
  have A2 := A1.qp V2'
  have G2 := G1.s V2
  have or := pxTpF_r (s := α.1)
  refine pyW_tr (pyQp.z V2') ?_
  subst er
  by_cases c : pxTpF α.1 = -1
  · rw [if_pos (show pxJ (pxTpF α.1) < (0 : Int32) from (pxJ_ng (by omega) (by omega)).mpr c), if_pos c, pyThr (w := 0) (t := 0) A2.1 rfl (by omega) (by omega), if_pos (show (0 : Int32) ≤ 0 from Int32.le_refl _)]
    obtain ⟨z1, z2, A3⟩ := A2.n00
    have G3 := G2.keep (P := fun k f => k = 587 ∧ f = 0) (pyV.rfl.set (h := h2) (v := (0 : Int32)) ⟨rfl, rfl⟩) (by omega) (fun f _ => by omega)
    generalize jw_setI h2 587 0 (0 : Int32) = h3 at *
    refine pyW_tr z1 ?_
    obtain ⟨ok, en⟩ := pyTp_ok c
    rw [pyN_rc A3.1, px_bs]
    refine pxW_b2 (n_compile (u := 0) (p := 0) (Or.inr (Or.inr rfl)) A3.1 G3 (by omega) (by omega) ok (if_neg (by omega))) fun _ h4 q => ?_
    obtain ⟨V4, C4, -⟩ := q
    have A4 := A3.qk V4
    have G4 := G3.keep V4 (by unfold pyQk; omega) (fun f _ => by unfold pyQk; omega)
    rw [pyN_rc A4.1, px_bs]
    have X := A4.2.2.2.1
    have l40 := X.1.2.1
    refine pxW_b2 (n_seek (s := α.1) (p := 0) (now := α.2.2.1.2.2.1) ⟨by omega, by omega, ok⟩ (by have := I.2.2.2.2.1; omega) I.2.2.2.1 I.2.2.1 A4.1 G4 X.1 C4 X.2.2.1) fun w h5 q => ?_
    obtain ⟨V5, ew⟩ := q
    have A5 := A4.qn V5
    have W : pyV pyQZ h3 h5 := (V4.mono (fun k f z => by unfold pyQk at z; unfold pyQZ; omega)).trans (V5.mono (fun k f z => by unfold pyQn at z; unfold pyQZ; omega))
    have f0 : pxM h5 587 0 = 0 := by rw [V5.m (by unfold pyQn; omega), V4.m (by unfold pyQk; omega)]; exact z2
    have lw := pxLW_b (s := α.1) (l := pxFull α.1 0) (rs := pxRs α.2.2.1.1) (back := back) α.2.2.1.1.length α.2.2.1.2.2.1 (by rw [pxRs_len]; exact Nat.le_refl _) I.2.2.1 (by rw [pxRs_len]; exact I.2.2.2.1)
    rw [pxRs_len] at lw
    subst ew
    by_cases d : pxLW α.1 (pxFull α.1 0) (pxRs α.2.2.1.1) back α.2.2.1.1.length α.2.2.1.2.2.1 = -1
    · rw [if_pos d, if_pos (show pxJ 0 ≤ 0 from Int32.le_refl _), d]
      exact pxW_some.mpr ⟨W, f0, fun _ => rfl, A5⟩
    · rw [if_neg d, if_neg (show ¬ (pxJ (pxLW α.1 (pxFull α.1 0) (pxRs α.2.2.1.1) back α.2.2.1.1.length α.2.2.1.2.2.1) ≤ 0) from pyLe0 (z := pxLW α.1 (pxFull α.1 0) (pxRs α.2.2.1.1) back α.2.2.1.1.length α.2.2.1.2.2.1) (by omega) (by omega) (by omega))]
      exact pxW_some.mpr ⟨W, f0, fun _ => rfl, A5⟩
  · rw [if_neg (show ¬ (pxJ (pxTpF α.1) < (0 : Int32)) from fun z => c ((pxJ_ng (by omega) (by omega)).mp z)), if_neg c, pyThr (w := 1) (t := 1) A2.1 rfl (by omega) (by omega), if_neg (show ¬ ((1 : Int32) ≤ 0) by decide)]
    exact pxW_some.mpr (pyZ_1 A2)
/-- what looking at a line comes to -/
def pyLk (x : Int) (α : pzA) (v : Int32) (h' : jw_H) : Prop :=
  (¬ (1 ≤ x ∧ x ≤ (α.2.2.1.1.length : Int)) ∧ pxM h' 587 0 = 1) ∨ ((1 ≤ x ∧ x ≤ (α.2.2.1.1.length : Int)) ∧ ¬ pxTpF α.1 = -1 ∧ pxM h' 587 0 = 2) ∨
  ((1 ≤ x ∧ x ≤ (α.2.2.1.1.length : Int)) ∧ pxTpF α.1 = -1 ∧ pxM h' 587 0 = 0 ∧ pySo h' (pxRw (pxRs α.2.2.1.1) x) (pxPatK α.1 0) 0 (pxFind α.1 (pxRw (pxRs α.2.2.1.1) x) (pxFull α.1 0) 0 false) v)
theorem n_looks {x : Int} (A : pyA h α) (O : pzOk n α) (x0 : -2147483648 ≤ x) (x1 : x ≤ 2147483647) : pxW (f_X12_looks h 587 (pxJ x)) fun v h' => pyV pyQZ h h' ∧ pyA h' α ∧ pyLk x α v h' := by
  have H := A.1
  have T := O.1
  have l60 := T.1
  unfold f_X12_looks g_X12_looks_b29
  rw [pyN_rc H, px_bs]
  refine pxW_b2 (n_loadTape H A.2.1 T) fun _ h1 q => ?_
  obtain ⟨V1, G1⟩ := q
  have A1 := A.ld V1
  have L1 := A1.2.2.2.1.1
  rw [pyN_rc A1.1, px_bs, n_isLine A1.1 L1 x0 x1, px_b2]
  by_cases b : 1 ≤ x ∧ x ≤ (α.2.2.1.1.length : Int)
  · rw [if_pos b, if_neg (show ¬ (pxJ 1 = 0) by decide), pyN_rc A1.1, px_bs]
    refine pxW_b2 (n_patternsFault A1.1 G1) fun r h2 q => ?_
    obtain ⟨er, V2⟩ := q
    have V2' : pyV pyQp h1 h2 := V2.mono (fun k f z => by unfold pyQs at z; unfold pyQp; omega)
    have A2 := A1.qp V2'
    have G2 := G1.s V2
    have or := pxTpF_r (s := α.1)
    have W2 := (pyQld.z V1).trans (pyQp.z V2')
    subst er
    by_cases c : pxTpF α.1 = -1
    · rw [if_pos (show pxJ (pxTpF α.1) < (0 : Int32) from (pxJ_ng (by omega) (by omega)).mpr c), pyThr (w := 0) (t := 0) A2.1 rfl (by omega) (by omega), if_pos (show (0 : Int32) ≤ 0 from Int32.le_refl _)]
      obtain ⟨z1, z2, A3⟩ := A2.n00
      have G3 := G2.keep (P := fun k f => k = 587 ∧ f = 0) (pyV.rfl.set (h := h2) (v := (0 : Int32)) ⟨rfl, rfl⟩) (by omega) (fun f _ => by omega)
      generalize jw_setI h2 587 0 (0 : Int32) = h3 at *
      obtain ⟨ok, en⟩ := pyTp_ok c
      rw [pyN_rc A3.1, px_bs]
      refine pxW_b2 (n_compile (u := 0) (p := 0) (Or.inr (Or.inr rfl)) A3.1 G3 (by omega) (by omega) ok (if_neg (by omega))) fun _ h4 q => ?_
      obtain ⟨V4, C4, -⟩ := q
      have A4 := A3.qk V4
      have G4 := G3.keep V4 (by unfold pyQk; omega) (fun f _ => by unfold pyQk; omega)
      have l40 := A4.2.2.2.1.1.2.1
      rw [n_textRow (by omega) (by omega), px_b2, pyN_rc A4.1, px_bs, show (0 : Int32) = pxJ 0 from rfl]
      have q4 := pyRowT A4 b.1 b.2
      have okr : pxOr (pxRw (pxRs α.2.2.1.1) x) := pxRw_or A4.2.2.2.1.1.2.2.1 x
      refine pxW_b2 (n_finds (s := α.1) (p := 0) ⟨by omega, by omega, ok⟩ ⟨A4.1, G4, q4.1, C4⟩ q4.2.2.1 q4.2.2.2 okr (by omega) (by omega)) fun w h5 q => ?_
      obtain ⟨V5, So⟩ := q
      have A5 := A4.qn V5
      have W : pyV pyQZ h3 h5 := (V4.mono (fun k f z => by unfold pyQk at z; unfold pyQZ; omega)).trans (V5.mono (fun k f z => by unfold pyQn at z; unfold pyQZ; omega))
      have f0 : pxM h5 587 0 = 0 := by rw [V5.m (by unfold pyQn; omega), V4.m (by unfold pyQk; omega)]; exact z2
      have rb : jw_rb w = some () := by
        cases e : pxFind α.1 (pxRw (pxRs α.2.2.1.1) x) (pxFull α.1 0) 0 false with
        | none => rw [So.1 e]; exact pyRb0
        | some u => rw [(So.2 u.1 u.2.1 u.2.2.1 u.2.2.2 e).1]; exact pyRb1
      rw [rb, px_bs]
      exact pxW_some.mpr ⟨(W2.trans z1).trans W, A5, Or.inr (Or.inr ⟨b, c, f0, So⟩)⟩
    · rw [if_neg (show ¬ (pxJ (pxTpF α.1) < (0 : Int32)) from fun z => c ((pxJ_ng (by omega) (by omega)).mp z)), pyThr (w := 2) (t := 2) A2.1 rfl (by omega) (by omega), if_neg (show ¬ ((2 : Int32) ≤ 0) by decide)]
      have Z := pyZ_2 (v := 0) (w := (0 : Int32)) A2
      exact pxW_some.mpr ⟨W2.trans Z.1, Z.2.2.2, Or.inr (Or.inl ⟨b, c, Z.2.1⟩)⟩
  · rw [if_neg b, if_pos (show pxJ 0 = 0 from rfl), pyThr (w := 1) (t := 1) A1.1 rfl (by omega) (by omega), if_neg (show ¬ ((1 : Int32) ≤ 0) by decide)]
    have Z := pyZ_1 (v := 0) (w := (0 : Int32)) A1
    exact pxW_some.mpr ⟨(pyQld.z V1).trans Z.1, Z.2.2.2, Or.inl ⟨b, Z.2.1⟩⟩
theorem n_findStart {x : Int} (A : pyA h α) (O : pzOk n α) (x0 : -2147483648 ≤ x) (x1 : x ≤ 2147483647) : pxW (f_X12_findStart h 587 (pxJ x)) fun v h' => pyZ h (pz_fse false x α) v h' := by
  have H := A.1
  unfold f_X12_findStart pz_fse g_X12_findStart_b29
  rw [pyN_rc H, px_bs]
  refine pxW_b2 (n_looks A O x0 x1) fun w h1 q => ?_
  obtain ⟨V, A1, K⟩ := q
  rw [pyN_gI A1.1, px_bs]
  rcases K with ⟨b, f0⟩ | ⟨b, c, f0⟩ | ⟨b, c, f0, So⟩
  · rw [f0, if_neg (show ¬ (pxJ 1 ≤ 0) by decide), if_pos b]
    exact pxW_some.mpr ⟨V, f0, fun z => absurd (show (1 : Int) = 0 from z) (by decide), A1⟩
  · rw [f0, if_neg (show ¬ (pxJ 2 ≤ 0) by decide), if_neg (show ¬ ¬ (1 ≤ x ∧ x ≤ (α.2.2.1.1.length : Int)) from fun z => z b), if_neg c]
    exact pxW_some.mpr ⟨V, f0, fun z => absurd (show (2 : Int) = 0 from z) (by decide), A1⟩
  · rw [f0, if_pos (show pxJ 0 ≤ 0 from Int32.le_refl _), if_neg (show ¬ ¬ (1 ≤ x ∧ x ≤ (α.2.2.1.1.length : Int)) from fun z => z b), if_pos c]
    cases e : pxFind α.1 (pxRw (pxRs α.2.2.1.1) x) (pxFull α.1 0) 0 false with
    | none =>
      rw [So.1 e, if_pos (show pxJ 0 = 0 from rfl)]
      exact pxW_some.mpr ⟨V, f0, fun _ => rfl, A1⟩
    | some u =>
      obtain ⟨ew, e40, e41, -⟩ := So.2 u.1 u.2.1 u.2.2.1 u.2.2.2 e
      rw [ew, if_neg (show ¬ (pxJ 1 = 0) by decide), pyN_gI A1.1, px_bs, e40]
      exact pxW_some.mpr ⟨V, f0, fun _ => rfl, A1⟩
theorem n_findEnd {x : Int} (A : pyA h α) (O : pzOk n α) (x0 : -2147483648 ≤ x) (x1 : x ≤ 2147483647) : pxW (f_X12_findEnd h 587 (pxJ x)) fun v h' => pyZ h (pz_fse true x α) v h' := by
  have H := A.1
  unfold f_X12_findEnd pz_fse g_X12_findEnd_b29
  rw [pyN_rc H, px_bs]
  refine pxW_b2 (n_looks A O x0 x1) fun w h1 q => ?_
  obtain ⟨V, A1, K⟩ := q
  rw [pyN_gI A1.1, px_bs]
  rcases K with ⟨b, f0⟩ | ⟨b, c, f0⟩ | ⟨b, c, f0, So⟩
  · rw [f0, if_neg (show ¬ (pxJ 1 ≤ 0) by decide), if_pos b]
    exact pxW_some.mpr ⟨V, f0, fun z => absurd (show (1 : Int) = 0 from z) (by decide), A1⟩
  · rw [f0, if_neg (show ¬ (pxJ 2 ≤ 0) by decide), if_neg (show ¬ ¬ (1 ≤ x ∧ x ≤ (α.2.2.1.1.length : Int)) from fun z => z b), if_neg c]
    exact pxW_some.mpr ⟨V, f0, fun z => absurd (show (2 : Int) = 0 from z) (by decide), A1⟩
  · rw [f0, if_pos (show pxJ 0 ≤ 0 from Int32.le_refl _), if_neg (show ¬ ¬ (1 ≤ x ∧ x ≤ (α.2.2.1.1.length : Int)) from fun z => z b), if_pos c]
    cases e : pxFind α.1 (pxRw (pxRs α.2.2.1.1) x) (pxFull α.1 0) 0 false with
    | none =>
      rw [So.1 e, if_pos (show pxJ 0 = 0 from rfl)]
      exact pxW_some.mpr ⟨V, f0, fun _ => rfl, A1⟩
    | some u =>
      obtain ⟨ew, e40, e41, -⟩ := So.2 u.1 u.2.1 u.2.2.1 u.2.2.2 e
      rw [ew, if_neg (show ¬ (pxJ 1 = 0) by decide), pyN_gI A1.1, px_bs, e41]
      exact pxW_some.mpr ⟨V, f0, fun _ => rfl, A1⟩
end
