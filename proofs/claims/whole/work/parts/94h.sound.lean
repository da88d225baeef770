/-! the reference's calls: isSound -/
theorem pxNoF_at : ∀ (l : pxLs) (k x : Int), (pxIds l).Nodup → 1 ≤ x → x ≤ l.length → pxNoF (pxAt l x).1 l k = k + x - 1
  | [], _, x, _, x1, x2 => by
    have : x ≤ 0 := x2
    omega
  | a :: r, k, x, nd, x1, x2 => by
    have x2' : x ≤ r.length + 1 := by
      have : ((a :: r).length : Int) = r.length + 1 := by rw [List.length_cons]; omega
      omega
    have ma : pxIds (a :: r) = a.1 :: pxIds r := rfl
    rw [ma] at nd
    obtain ⟨nm, nd'⟩ := List.nodup_cons.mp nd
    by_cases c : x = 1
    · subst c
      have e : pxAt (a :: r) 1 = a := rfl
      rw [e]
      show (if a.1 = a.1 then k else pxNoF a.1 r (k + 1)) = _
      rw [if_pos rfl]
      omega
    · have e : pxAt (a :: r) x = pxAt r (x - 1) := by
        unfold pxAt pxG
        rw [show (x - 1).toNat = (x - 1 - 1).toNat + 1 by omega]
        rfl
      have mm : (pxAt r (x - 1)).1 ∈ pxIds r := List.mem_map_of_mem (pxG_mem (by omega) (by omega))
      rw [e]
      show (if a.1 = (pxAt r (x - 1)).1 then k else pxNoF (pxAt r (x - 1)).1 r (k + 1)) = _
      rw [if_neg (fun z => nm (by rw [z]; exact mm)), pxNoF_at r (k + 1) (x - 1) nd' (by omega) (by omega)]
      omega
section
variable {h : jw_H} {α : pzA} {n : Int}
theorem n_isSound_b129 (A : pyA h α) (I : pxInv α.2.2.1) (nb : α.2.2.1.2.2.2 ≤ 2147483647) : ∀ (m N : Nat) (j : Int), j + m = 5 → 0 ≤ j → m < N → f_X12_isSound_b129 N h 587 (pxJ 1) (pxJ j) = some (pxJ 1, h) := by
  have H := A.1
  have L := A.2.2.2.1.1
  have l40 := L.2.1
  have e16 := A.2.2.2.1.2.2.1
  obtain ⟨nd, rg, mk⟩ := pyIds_nd I
  have i1 := I.2.2.1
  have i2 := I.2.2.2.1
  have i3 := I.2.2.2.2.1
  intro m
  induction m with
  | zero =>
    intro N j hj j0 hN
    obtain ⟨N, rfl, -⟩ := px_fu hN
    rw [u_X12_isSound_b129]
    unfold g_X12_isSound_b129
    rw [if_pos (show (5 : Int32) ≤ pxJ j from (pxJ_le (a := 5) (b := j) (by omega) (by omega) (by omega) (by omega)).mpr (by omega)), if_neg (show ¬ (pxJ 1 = 0) by decide), pyN_gI H, px_bs, L.1]
    unfold g_X12_isSound_b212 g_X12_isSound_b217
    by_cases z : α.2.2.1.1.length = 0
    · rw [if_pos (show pxJ (α.2.2.1.1.length : Int) = 0 by rw [z]; rfl), pyN_gI H, px_bs, e16, if_pos (show pxJ α.2.2.1.2.2.1 = 0 by rw [show α.2.2.1.2.2.1 = 0 by omega]; rfl), pyRb1, px_bs]
      rfl
    · rw [if_neg (show ¬ (pxJ (α.2.2.1.1.length : Int) = 0) from fun y => z (by
        have := (pxJ_eq (a := (α.2.2.1.1.length : Int)) (b := 0) (by omega) (by omega) (by omega) (by omega)).mp y
        omega)), pyN_gI H, px_bs, e16, if_neg (show ¬ (pxJ α.2.2.1.2.2.1 < (1 : Int32)) from fun y => by
        have := (pxJ_lt (a := α.2.2.1.2.2.1) (b := 1) (by omega) (by omega) (by omega) (by omega)).mp y
        omega), px_bs, px_bs, if_neg (show ¬ (pxJ (α.2.2.1.1.length : Int) < pxJ α.2.2.1.2.2.1) from fun y => by
        have := (pxJ_lt (a := (α.2.2.1.1.length : Int)) (b := α.2.2.1.2.2.1) (by omega) (by omega) (by omega) (by omega)).mp y
        omega), pyRb1, px_bs]
      rfl
  | succ m ih =>
    intro N j hj j0 hN
    obtain ⟨N, rfl, hN⟩ := px_fu hN
    have K := A.2.2.2.1.2.1 j j0 (by omega)
    have nx := ih N (j + 1) (by omega) (by omega) (by omega)
    rw [u_X12_isSound_b129]
    unfold g_X12_isSound_b129
    rw [if_neg (show ¬ ((5 : Int32) ≤ pxJ j) from fun y => by
      have := (pxJ_le (a := 5) (b := j) (by omega) (by omega) (by omega) (by omega)).mp y
      omega), if_neg (show ¬ (pxJ 1 = 0) by decide), pyN_g10 H, px_bs, pyN_a596 H j0 (by omega), px_bs, K]
    unfold g_X12_isSound_b160 g_X12_isSound_b165
    by_cases c : α.2.2.1.2.1 j = -1
    · rw [c, if_pos (show pxJ (-1) < 0 by decide), show pxJ j + (1 : Int32) = pxJ (j + 1) from pxJ_add j 1]
      exact nx
    · have mm := (mk j j0 (by omega)).resolve_left c
      have r := rg _ mm
      have n1 : ¬ pxNo α.2.2.1.1 (α.2.2.1.2.1 j) = -1 := fun z => pxNo_mem.mp z mm
      have nin := pxNo_in α.2.2.1.1 (α.2.2.1.2.1 j)
      have e : pyNo α.2.2.1.1 (α.2.2.1.2.1 j) = pxNo α.2.2.1.1 (α.2.2.1.2.1 j) := if_neg n1
      rw [if_neg (show ¬ (pxJ (α.2.2.1.2.1 j) < 0) from fun y => by
        have := (pxJ_lt (a := α.2.2.1.2.1 j) (b := 0) (by omega) (by omega) (by omega) (by omega)).mp y
        omega), px_bs, pyN_a596 H j0 (by omega), px_bs, K, pyN_rc H, px_bs, n_lineWith H L (by omega) (by omega), px_b2, e, if_neg (show ¬ (pxJ (pxNo α.2.2.1.1 (α.2.2.1.2.1 j)) ≤ 0) from pyLe0 (z := pxNo α.2.2.1.1 (α.2.2.1.2.1 j)) (by omega) (by omega) (by omega)), show pxJ j + (1 : Int32) = pxJ (j + 1) from pxJ_add j 1]
      exact nx
theorem n_isSound_b74 (A : pyA h α) (I : pxInv α.2.2.1) (nb : α.2.2.1.2.2.2 ≤ 2147483647) : ∀ (m N : Nat) (j : Int), j + m = α.2.2.1.1.length → 0 ≤ j → m < N → f_X12_isSound_b74 N h 587 (pxJ 1) (pxJ j) = some (pxJ 1, h) := by
  have H := A.1
  have L := A.2.2.2.1.1
  have l40 := L.2.1
  have e17 := A.2.2.2.1.2.2.2
  obtain ⟨nd, rg, mk⟩ := pyIds_nd I
  intro m
  induction m with
  | zero =>
    intro N j hj j0 hN
    obtain ⟨N, rfl, -⟩ := px_fu hN
    rw [u_X12_isSound_b74]
    unfold g_X12_isSound_b74
    rw [pyN_gI H, px_bs, L.1, if_pos (show pxJ (α.2.2.1.1.length : Int) ≤ pxJ j from (pxJ_le (by omega) (by omega) (by omega) (by omega)).mpr (by omega)), show (0 : Int32) = pxJ 0 from rfl]
    exact n_isSound_b129 A I nb 5 jw_FU 0 (by omega) (by omega) (by unfold jw_FU; omega)
  | succ m ih =>
    intro N j hj j0 hN
    obtain ⟨N, rfl, hN⟩ := px_fu hN
    have R := (L.2.2.2 (j + 1) (by omega) (by omega)).2
    rw [show j + 1 - 1 = j by omega] at R
    have mm : (pxAt α.2.2.1.1 (j + 1)).1 ∈ pxIds α.2.2.1.1 := List.mem_map_of_mem (pxG_mem (by omega) (by omega))
    have r := rg _ mm
    have no : pxNo α.2.2.1.1 (pxAt α.2.2.1.1 (j + 1)).1 = j + 1 := by
      unfold pxNo
      rw [pxNoF_at α.2.2.1.1 1 (j + 1) nd (by omega) (by omega)]
      omega
    have e : pyNo α.2.2.1.1 (pxAt α.2.2.1.1 (j + 1)).1 = j + 1 := by
      unfold pyNo
      rw [no, if_neg (by omega)]
    have nx := ih N (j + 1) (by omega) (by omega) (by omega)
    rw [u_X12_isSound_b74]
    unfold g_X12_isSound_b74
    rw [pyN_gI H, px_bs, L.1, if_neg (show ¬ (pxJ (α.2.2.1.1.length : Int) ≤ pxJ j) from fun y => by
      have := (pxJ_le (a := (α.2.2.1.1.length : Int)) (b := j) (by omega) (by omega) (by omega) (by omega)).mp y
      omega), if_neg (show ¬ (pxJ 1 = 0) by decide), pyN_g7 H, px_bs, pyN_a593 H j0 (by omega), px_bs, R, pyN_gI H, px_bs, e17, if_neg (show ¬ (pxJ α.2.2.1.2.2.2 ≤ pxJ (pxAt α.2.2.1.1 (j + 1)).1) from fun y => by
      have := (pxJ_le (a := α.2.2.1.2.2.2) (b := (pxAt α.2.2.1.1 (j + 1)).1) (by omega) (by omega) (by omega) (by omega)).mp y
      omega), px_bs, pyN_a593 H j0 (by omega), px_bs, R, pyN_rc H, px_bs, n_lineWith H L (by omega) (by omega), px_b2, e, show pxJ j + (1 : Int32) = pxJ (j + 1) from pxJ_add j 1, if_pos rfl]
    unfold g_X12_isSound_b120
    rw [show pxJ j + (1 : Int32) = pxJ (j + 1) from pxJ_add j 1]
    exact nx
theorem n_isSound_b40 (A : pyA h α) (I : pxInv α.2.2.1) (nb : α.2.2.1.2.2.2 ≤ 2147483647) : ∀ (m N : Nat) (j : Int), j + m = 4 → 0 ≤ j → m < N → f_X12_isSound_b40 N h 587 (pxJ 1) (pxJ j) = some (pxJ 1, h) := by
  have H := A.1
  have l40 := A.2.2.2.1.1.2.1
  intro m
  induction m with
  | zero =>
    intro N j hj j0 hN
    obtain ⟨N, rfl, -⟩ := px_fu hN
    rw [u_X12_isSound_b40]
    unfold g_X12_isSound_b40
    rw [if_pos (show (4 : Int32) ≤ pxJ j from (pxJ_le (a := 4) (b := j) (by omega) (by omega) (by omega) (by omega)).mpr (by omega)), show (0 : Int32) = pxJ 0 from rfl]
    exact n_isSound_b74 A I nb α.2.2.1.1.length jw_FU 0 (by omega) (by omega) (by unfold jw_FU; omega)
  | succ m ih =>
    intro N j hj j0 hN
    obtain ⟨N, rfl, hN⟩ := px_fu hN
    have F := (A.2.2.2.2.1.2.2.2 j j0 (by omega)).1
    have S := (A.2.2.2.2.1.1.2.2 j j0 (by omega)).1
    have nx := ih N (j + 1) (by omega) (by omega) (by omega)
    rw [u_X12_isSound_b40]
    unfold g_X12_isSound_b40
    rw [if_neg (show ¬ ((4 : Int32) ≤ pxJ j) from fun y => by
      have := (pxJ_le (a := 4) (b := j) (by omega) (by omega) (by omega) (by omega)).mp y
      omega), if_neg (show ¬ (pxJ 1 = 0) by decide), pyN_g11 H, px_bs, pyN_a597 H j0 (by omega), px_bs, F, if_neg (show ¬ ((40 : Int32) < pxJ ((α.2.2.2.1.2.2 j).length : Int)) from fun y => by
      have := (pxJ_lt (a := 40) (b := ((α.2.2.2.1.2.2 j).length : Int)) (by omega) (by omega) (by omega) (by omega)).mp y
      omega)]
    unfold g_X12_isSound_b65
    rw [show pxJ j + (1 : Int32) = pxJ (j + 1) from pxJ_add j 1]
    exact nx
theorem n_isSound (A : pyA h α) (I : pxInv α.2.2.1) (nb : α.2.2.1.2.2.2 ≤ 2147483647) : pxW (f_X12_isSound h 587) fun v h' => pyZ h (pz_isSound α) v h' := by
  have H := A.1
  obtain ⟨z1, z2, A1⟩ := A.n00
  unfold f_X12_isSound pz_isSound
  rw [pyN_pI H, px_bs]
  generalize jw_setI h 587 0 (0 : Int32) = h1 at *
  have H1 := A1.1
  have l40 := A1.2.2.2.1.1.2.1
  have I1 := A1.2.2.2.2.1.1
  have lt : ∀ a b : Int, 0 ≤ a → a ≤ 1000 → 0 ≤ b → b ≤ a → ¬ (pxJ a < pxJ b) := fun a b a0 a1 b0 b1 y => by
    have := (pxJ_lt (a := a) (b := b) (by omega) (by omega) (by omega) (by omega)).mp y
    omega
  rw [pyN_gI H1, px_bs, A1.2.2.2.1.1.1, if_neg (show ¬ ((40 : Int32) < pxJ (α.2.2.1.1.length : Int)) from lt 40 _ (by omega) (by omega) (by omega) (by omega)), pyN_gI H1, px_bs, A1.2.2.2.2.1.2.1.1, if_neg (show ¬ ((40 : Int32) < pxJ (α.2.2.2.1.1.length : Int)) from lt 40 _ (by omega) (by omega) (by omega) (by have := I1.1.1; omega)), pyN_gI H1, px_bs, A1.2.2.2.2.1.2.2.1.1, if_neg (show ¬ ((100 : Int32) < pxJ (α.2.2.2.1.2.1.length : Int)) from lt 100 _ (by omega) (by omega) (by omega) (by have := I1.2.1.1; omega))]
  unfold g_X12_isSound_b37
  rw [show f_X12_isSound_b40 jw_FU h1 587 (1 : Int32) (0 : Int32) = some (pxJ 1, h1) from n_isSound_b40 A1 I nb 4 jw_FU 0 (by omega) (by omega) (by unfold jw_FU; omega)]
  exact pxW_some.mpr ⟨z1, z2, fun _ => rfl, A1⟩
end
