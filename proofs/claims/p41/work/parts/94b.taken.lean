/-! small facts that stood with the reference in the proof of the whole law -/
def pyC (s : List Int) (p : Int) : Int := if p < s.length then pxE s p else 0
theorem pyC_f {s : List Int} (T : pxTp s) {p : Int} (p0 : 0 ≤ p) : (pxP s p = -1 ∧ pyC s p = 0 ∧ s.length ≤ p) ∨ (pxP s p = pyC s p ∧ 32 ≤ pyC s p ∧ pyC s p ≤ 126 ∧ p < s.length) := by
  have := pxP_in T p
  by_cases c : p < s.length
  · have e : pyC s p = pxP s p := by unfold pyC; rw [if_pos c, pxP_E p0 c]
    omega
  · have e : pyC s p = 0 := by unfold pyC; rw [if_neg c]
    omega
theorem py32 {a b : Int} (h : a ≠ b) (a0 : -1 ≤ a) (a1 : a ≤ 200) (b0 : 0 ≤ b) (b1 : b ≤ 200) : ¬ (pxJ a = pxJ b) := fun z => h ((pxJ_eq (a := a) (b := b) (by omega) (by omega) (by omega) (by omega)).mp z)
theorem pyLe0 {z : Int} (z0 : z ≠ 0) (z1 : 0 ≤ z) (z2 : z ≤ 2000) : ¬ (pxJ z ≤ (0 : Int32)) := fun y => by
  have := (pxJ_le (a := z) (b := 0) (by omega) (by omega) (by omega) (by omega)).mp y
  omega
theorem pyRb0 : jw_rb (0 : Int32) = some () := px_rb0
theorem pyRb1 : jw_rb (1 : Int32) = some () := px_rb1
theorem pyIds_nd {T : pxTx} (I : pxInv T) : (pxIds T.1).Nodup ∧ (∀ a ∈ pxIds T.1, 0 ≤ a ∧ a < T.2.2.2) ∧ ∀ k : Int, 0 ≤ k → k < 5 → T.2.1 k = -1 ∨ T.2.1 k ∈ pxIds T.1 :=
  ⟨I.2.2.2.2.2.2.2.1, I.2.2.2.2.2.2.1, I.2.2.2.2.2.2.2.2⟩
theorem pxOrds_r {s : List Int} : ∀ (m : Nat) (p : Int), 0 ≤ p → p ≤ s.length → -1 ≤ (pxOrds s m p).1 ∧ (pxOrds s m p).1 ≤ s.length
  | 0, p, p0, p1 => by
    show -1 ≤ p ∧ p ≤ s.length
    omega
  | m + 1, p, p0, p1 => by
    have tb := pxTop_b (s := s) p0 p1
    have e : pxOrds s (m + 1) p = if (pxTop s p).1 = true then (if pxP s (pxTop s p).2.1 = 59 then ((pxOrds s m ((pxTop s p).2.1 + 1)).1, (p, (pxTop s p).2.2) :: (pxOrds s m ((pxTop s p).2.1 + 1)).2) else if s.length ≤ (pxTop s p).2.1 then (-1, [(p, (pxTop s p).2.2)]) else ((pxTop s p).2.1, [])) else ((pxTop s p).2.1, []) := rfl
    rw [e]
    by_cases c : (pxTop s p).1 = true
    · rw [if_pos c]
      by_cases d : pxP s (pxTop s p).2.1 = 59
      · rw [if_pos d]
        have pl := (pxP_lt (s := s) (p := (pxTop s p).2.1) (by omega)).2
        exact pxOrds_r m ((pxTop s p).2.1 + 1) (by omega) (by omega)
      · rw [if_neg d]
        by_cases g : (s.length : Int) ≤ (pxTop s p).2.1
        · rw [if_pos g]
          show -1 ≤ (-1 : Int) ∧ (-1 : Int) ≤ s.length
          omega
        · rw [if_neg g]
          show -1 ≤ (pxTop s p).2.1 ∧ (pxTop s p).2.1 ≤ s.length
          omega
    · rw [if_neg c]
      show -1 ≤ (pxTop s p).2.1 ∧ (pxTop s p).2.1 ≤ s.length
      omega
theorem pxOrds_n {s : List Int} : ∀ (m : Nat) (p : Int), (pxOrds s m p).2.length ≤ m
  | 0, p => Nat.le_refl _
  | m + 1, p => by
    have ih := pxOrds_n (s := s) m ((pxTop s p).2.1 + 1)
    have e : pxOrds s (m + 1) p = if (pxTop s p).1 = true then (if pxP s (pxTop s p).2.1 = 59 then ((pxOrds s m ((pxTop s p).2.1 + 1)).1, (p, (pxTop s p).2.2) :: (pxOrds s m ((pxTop s p).2.1 + 1)).2) else if s.length ≤ (pxTop s p).2.1 then (-1, [(p, (pxTop s p).2.2)]) else ((pxTop s p).2.1, [])) else ((pxTop s p).2.1, []) := rfl
    rw [e]
    by_cases c : (pxTop s p).1 = true
    · rw [if_pos c]
      by_cases d : pxP s (pxTop s p).2.1 = 59
      · rw [if_pos d]
        show ((pxOrds s m ((pxTop s p).2.1 + 1)).2).length + 1 ≤ m + 1
        omega
      · rw [if_neg d]
        by_cases g : (s.length : Int) ≤ (pxTop s p).2.1
        · rw [if_pos g]
          show 1 ≤ m + 1
          omega
        · rw [if_neg g]
          show 0 ≤ m + 1
          omega
    · rw [if_neg c]
      show 0 ≤ m + 1
      omega
theorem pxTpF_r {s : List Int} : -1 ≤ pxTpF s ∧ pxTpF s ≤ s.length := by
  have pb := pxPat_b (s := s) (p := 0) (by omega) (by omega)
  unfold pxTpF
  by_cases c : (pxPat s 0).1 = true ∧ (s.length : Int) ≤ (pxPat s 0).2
  · rw [if_pos c]
    omega
  · rw [if_neg c]
    omega
theorem pxTp_e {s : List Int} (T : pxTp s) {j : Int} (j0 : 0 ≤ j) (j1 : j < s.length) : 32 ≤ pxE s j ∧ pxE s j ≤ 126 := by
  have f := pyC_f T j0
  have e : pyC s j = pxE s j := by
    unfold pyC
    rw [if_pos j1]
  rw [e] at f
  omega
theorem pyOk4 {n : Int} {α : pzA} {k : Int} {s : List Int} (O : pzOk n α) (k0 : 0 ≤ k) (k4 : k < 4) (e : α.2.1 k = some s) : pxTp s ∧ (pxOrds s 61 0).1 = -1 := O.2.1 k s k0 k4 e
theorem pyD_end : ∀ {D : List (Int × pxSn)}, D ≠ [] → ∃ D' d, D = D' ++ [d]
  | [], ne => absurd rfl ne
  | [a], _ => ⟨[], a, rfl⟩
  | a :: b :: q, _ => by
    obtain ⟨D', d, e⟩ := pyD_end (D := b :: q) (by simp)
    exact ⟨a :: D', d, by rw [e]; rfl⟩
theorem pyTp_ok {s : List Int} (z : pxTpF s = -1) : (pxPat s 0).1 = true ∧ (s.length : Int) ≤ (pxPat s 0).2 := by
  have pb := pxPat_b (s := s) (p := 0) (by omega) (by omega)
  unfold pxTpF at z
  by_cases c : (pxPat s 0).1 = true ∧ (s.length : Int) ≤ (pxPat s 0).2
  · exact c
  · rw [if_neg c] at z
    omega
theorem pxNoF_at : ∀ (l : pxLs) (k x : Int), (pxIds l).Nodup → 1 ≤ x → x ≤ l.length → pxNoF (pxAt l x).1 l k = k + x - 1
  | [], _, x, _, x1, x2 => by
    have : x ≤ 0 := x2
    omega
  | a :: r, k, x, nd, x1, x2 => by
    have x2' : x ≤ r.length + 1 := by
      have : ((a :: r).length : Int) = r.length + 1 := by rw [List.length_cons]; omega
      omega
    have ma : pxIds (a :: r) = a.1 :: pxIds r := rfl
    rw [ma] at nd
    obtain ⟨nm, nd'⟩ := List.nodup_cons.mp nd
    by_cases c : x = 1
    · subst c
      have e : pxAt (a :: r) 1 = a := rfl
      rw [e]
      show (if a.1 = a.1 then k else pxNoF a.1 r (k + 1)) = _
      rw [if_pos rfl]
      omega
    · have e : pxAt (a :: r) x = pxAt r (x - 1) := by
        unfold pxAt pxG
        rw [show (x - 1).toNat = (x - 1 - 1).toNat + 1 by omega]
        rfl
      have mm : (pxAt r (x - 1)).1 ∈ pxIds r := List.mem_map_of_mem (pxG_mem (by omega) (by omega))
      rw [e]
      show (if a.1 = (pxAt r (x - 1)).1 then k else pxNoF (pxAt r (x - 1)).1 r (k + 1)) = _
      rw [if_neg (fun z => nm (by rw [z]; exact mm)), pxNoF_at r (k + 1) (x - 1) nd' (by omega) (by omega)]
      omega
theorem pxIns_end {ls ms : pxLs} : pxIns ls ((ls.length : Int) + 1) ms = ls ++ ms := by
  unfold pxIns
  rw [show ((ls.length : Int) + 1 - 1).toNat = ls.length by omega, List.take_length, List.drop_length, List.append_nil]
