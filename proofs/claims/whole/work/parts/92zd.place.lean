/-! the reference: where orders stand -/
theorem pyWh_0 {s : List Int} {p : Int} (k : (pxWh s p).2.2.1 = 0) : (pxWh s p).2.1 = p := by
  unfold pxWh at k ⊢
  by_cases a : pxP s p = 37
  · rw [if_pos a] at k
    exact absurd k (by show ¬ (1 : Int) = 0; decide)
  rw [if_neg a] at k ⊢
  by_cases b : pxSpot0 (pxP s p) = true
  · rw [if_pos b] at k
    by_cases c : (pxAddr s p).1 = true
    · rw [if_pos c] at k
      by_cases d : pxP s (pxAddr s p).2 = 44
      · rw [if_pos d] at k
        exact absurd k (by show ¬ (3 : Int) = 0; decide)
      · rw [if_neg d] at k
        exact absurd k (by show ¬ (2 : Int) = 0; decide)
    · rw [if_neg c] at k
      exact absurd k (by show ¬ (2 : Int) = 0; decide)
  · rw [if_neg b]
/-- an order's parts -/
theorem pyTop_a {s : List Int} {p : Int} (ok : (pxTop s p).1 = true) : (pxWh s p).1 = true ∧ (pxAc s p = 58 → (pxWh s p).2.2.1 = 0) ∧
    (¬ (pxAc s p = 123 ∨ pxAc s p = 103 ∨ pxAc s p = 71) → (pxAct s (pxWh s p).2.1).1 = true ∧ (pxTop s p).2.1 = (pxAct s (pxWh s p).2.1).2) ∧
    (pxAc s p = 123 → (pxBlk s 61 ((pxWh s p).2.1 + 1)).1 = true ∧ (pxTop s p).2 = (pxBlk s 61 ((pxWh s p).2.1 + 1)).2) ∧
    ((pxAc s p = 103 ∨ pxAc s p = 71) → (pxPtn s ((pxWh s p).2.1 + 1)).1 = true ∧ (pyPs s (pxPtn s ((pxWh s p).2.1 + 1)).2).1 = true ∧ (pxTop s p).2 = (pyPs s (pxPtn s ((pxWh s p).2.1 + 1)).2).2) := by
  unfold pxTop at ok ⊢
  unfold pxAc pyPs
  by_cases a : (pxWh s p).1 = true
  · rw [if_pos a] at ok ⊢
    by_cases b : pxP s (pxWh s p).2.1 = 123
    · rw [if_pos b] at ok ⊢
      exact ⟨a, fun z => absurd z (by omega), fun z => absurd (Or.inl b) z, fun _ => ⟨ok, rfl⟩, fun z => absurd z (by omega)⟩
    · rw [if_neg b] at ok ⊢
      by_cases c : pxP s (pxWh s p).2.1 = 103 ∨ pxP s (pxWh s p).2.1 = 71
      · rw [if_pos c] at ok ⊢
        by_cases d : (pxPtn s ((pxWh s p).2.1 + 1)).1 = true
        · rw [if_pos d] at ok ⊢
          refine ⟨a, fun z => absurd z (by omega), fun z => absurd (Or.inr c) z, fun z => absurd z b, fun _ => ⟨d, ?_⟩⟩
          by_cases g : pxP s (pxPtn s ((pxWh s p).2.1 + 1)).2 = 123
          · rw [if_pos g] at ok ⊢
            try rw [if_pos g]
            exact ⟨ok, rfl⟩
          · rw [if_neg g] at ok ⊢
            try rw [if_neg g]
            exact ⟨ok, rfl⟩
        · rw [if_neg d] at ok; cases ok
      · rw [if_neg c] at ok ⊢
        by_cases d : pxP s (pxWh s p).2.1 = 58 ∧ (pxWh s p).2.2.1 ≠ 0
        · rw [if_pos d] at ok; cases ok
        · rw [if_neg d] at ok ⊢
          refine ⟨a, fun z => ?_, fun _ => ⟨ok, rfl⟩, fun z => absurd z b, fun z => absurd z c⟩
          by_cases k : (pxWh s p).2.2.1 = 0
          · exact k
          · exact absurd ⟨z, k⟩ d
  · rw [if_neg a] at ok; cases ok
theorem pyLab {s : List Int} {p : Int} (ok : (pxTop s p).1 = true) (n : Int) (n0 : 65 ≤ n) (n1 : n ≤ 90) : (pxAc s p = 58 ∧ pxOn s (pxWh s p).2.1 = n - 65) ↔ (pxP s p = 58 ∧ pxP s (p + 1) = n) := by
  have t := pyTop_a ok
  constructor
  · rintro ⟨a, b⟩
    have k := t.2.1 a
    have e := pyWh_0 k
    unfold pxAc at a
    rw [e] at a b
    unfold pxOn at b
    rw [if_neg (by omega), if_neg (by omega), if_pos (Or.inl a)] at b
    by_cases d : 65 ≤ pxP s (p + 1) ∧ pxP s (p + 1) ≤ 90
    · rw [if_pos d] at b
      exact ⟨a, by omega⟩
    · rw [if_neg d] at b
      exact absurd b (by omega)
  · rintro ⟨a, b⟩
    have e : pxWh s p = (true, p, 0, 0) := by unfold pxWh; rw [a]; rfl
    unfold pxAc pxOn
    rw [e]
    show pxP s p = 58 ∧ _
    rw [if_neg (by show ¬ pxP s p = 107; omega), if_neg (by show ¬ (pxP s p = 114 ∨ pxP s p = 119); omega), if_pos (show pxP s p = 58 ∨ pxP s p = 98 ∨ pxP s p = 84 from Or.inl a), if_pos (show 65 ≤ pxP s (p + 1) ∧ pxP s (p + 1) ≤ 90 by omega)]
    exact ⟨a, by show pxP s (p + 1) - 65 = n - 65; omega⟩
/-- where the order j stands; the end behind the last -/
def pyAp (s : List Int) (L : List (Int × List Int)) (j : Nat) : Int := (L[j]?).elim (s.length : Int) (fun t => t.1)
theorem pyAp_end {s : List Int} {L : List (Int × List Int)} {j : Nat} (h : L.length ≤ j) : pyAp s L j = s.length := by
  unfold pyAp
  rw [List.getElem?_eq_none h]
  rfl
theorem pyAp_at {s : List Int} {L : List (Int × List Int)} {j : Nat} {t : Int × List Int} (h : L[j]? = some t) : pyAp s L j = t.1 := by
  unfold pyAp
  rw [h]
  rfl
theorem pyLs_at {s : List Int} : ∀ (L : List (Int × List Int)) (p : Int) (j : Nat) (t : Int × List Int), pyLs s p L → L[j]? = some t → 0 ≤ t.1 ∧ t.1 < s.length ∧ (pxTop s t.1).1 = true ∧ t.2 = (pxTop s t.1).2.2 ∧ (pxP s (pxTop s t.1).2.1 = 59 ∨ (s.length : Int) ≤ (pxTop s t.1).2.1) ∧ pyAp s L (j + 1) = if (s.length : Int) ≤ (pxTop s t.1).2.1 then (s.length : Int) else (pxTop s t.1).2.1 + 1
  | [], _, _, _, _, e => by cases e
  | u :: r, p, 0, t, A, e => by
    cases e
    obtain ⟨et, p0, pl, ok, e2, nx⟩ := A
    rw [et]
    refine ⟨p0, pl, ok, e2, ?_, ?_⟩
    · rcases nx with z | z
      · exact Or.inl z.1
      · exact Or.inr z.1
    · rcases nx with ⟨c59, ne, z⟩ | ⟨g, z⟩
      · have b := (pxP_lt (s := s) (p := (pxTop s p).2.1) (by omega)).2
        rw [if_neg (by omega)]
        cases r with
        | nil => exact absurd rfl ne
        | cons v r => exact z.1
      · rw [if_pos g, z]
        rfl
  | u :: r, p, j + 1, t, A, e => by
    obtain ⟨et, p0, pl, ok, e2, nx⟩ := A
    have e' : r[j]? = some t := e
    rcases nx with ⟨c59, ne, z⟩ | ⟨g, z⟩
    · exact pyLs_at r _ j t z e'
    · rw [z] at e'; cases e'
theorem pyBh_of {s : List Int} {n : Int} (n0 : 65 ≤ n) (n1 : n ≤ 90) : ∀ (L : List (Int × List Int)) (p : Int) (j : Nat), (L ≠ [] → pyLs s p L) → pyBh s n L = if pxBeh s (n - 65) L j = -1 then -1 else pyAp s L ((pxBeh s (n - 65) L j).toNat - j)
  | [], _, _, _ => rfl
  | t :: r, p, j, A => by
    have A0 := A (by simp)
    obtain ⟨-, -, ok, -, -, ap⟩ := pyLs_at (t :: r) p 0 t A0 rfl
    have lb := pyLab ok n n0 n1
    unfold pyBh pxBeh
    by_cases c : pxP s t.1 = 58 ∧ pxP s (t.1 + 1) = n
    · rw [if_pos c, if_pos (lb.mpr c), if_neg (show ¬ (((j + 1 : Nat) : Int) = -1) by omega), show (((j + 1 : Nat) : Int)).toNat - j = 0 + 1 by omega, ap]
    · rw [if_neg c, if_neg (fun z => c (lb.mp z))]
      obtain ⟨et, p0, pl, ok, e2, nx⟩ := A0
      have ih := pyBh_of n0 n1 r ((pxTop s p).2.1 + 1) (j + 1) (fun ne => by
        rcases nx with z | z
        · exact z.2.2
        · exact absurd z.2 ne)
      rw [ih]
      by_cases d : pxBeh s (n - 65) r (j + 1) = -1
      · rw [if_pos d, if_pos d]
      · rw [if_neg d, if_neg d]
        have b := pxBeh_b s (n - 65) r (j + 1)
        rw [show (pxBeh s (n - 65) r (j + 1)).toNat - j = ((pxBeh s (n - 65) r (j + 1)).toNat - (j + 1)) + 1 by omega]
        rfl
theorem pyJp_of {s : List Int} {L : List (Int × List Int)} {pa : Int} (A : pyLs s 0 L) (c : pxP s pa = 98 ∨ pxP s pa = 84) : pyJp s L pa = if pxOn s pa = -1 then (s.length : Int) else if pxBeh s (pxOn s pa) L 0 = -1 then -1 else pyAp s L (pxBeh s (pxOn s pa) L 0).toNat := by
  have eo : pxOn s pa = if 65 ≤ pxP s (pa + 1) ∧ pxP s (pa + 1) ≤ 90 then pxP s (pa + 1) - 65 else -1 := by
    unfold pxOn
    rw [if_neg (by omega), if_neg (by omega), if_pos (by omega)]
  unfold pyJp
  by_cases d : 65 ≤ pxP s (pa + 1) ∧ pxP s (pa + 1) ≤ 90
  · rw [if_pos d] at eo ⊢
    rw [eo, if_neg (by omega), pyBh_of d.1 d.2 L 0 0 (fun _ => A), Nat.sub_zero]
  · rw [if_neg d] at eo ⊢
    rw [eo, if_pos rfl]
