/-! the lots -/
theorem pzLot_b {z : Int} : 0 ≤ pzLot z ∧ pzLot z ≤ 65535 := by unfold pzLot; omega
theorem pzSr_b : ∀ (m : Nat) (z : Int) (w : List Int), 0 ≤ z → z ≤ 65535 → (∀ c ∈ w, pxCh c) → (0 ≤ (pzSr m z w).1 ∧ (pzSr m z w).1 ≤ 65535) ∧ (∀ c ∈ (pzSr m z w).2, pxCh c) ∧ (pzSr m z w).2.length = w.length + m
  | 0, z, w, z0, z1, ok => ⟨⟨z0, z1⟩, ok, rfl⟩
  | m + 1, z, w, z0, z1, ok => by
    have lb := pzLot_b (z := z)
    have ih := pzSr_b m (pzLot z) (w ++ [if pzLot z / 16 % 6 = 5 then 32 else 97 + pzLot z / 16 % 6]) lb.1 lb.2 (fun c hc => by
      rcases List.mem_append.mp hc with y | y
      · exact ok c y
      · rw [List.mem_singleton.mp y]
        by_cases d : pzLot z / 16 % 6 = 5
        · rw [if_pos d]; exact Or.inr (Or.inr rfl)
        · rw [if_neg d]; exact Or.inl (by omega))
    rw [List.length_append, List.length_singleton] at ih
    show (0 ≤ (pzSr m (pzLot z) (w ++ [if pzLot z / 16 % 6 = 5 then 32 else 97 + pzLot z / 16 % 6])).1 ∧ _) ∧ _
    exact ⟨ih.1, ih.2.1, by
      have := ih.2.2
      show (pzSr m (pzLot z) (w ++ [if pzLot z / 16 % 6 = 5 then 32 else 97 + pzLot z / 16 % 6])).2.length = _
      omega⟩
