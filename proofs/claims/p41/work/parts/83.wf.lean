/-! what a pattern that was read is like -/
theorem pxMach_w {s : List Int} {l2 : List (Int × Int)} (w2 : ∀ k t, pxWE k k t l2) (c2 : ∀ q, pxGc q l2 = q) : ∀ (m : Nat) (g : Bool) (a i t k p : Int), 0 ≤ k → k ≤ 2 → 0 ≤ t → t ≤ 2 → (g = true → 1 ≤ k) → (pxMach s m g a i t k p).1 = true →
    pxWE k (if g = true then k - 1 else k) t ((pxMach s m g a i t k p).2.2.1 ++ l2) ∧ pxGc (if g = true then k - 1 else k) ((pxMach s m g a i t k p).2.2.1 ++ l2) = (pxMach s m g a i t k p).2.2.2 := by
  intro m
  induction m with
  | zero => intro g a i t k p _ _ _ _ _ h; unfold pxMach at h; cases h
  | succ m ih =>
    intro g a i t k p k0 k1 t0 t1 gk h
    -- an element ahead of the rest
    have em : ∀ {e : Int × Int} {r : Bool × Int × List (Int × Int) × Int} {k' q' t' : Int}, e.1 ≠ 10 → (e.1 = 5 → e.2 = k + 1 ∧ k = (if g = true then k - 1 else k) ∧ k + 1 ≤ 2) → (e.1 = 6 → e.2 = k ∧ k = (if g = true then k - 1 else k) + 1) → (e.1 = 7 → 1 ≤ e.2 ∧ e.2 ≤ (if g = true then k - 1 else k)) → (e.1 = 3 → t + 1 ≤ 2) → (if e.1 = 5 then k + 1 else k) = k' → (if e.1 = 6 then (if g = true then k - 1 else k) + 1 else (if g = true then k - 1 else k)) = q' → (if e.1 = 3 then t + 1 else t) = t' → (pxWE k' q' t' (r.2.2.1 ++ l2) ∧ pxGc q' (r.2.2.1 ++ l2) = r.2.2.2) → pxWE k (if g = true then k - 1 else k) t ((pxEm e r).2.2.1 ++ l2) ∧ pxGc (if g = true then k - 1 else k) ((pxEm e r).2.2.1 ++ l2) = (pxEm e r).2.2.2 := by
      intro e r k' q' t' n10 y5 y6 y7 y3 ek eq et R
      refine ⟨Or.inr ⟨y5, y6, y7, y3, ?_⟩, ?_⟩
      · rw [ek, eq, et]; exact R.1
      · show (if e.1 = 10 then (if g = true then k - 1 else k) else pxGc (if e.1 = 6 then (if g = true then k - 1 else k) + 1 else (if g = true then k - 1 else k)) (r.2.2.1 ++ l2)) = r.2.2.2
        rw [if_neg n10, eq]; exact R.2
    unfold pxMach at h ⊢
    by_cases c1 : g = true ∧ pxP s p = 41
    · rw [if_pos c1] at h ⊢
      obtain ⟨g1, -⟩ := c1
      have := gk g1
      subst g1
      refine em (k' := k) (q' := k) (t' := t) (by show (6 : Int) ≠ 10; omega) (fun z => absurd z (by show ¬ (6 : Int) = 5; omega)) (fun _ => ⟨rfl, by rw [if_pos rfl]; omega⟩) (fun z => absurd z (by show ¬ (6 : Int) = 7; omega)) (fun z => absurd z (by show ¬ (6 : Int) = 3; omega)) (if_neg (by show ¬ (6 : Int) = 5; omega)) ?_ (if_neg (by show ¬ (6 : Int) = 3; omega)) ?_
      · rw [if_pos rfl, if_pos (by rfl)]; omega
      · have := ih false a i t k (p + 1) k0 k1 t0 t1 (fun z => by cases z) h
        simpa using this
    rw [if_neg c1] at h ⊢
    by_cases c2' : 12 ≤ (if g = true then a else i)
    · rw [if_pos c2'] at h ⊢
      cases g with
      | true => cases h
      | false => exact ⟨w2 k t, c2 k⟩
    rw [if_neg c2'] at h ⊢
    by_cases c3 : g = false ∧ pxP s p = 40 ∧ k < 2
    · rw [if_pos c3] at h ⊢
      obtain ⟨g1, -, k2⟩ := c3
      subst g1
      refine em (k' := k + 1) (q' := k) (t' := t) (by show (5 : Int) ≠ 10; omega) (fun _ => ⟨rfl, by rw [if_neg (by simp)], by omega⟩) (fun z => absurd z (by show ¬ (5 : Int) = 6; omega)) (fun z => absurd z (by show ¬ (5 : Int) = 7; omega)) (fun z => absurd z (by show ¬ (5 : Int) = 3; omega)) (if_pos rfl) ?_ (if_neg (by show ¬ (5 : Int) = 3; omega)) ?_
      · rw [if_neg (by show ¬ (5 : Int) = 6; omega), if_neg (by simp)]
      · have := ih true 0 (i + 1) t (k + 1) (p + 1) (by omega) (by omega) t0 t1 (fun _ => by omega) h
        rw [if_pos rfl, show k + 1 - 1 = k by omega] at this
        exact this
    rw [if_neg c3] at h ⊢
    by_cases c4 : g = false ∧ pxP s p = 92 ∧ 0 < k
    · rw [if_pos c4] at h ⊢
      obtain ⟨g1, -, k2⟩ := c4
      subst g1
      by_cases c5 : 49 ≤ pxP s (p + 1) ∧ pxP s (p + 1) ≤ 48 + k
      · rw [if_pos c5] at h ⊢
        refine em (k' := k) (q' := k) (t' := t) (by show (7 : Int) ≠ 10; omega) (fun z => absurd z (by show ¬ (7 : Int) = 5; omega)) (fun z => absurd z (by show ¬ (7 : Int) = 6; omega)) (fun _ => ⟨by show 1 ≤ pxP s (p + 1) - 48; omega, by rw [if_neg (by simp)]; show pxP s (p + 1) - 48 ≤ k; omega⟩) (fun z => absurd z (by show ¬ (7 : Int) = 3; omega)) (if_neg (by show ¬ (7 : Int) = 5; omega)) ?_ (if_neg (by show ¬ (7 : Int) = 3; omega)) ?_
        · rw [if_neg (by show ¬ (7 : Int) = 6; omega), if_neg (by simp)]
        · have := ih false a (i + 1) t k (p + 2) k0 k1 t0 t1 (fun z => by cases z) h
          simpa using this
      · rw [if_neg c5] at h; cases h
    rw [if_neg c4] at h ⊢
    -- a plain one
    have pl : ∀ {e : Int × Int} {a' i' t' p' : Int}, (e.1 = 1 ∨ e.1 = 2 ∨ e.1 = 3 ∨ e.1 = 4) → (e.1 = 3 → t + 1 ≤ 2) → (if e.1 = 3 then t + 1 else t) = t' → 0 ≤ t' → t' ≤ 2 → (pxMach s m g a' i' t' k p').1 = true → pxWE k (if g = true then k - 1 else k) t ((pxEm e (pxMach s m g a' i' t' k p')).2.2.1 ++ l2) ∧ pxGc (if g = true then k - 1 else k) ((pxEm e (pxMach s m g a' i' t' k p')).2.2.1 ++ l2) = (pxEm e (pxMach s m g a' i' t' k p')).2.2.2 := by
      intro e a' i' t' p' ek e3 et t0' t1' hh
      exact em (by omega) (fun z => by omega) (fun z => by omega) (fun z => by omega) e3 (if_neg (by omega)) (if_neg (by omega)) et (ih g a' i' t' k p' k0 k1 t0' t1' gk hh)
    by_cases c5 : pxP s p = 42 ∧ t < 2
    · rw [if_pos c5] at h ⊢
      exact pl (Or.inr (Or.inr (Or.inl rfl))) (fun _ => by omega) (if_pos rfl) (by omega) (by omega) h
    rw [if_neg c5] at h ⊢
    by_cases c6 : pxP s p = 46
    · rw [if_pos c6] at h ⊢
      exact pl (Or.inr (Or.inl rfl)) (fun z => absurd z (by show ¬ (2 : Int) = 3; omega)) (if_neg (by show ¬ (2 : Int) = 3; omega)) t0 t1 h
    rw [if_neg c6] at h ⊢
    by_cases c7 : pxIsCh (pxP s p) = true
    · rw [if_pos c7] at h ⊢
      exact pl (Or.inl rfl) (fun z => absurd z (by show ¬ (1 : Int) = 3; omega)) (if_neg (by show ¬ (1 : Int) = 3; omega)) t0 t1 h
    rw [if_neg c7] at h ⊢
    by_cases c8 : pxP s p = 91
    · rw [if_pos c8] at h ⊢
      by_cases c9 : (pxCls s (p + 1)).1 = true
      · rw [if_pos c9] at h ⊢
        exact pl (Or.inr (Or.inr (Or.inr rfl))) (fun z => absurd z (by show ¬ (4 : Int) = 3; omega)) (if_neg (by show ¬ (4 : Int) = 3; omega)) t0 t1 h
      · rw [if_neg c9] at h; cases h
    · rw [if_neg c8] at h ⊢
      cases g with
      | true => cases h
      | false => exact ⟨w2 k t, c2 k⟩
theorem pxFull_w {s : List Int} {p : Int} (h : (pxPat s p).1 = true) : pxWE 0 0 0 (pxFull s p) ∧ pxGc 0 (pxFull s p) = pxPatK s p := by
  have hm : (pxPtM s p).1 = true := by
    unfold pxPat at h
    by_cases c : (pxPtM s p).1 = true
    · exact c
    · rw [if_neg c] at h; cases h
  have key : ∀ l2 : List (Int × Int), (∀ k t, pxWE k k t l2) → (∀ q, pxGc q l2 = q) → pxWE 0 0 0 ((pxPtM s p).2.2.1 ++ l2) ∧ pxGc 0 ((pxPtM s p).2.2.1 ++ l2) = pxPatK s p := by
    intro l2 w2 c2
    have := pxMach_w w2 c2 61 false 0 0 0 0 (pxPt0 s p) (by omega) (by omega) (by omega) (by omega) (fun z => by cases z) hm
    rw [if_neg (by simp)] at this
    exact this
  have tl : ∀ l2 : List (Int × Int), (l2 = [(9, 0)] ∨ l2 = []) → (∀ k t, pxWE k k t (l2 ++ [(10, 0)])) ∧ ∀ q, pxGc q (l2 ++ [(10, 0)]) = q := by
    intro l2 hl
    rcases hl with rfl | rfl
    · refine ⟨fun k t => Or.inr ⟨fun z => absurd z (by show ¬ (9 : Int) = 5; omega), fun z => absurd z (by show ¬ (9 : Int) = 6; omega), fun z => absurd z (by show ¬ (9 : Int) = 7; omega), fun z => absurd z (by show ¬ (9 : Int) = 3; omega), Or.inl rfl⟩, fun q => rfl⟩
    · exact ⟨fun k t => Or.inl rfl, fun q => rfl⟩
  have hl : (if pxP s (pxPtM s p).2.1 = 36 then [((9 : Int), (0 : Int))] else []) = [(9, 0)] ∨ (if pxP s (pxPtM s p).2.1 = 36 then [((9 : Int), (0 : Int))] else []) = [] := by
    by_cases c : pxP s (pxPtM s p).2.1 = 36
    · left; rw [if_pos c]
    · right; rw [if_neg c]
  have k1 := key _ (tl _ hl).1 (tl _ hl).2
  unfold pxFull
  rw [List.append_assoc, List.append_assoc]
  by_cases c : pxP s p = 94
  · rw [if_pos c]
    refine ⟨Or.inr ⟨fun z => absurd z (by show ¬ (8 : Int) = 5; omega), fun z => absurd z (by show ¬ (8 : Int) = 6; omega), fun z => absurd z (by show ¬ (8 : Int) = 7; omega), fun z => absurd z (by show ¬ (8 : Int) = 3; omega), k1.1⟩, k1.2⟩
  · rw [if_neg c]
    exact k1
