/-! the reference: labels and jumps -/
/-- behind the label n, by places: -1 where there is none -/
def pyBh (s : List Int) (n : Int) : List (Int × List Int) → Int
  | [] => -1
  | t :: r => if pxP s t.1 = 58 ∧ pxP s (t.1 + 1) = n then (if (s.length : Int) ≤ (pxTop s t.1).2.1 then (s.length : Int) else (pxTop s t.1).2.1 + 1) else pyBh s n r
/-- the orders from p on, as they are read -/
def pyLs (s : List Int) : Int → List (Int × List Int) → Prop
  | p, [] => p = s.length
  | p, t :: r => t.1 = p ∧ 0 ≤ p ∧ p < s.length ∧ (pxTop s p).1 = true ∧ t.2 = (pxTop s p).2.2 ∧ ((pxP s (pxTop s p).2.1 = 59 ∧ r ≠ [] ∧ pyLs s ((pxTop s p).2.1 + 1) r) ∨ ((s.length : Int) ≤ (pxTop s p).2.1 ∧ r = []))
theorem pyLs_of {s : List Int} : ∀ (m : Nat) (p : Int), (pxOrds s m p).1 = -1 → 0 ≤ p → p ≤ s.length → pyLs s p (pxOrds s m p).2 ∧ (pxOrds s m p).2 ≠ []
  | 0, p, h, p0, _ => by
    have : p = -1 := h
    omega
  | m + 1, p, h, p0, p1 => by
    have tb := pxTop_b (s := s) p0 p1
    have e : pxOrds s (m + 1) p = if (pxTop s p).1 = true then (if pxP s (pxTop s p).2.1 = 59 then ((pxOrds s m ((pxTop s p).2.1 + 1)).1, (p, (pxTop s p).2.2) :: (pxOrds s m ((pxTop s p).2.1 + 1)).2) else if s.length ≤ (pxTop s p).2.1 then (-1, [(p, (pxTop s p).2.2)]) else ((pxTop s p).2.1, [])) else ((pxTop s p).2.1, []) := rfl
    rw [e] at h ⊢
    by_cases c : (pxTop s p).1 = true
    · rw [if_pos c] at h ⊢
      have t3 := tb.2.2 c
      by_cases d : pxP s (pxTop s p).2.1 = 59
      · rw [if_pos d] at h ⊢
        have pl := (pxP_lt (s := s) (p := (pxTop s p).2.1) (by omega)).2
        obtain ⟨a, b⟩ := pyLs_of m ((pxTop s p).2.1 + 1) h (by omega) (by omega)
        exact ⟨⟨rfl, p0, by omega, c, rfl, Or.inl ⟨d, b, a⟩⟩, by simp⟩
      · rw [if_neg d] at h ⊢
        by_cases g : (s.length : Int) ≤ (pxTop s p).2.1
        · rw [if_pos g] at h ⊢
          exact ⟨⟨rfl, p0, by omega, c, rfl, Or.inr ⟨g, rfl⟩⟩, by simp⟩
        · rw [if_neg g] at h
          have : (pxTop s p).2.1 = -1 := h
          omega
    · rw [if_neg c] at h
      have : (pxTop s p).2.1 = -1 := h
      omega
set_option maxHeartbeats 8000000 in
theorem n_behindLabel_b2 {s : List Int} {n : Int} (n0 : 0 ≤ n) (n1 : n ≤ 200) : ∀ (L : List (Int × List Int)) (N : Nat) (h : jw_H) (p : Int), L.length < N → pyS h → pyG h s → 0 ≤ p → (L = [] → (s.length : Int) ≤ p) → p ≤ s.length + 1 → (L ≠ [] → pyLs s p L) →
    pxW (f_X12_behindLabel_b2 N h 587 (pxJ n) (pxJ p)) fun v h' => pyV pyQp h h' ∧ v = pxJ (pyBh s n L)
  | [], N, h, p, hN, H, G, p0, pe, p1, A => by
    obtain ⟨N, rfl, -⟩ := px_fu hN
    have l60 := G.2.1.1
    have pe := pe rfl
    rw [u_X12_behindLabel_b2]
    unfold g_X12_behindLabel_b2 pyBh
    rw [pyN_gI H, px_bs, G.1, if_pos (by rw [pxJ_le (by omega) (by omega) (by omega) (by omega)]; omega)]
    exact pxW_some.mpr ⟨pyV.rfl, rfl⟩
  | t :: r, N, h, p, hN, H, G, p0, pe, p1, A => by
    have hN' : r.length + 1 < N := hN
    obtain ⟨N, rfl, hN2⟩ := px_fu hN'
    have l60 := G.2.1.1
    obtain ⟨et, -, pl, ok, -, nx⟩ := A (by simp)
    have tb := pxTop_b (s := s) p0 (by omega)
    have t3 := tb.2.2 ok
    rw [u_X12_behindLabel_b2]
    unfold g_X12_behindLabel_b2 g_X12_behindLabel_b58 g_X12_behindLabel_b59 pyBh
    rw [pyN_gI H, px_bs, G.1, if_neg (by rw [pxJ_le (by omega) (by omega) (by omega) (by omega)]; omega), pyN_rc H, px_bs, et]
    refine pxW_b2 (n_endOf0 H G p0 (by omega) ok) fun v h1 q => ?_
    obtain ⟨rfl, V1⟩ := q
    have H1 := V1.s H
    have G1 := G.p V1
    have m := G1.2.2 p p0 pl
    rw [← pxP_E p0 pl] at m
    have i0 := pxP_in G.2.1 p
    have i1 := pxP_in G.2.1 (p + 1)
    rw [pyN_g21 H1, px_bs, pyN_a599 H1 p0 (by omega), px_bs, m]
    have rest : ¬ (pxP s p = 58 ∧ pxP s (p + 1) = n) → pxW (f_X12_behindLabel_b2 N h1 587 (pxJ n) (pxJ (pxTop s p).2.1 + (1 : Int32))) fun v h' => pyV pyQp h h' ∧ v = pxJ (if pxP s p = 58 ∧ pxP s (p + 1) = n then (if (s.length : Int) ≤ (pxTop s p).2.1 then (s.length : Int) else (pxTop s p).2.1 + 1) else pyBh s n r) := by
      intro no
      rw [if_neg no, show pxJ (pxTop s p).2.1 + (1 : Int32) = pxJ ((pxTop s p).2.1 + 1) from pxJ_add _ 1]
      refine pxW.mono (n_behindLabel_b2 n0 n1 r N h1 ((pxTop s p).2.1 + 1) (by omega) H1 G1 (by omega) ?_ (by omega) ?_) fun v h' q => ⟨V1.trans q.1, q.2⟩
      · intro e
        rcases nx with z | z
        · exact absurd e z.2.1
        · omega
      · intro e
        rcases nx with z | z
        · exact z.2.2
        · exact absurd z.2 e
    by_cases c : pxP s p = 58
    · rw [if_pos (show pxJ (pxP s p) = (58 : Int32) by rw [c]; rfl)]
      have la : 65 ≤ pxP s (p + 1) ∧ pxP s (p + 1) ≤ 90 := by
        have ew : pxWh s p = (true, p, 0, 0) := by unfold pxWh; rw [c]; rfl
        have aok : (pxAct s p).1 = true := by
          have ok' := ok
          unfold pxTop at ok'
          rw [ew] at ok'
          simp only [if_true, c] at ok'
          simpa using ok'
        unfold pxAct at aok
        rw [c] at aok
        by_cases d : 65 ≤ pxP s (p + 1) ∧ pxP s (p + 1) ≤ 90
        · exact d
        · have ok2 : (if 65 ≤ pxP s (p + 1) ∧ pxP s (p + 1) ≤ 90 then (true, p + 2) else (false, p + 1)).1 = true := aok
          rw [if_neg d] at ok2; cases ok2
      have pl1 := (pxP_lt (s := s) (p := p + 1) (by omega)).2
      have m1 := G1.2.2 (p + 1) (by omega) pl1
      rw [← pxP_E (by omega) pl1] at m1
      rw [px_bs, show pxJ p + (1 : Int32) = pxJ (p + 1) from pxJ_add _ 1, pyN_a599 H1 (by omega) (by omega), px_bs, m1]
      by_cases d : pxP s (p + 1) = n
      · rw [if_pos (show pxJ (pxP s (p + 1)) = pxJ n by rw [d]), if_pos (show pxP s p = 58 ∧ pxP s (p + 1) = n from ⟨c, d⟩), pyN_gI H1, px_bs, G1.1]
        by_cases g : (s.length : Int) ≤ (pxTop s p).2.1
        · rw [if_pos (by rw [pxJ_le (by omega) (by omega) (by omega) (by omega)]; exact g), if_pos g]
          exact pxW_some.mpr ⟨V1, rfl⟩
        · rw [if_neg (by rw [pxJ_le (by omega) (by omega) (by omega) (by omega)]; exact g), if_neg g]
          exact pxW_some.mpr ⟨V1, by rw [show pxJ (pxTop s p).2.1 + (1 : Int32) = pxJ ((pxTop s p).2.1 + 1) from pxJ_add _ 1]⟩
      · rw [if_neg (show ¬ (pxJ (pxP s (p + 1)) = pxJ n) by rw [pxJ_eq (by omega) (by omega) (by omega) (by omega)]; exact d)]
        exact rest (fun z => d z.2)
    · rw [if_neg (show ¬ (pxJ (pxP s p) = (58 : Int32)) from fun y => c ((pxJ_eq (a := pxP s p) (b := 58) (by omega) (by omega) (by omega) (by omega)).mp y))]
      exact rest (fun z => c z.1)
