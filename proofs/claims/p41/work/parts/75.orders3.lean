/-! orders: blocks, and all orders -/
theorem pxRd_in {s : List Int} {p : Int} (h : (pxRd s p true).1 = true) : ¬ (pxAc s p = 123 ∨ pxAc s p = 103 ∨ pxAc s p = 71) := by
  intro q
  unfold pxRd at h
  by_cases c : (pxWh s p).1 = true
  · rw [if_pos c] at h
    unfold pxActG at h
    rw [if_pos (by left; refine ⟨rfl, ?_⟩; unfold pxAc at q; omega)] at h
    cases h
  · rw [if_neg c] at h
    cases h
theorem pxBlk_b {s : List Int} : ∀ (m : Nat) (p : Int), 0 ≤ p → p ≤ s.length → p ≤ (pxBlk s m p).2.1 ∧ (pxBlk s m p).2.1 ≤ s.length ∧ ((pxBlk s m p).1 = true → p < (pxBlk s m p).2.1) := by
  intro m
  induction m with
  | zero => intro p h0 h1; exact ⟨Int.le_refl _, h1, fun z => by cases z⟩
  | succ m ih =>
    intro p h0 h1
    have rb := pxRd_b (s := s) (p := p) (ins := true) h0 h1
    unfold pxBlk
    rw [← pxRd_inn]
    by_cases c : (pxRd s p true).1 = true
    · rw [if_pos c]
      have rc := rb.2.2 c
      by_cases d : pxP s (pxRd s p true).2 = 59
      · have := pxP_lt (s := s) (p := (pxRd s p true).2) (by omega)
        have := ih ((pxRd s p true).2 + 1) (by omega) (by omega)
        rw [if_pos d]
        exact ⟨by dsimp only; omega, by dsimp only; omega, fun _ => by dsimp only; omega⟩
      · rw [if_neg d]
        by_cases f : pxP s (pxRd s p true).2 = 125
        · have := pxP_lt (s := s) (p := (pxRd s p true).2) (by omega)
          rw [if_pos f]
          exact ⟨by dsimp only; omega, by dsimp only; omega, fun _ => by dsimp only; omega⟩
        · rw [if_neg f]; exact ⟨by dsimp only; omega, by dsimp only; omega, fun z => by cases z⟩
    · rw [if_neg c]; exact ⟨by dsimp only; omega, by dsimp only; omega, fun z => by cases z⟩
theorem pxTop_b {s : List Int} {p : Int} (h0 : 0 ≤ p) (h1 : p ≤ s.length) : p ≤ (pxTop s p).2.1 ∧ (pxTop s p).2.1 ≤ s.length ∧ ((pxTop s p).1 = true → p < (pxTop s p).2.1) := by
  have rb := pxRd_b (s := s) (p := p) (ins := false) h0 h1
  rw [pxTop_e]
  by_cases c : (pxRd s p false).1 = true
  · have rc := rb.2.2 c
    rw [if_pos c]
    by_cases d : pxAc s p = 123
    · rw [if_pos d]
      have := pxBlk_b (s := s) 61 (pxRd s p false).2 (by omega) (by omega)
      exact ⟨by omega, by omega, fun _ => by omega⟩
    · rw [if_neg d]
      by_cases f : pxAc s p = 103 ∨ pxAc s p = 71
      · rw [if_pos f]
        by_cases g : pxP s (pxRd s p false).2 = 123
        · have := pxP_lt (s := s) (p := (pxRd s p false).2) (by omega)
          have := pxBlk_b (s := s) 61 ((pxRd s p false).2 + 1) (by omega) (by omega)
          rw [if_pos g]
          exact ⟨by omega, by omega, fun _ => by omega⟩
        · have := pxRd_b (s := s) (p := (pxRd s p false).2) (ins := true) (by omega) (by omega)
          rw [if_neg g]
          exact ⟨by dsimp only; omega, by dsimp only; omega, fun _ => by dsimp only; omega⟩
      · rw [if_neg f]
        exact ⟨by dsimp only; omega, by dsimp only; omega, fun _ => by dsimp only; omega⟩
  · rw [if_neg c]; exact ⟨by dsimp only; omega, by dsimp only; omega, fun z => by cases z⟩
def pxQb (j i : Nat) (e : Int) : Nat → Nat → Prop := fun k f => pxQn i e k f ∨ (k = 12 + 4 * j ∧ f = 9)
section
variable {b : Nat} {s : List Int}
theorem s_X6_blk {j : Nat} : ∀ (m N : Nat) (h : jw_H) (i : Nat) (p e st : Int), s.length < p + m → s.length < p + N → pxPG h b s → pxM h 10 5 = p → pxM h 10 7 = e → pxM h 10 6 = i → 0 ≤ p → p ≤ s.length → 0 ≤ e → e ≤ 2 * p → (i : Int) ≤ p → 0 ≤ st → st ≤ p → j < i → j < 60 →
    ((pxBlk s m p).1 = true → ∃ (h' : jw_H) (N' : Nat) (st' : Int), f_X6_readOrders_b14 N h 10 (some (12 + 4 * j)) (pxJ 0) (pxJ st) = g_X6_readOrders_b129 (f_X6_readOrders_b14 N') h' 10 none (pxJ 0) (pxJ st') ∧ s.length < (pxBlk s m p).2.1 + N' ∧ 0 ≤ st' ∧ st' < (pxBlk s m p).2.1 ∧ pxF (pxQb j i e) h h' ∧ pxM h' 10 5 = (pxBlk s m p).2.1 ∧ pxM h' 10 6 = ((i + (pxBlk s m p).2.2.length : Nat) : Int) ∧ ((i + (pxBlk s m p).2.2.length : Nat) : Int) ≤ (pxBlk s m p).2.1 ∧ pxIn h' s i (pxBlk s m p).2.2 ∧ (∀ k, i ≤ k → k < i + (pxBlk s m p).2.2.length → pxOz h' k) ∧ pxM h' (12 + 4 * j) 9 = ((i + (pxBlk s m p).2.2.length : Nat) : Int) ∧ e ≤ pxM h' 10 7 ∧ pxM h' 10 7 ≤ 2 * (pxBlk s m p).2.1 ∧ i + (pxBlk s m p).2.2.length ≤ 60) ∧
    ((pxBlk s m p).1 = false → ∃ h', f_X6_readOrders_b14 N h 10 (some (12 + 4 * j)) (pxJ 0) (pxJ st) = some (pxJ (pxBlk s m p).2.1, h') ∧ pxF (pxQb j i e) h h') := by
  intro m
  induction m with
  | zero => intro N h i p e st hm; omega
  | succ m ih =>
    intro N h i p e st hm hN G hp he hc h0 h1 e0 e1 ip s0 s1 ji j60
    obtain ⟨N, rfl⟩ : ∃ n, N = n + 1 := ⟨N - 1, by omega⟩
    have rb := pxRd_b (s := s) (p := p) (ins := true) h0 h1
    obtain ⟨y1, y2⟩ := s_X6_step (ins := true) (x3 := some (12 + 4 * j)) (x4 := pxJ 0) (N := N) G hp he hc h0 h1 e0 e1 ip s0 s1 (by simp)
    unfold pxBlk
    rw [← pxRd_inn]
    by_cases c : (pxRd s p true).1 = true
    · rw [if_pos c]
      have rc := rb.2.2 c
      have ni := pxRd_in c
      obtain ⟨h2, ⟨w1, hi, w2, w3, w4, w5, w6, w7, w8⟩, w9⟩ := y1 c
      have G2 := G.fn w1
      have n60 := G.2.2.2.2.1.1
      rw [if_neg (by omega), if_neg (by omega), s_X6_b101 j60 G2 w2 w3 (by omega) (by omega)] at w9
      rw [w9]
      have Fb : pxF (pxQb j i e) h h2 := w1.mono (fun k f z => Or.inl z)
      by_cases d : pxP s (pxRd s p true).2 = 59
      · have lt := pxP_lt (s := s) (p := (pxRd s p true).2) (by omega)
        rw [if_pos d, if_pos d]
        have G3 : pxPG (pxPl h2 ((pxRd s p true).2 + 1)) b s := pxPl_G G2
        have e3 : pxM (pxPl h2 ((pxRd s p true).2 + 1)) 10 7 = pxM h2 10 7 := pxPl_n (by omega)
        obtain ⟨z1, z2⟩ := ih N (pxPl h2 ((pxRd s p true).2 + 1)) (i + 1) ((pxRd s p true).2 + 1) (pxM h2 10 7) (st + 1) (by omega) (by omega) G3 (pxPl_p (by omega) (by omega)) e3 (by rw [pxPl_n (by omega), w3]; omega) (by omega) (by omega) (by omega) (by omega) (by omega) (by omega) (by omega) (by omega) j60
        have Fc : pxF (pxQb j i e) h (pxPl h2 ((pxRd s p true).2 + 1)) := Fb.trans (pxPl_F.mono (fun k f z => by unfold pxQb pxQn; omega))
        refine ⟨fun z => ?_, fun z => ?_⟩
        · obtain ⟨h', N', st', v1, v2, v3, v4, v5, v6, v7, v8, v9, v10, v11, v12, v13, v14⟩ := z1 z
          have Fd : pxF (fun k f => (k = 10 ∧ f = 5) ∨ pxQb j (i + 1) (pxM h2 10 7) k f) h2 h' := (pxPl_F.mono (fun k f z => Or.inl z)).trans (v5.mono (fun k f z => Or.inr z))
          simp only [List.length_cons]
          rw [show i + ((pxBlk s m ((pxRd s p true).2 + 1)).2.2.length + 1) = i + 1 + (pxBlk s m ((pxRd s p true).2 + 1)).2.2.length by omega]
          refine ⟨h', N', st', v1, v2, v3, v4, Fc.trans (v5.mono (fun k f z => by unfold pxQb pxQn at z ⊢; omega)), v6, v7, v8, ⟨?_, ?_, v9⟩, fun k k1 k2 => ?_, v11, by omega, v13, v14⟩
          · exact w4.fr Fd (fun k f q1 q2 q3 => by unfold pxQb pxQn; omega) (fun k f q1 q2 => by unfold pxQb pxQn; omega) v12
          · rw [Fd.m (by unfold pxQb pxQn; omega)]; exact w6
          · by_cases ki : k = i
            · subst ki
              intro f f1 f2
              rw [Fd.m (by unfold pxQb pxQn; omega)]; exact w5 f f1 f2
            · exact v10 k (by omega) k2
        · obtain ⟨h', v1, v2⟩ := z2 z
          exact ⟨h', v1, Fc.trans (v2.mono (fun k f z => by unfold pxQb pxQn at z ⊢; omega))⟩
      · rw [if_neg d, if_neg d]
        by_cases f : pxP s (pxRd s p true).2 = 125
        · have lt := pxP_lt (s := s) (p := (pxRd s p true).2) (by omega)
          rw [if_pos f, if_pos f]
          have Fd : pxF (fun k f => (k = 10 ∧ f = 5) ∨ (k = 12 + 4 * j ∧ f = 9)) h2 (jw_setI (pxPl h2 ((pxRd s p true).2 + 1)) (12 + 4 * j) 9 (pxJ (i + 1))) := (pxPl_F.mono (fun k f z => by omega)).trans (pxF.setI (by omega))
          refine ⟨fun _ => ⟨jw_setI (pxPl h2 ((pxRd s p true).2 + 1)) (12 + 4 * j) 9 (pxJ (i + 1)), N, st, rfl, by dsimp only; omega, s0, by dsimp only; omega, Fb.trans (Fd.mono (fun k f z => by unfold pxQb pxQn; omega)), ?_, ?_, ?_, ⟨?_, ?_, trivial⟩, fun k k1 k2 => ?_, ?_, ?_, ?_, ?_⟩, fun z => (by cases z)⟩
          · rw [pxM_ne (by omega), pxPl_p (by omega) (by omega)]
          · rw [pxM_ne (by omega), pxPl_n (by omega), w3]; simp
          · simp; omega
          · refine w4.fr Fd (fun k f q1 q2 q3 => by omega) (fun k f q1 q2 => by omega) ?_
            rw [Fd.m (by omega)]; exact Int.le_refl _
          · rw [Fd.m (by omega)]; exact w6
          · have ki : k = i := by simp at k2; omega
            subst ki
            intro f f1 f2
            rw [Fd.m (by omega)]; exact w5 f f1 f2
          · rw [pxM_eq (by omega) (by omega)]; simp
          · rw [Fd.m (by omega)]; exact w7
          · rw [Fd.m (by omega)]; dsimp only; omega
          · simp; omega
        · rw [if_neg f, if_neg f]
          exact ⟨fun z => (by cases z), fun _ => ⟨h2, rfl, Fb⟩⟩
    · rw [if_neg c]
      obtain ⟨h2, w1, w2⟩ := y2 (by simpa using c)
      exact ⟨fun z => (by cases z), fun _ => ⟨h2, w1, w2.mono (fun k f z => Or.inl z)⟩⟩
theorem s_X6_top {N : Nat} {h : jw_H} {i : Nat} {p e st : Int} {x4 : Int32} (hN : s.length < p + N) (G : pxPG h b s) (hp : pxM h 10 5 = p) (he : pxM h 10 7 = e) (hc : pxM h 10 6 = i) (h0 : 0 ≤ p) (h1 : p ≤ s.length) (e0 : 0 ≤ e) (e1 : e ≤ 2 * p) (ip : (i : Int) ≤ p) (s0 : 0 ≤ st) (s1 : st ≤ p) :
    ((pxTop s p).1 = true → ∃ (h' : jw_H) (N' : Nat) (st' : Int) (x4' : Int32), f_X6_readOrders_b14 N h 10 none x4 (pxJ st) = g_X6_readOrders_b129 (f_X6_readOrders_b14 N') h' 10 none x4' (pxJ st') ∧ s.length < (pxTop s p).2.1 + N' ∧ 0 ≤ st' ∧ st' < (pxTop s p).2.1 ∧ pxF (pxQn i e) h h' ∧ pxM h' 10 5 = (pxTop s p).2.1 ∧ pxM h' 10 6 = ((i + 1 + (pxTop s p).2.2.length : Nat) : Int) ∧ ((i + 1 + (pxTop s p).2.2.length : Nat) : Int) ≤ (pxTop s p).2.1 ∧ pxOd h' s i p ∧ pxM h' (12 + 4 * i) 9 = ((i + 1 + (pxTop s p).2.2.length : Nat) : Int) ∧ pxIn h' s (i + 1) (pxTop s p).2.2 ∧ (∀ k, i ≤ k → k < i + 1 + (pxTop s p).2.2.length → pxOz h' k) ∧ e ≤ pxM h' 10 7 ∧ pxM h' 10 7 ≤ 2 * (pxTop s p).2.1 ∧ i + 1 + (pxTop s p).2.2.length ≤ 60) ∧
    ((pxTop s p).1 = false → ∃ h', f_X6_readOrders_b14 N h 10 none x4 (pxJ st) = some (pxJ (pxTop s p).2.1, h') ∧ pxF (pxQn i e) h h') := by
  obtain ⟨N, rfl⟩ : ∃ n, N = n + 1 := ⟨N - 1, by omega⟩
  have n60 := G.2.2.2.2.1.1
  have rb := pxRd_b (s := s) (p := p) (ins := false) h0 h1
  obtain ⟨y1, y2⟩ := s_X6_step (ins := false) (x3 := none) (x4 := x4) (N := N) G hp he hc h0 h1 e0 e1 ip s0 s1 (by simp)
  rw [pxTop_e]
  by_cases c : (pxRd s p false).1 = true
  · rw [if_pos c]
    have rc := rb.2.2 c
    obtain ⟨h2, ⟨w1, hi, w2, w3, w4, w5, w6, w7, w8⟩, w9⟩ := y1 c
    have G2 := G.fn w1
    rw [w9]
    -- a block behind a head
    have blk : ∀ (h3 : jw_H) (q : Int), pxF (fun k f => k = 10 ∧ f = 5) h2 h3 → pxM h3 10 5 = q → (pxRd s p false).2 ≤ q → q ≤ s.length →
        ((pxBlk s 61 q).1 = true → ∃ (h' : jw_H) (N' : Nat) (st' : Int) (x4' : Int32), f_X6_readOrders_b14 N h3 10 (some (12 + 4 * i)) (pxJ 0) (pxJ (st + 1)) = g_X6_readOrders_b129 (f_X6_readOrders_b14 N') h' 10 none x4' (pxJ st') ∧ s.length < (pxBlk s 61 q).2.1 + N' ∧ 0 ≤ st' ∧ st' < (pxBlk s 61 q).2.1 ∧ pxF (pxQn i e) h h' ∧ pxM h' 10 5 = (pxBlk s 61 q).2.1 ∧ pxM h' 10 6 = ((i + 1 + (pxBlk s 61 q).2.2.length : Nat) : Int) ∧ ((i + 1 + (pxBlk s 61 q).2.2.length : Nat) : Int) ≤ (pxBlk s 61 q).2.1 ∧ pxOd h' s i p ∧ pxM h' (12 + 4 * i) 9 = ((i + 1 + (pxBlk s 61 q).2.2.length : Nat) : Int) ∧ pxIn h' s (i + 1) (pxBlk s 61 q).2.2 ∧ (∀ k, i ≤ k → k < i + 1 + (pxBlk s 61 q).2.2.length → pxOz h' k) ∧ e ≤ pxM h' 10 7 ∧ pxM h' 10 7 ≤ 2 * (pxBlk s 61 q).2.1 ∧ i + 1 + (pxBlk s 61 q).2.2.length ≤ 60) ∧
        ((pxBlk s 61 q).1 = false → ∃ h', f_X6_readOrders_b14 N h3 10 (some (12 + 4 * i)) (pxJ 0) (pxJ (st + 1)) = some (pxJ (pxBlk s 61 q).2.1, h') ∧ pxF (pxQn i e) h h') := by
      intro h3 q F3 hq q0 q1
      have G3 : pxPG h3 b s := G2.fr F3 (fun k f z => by omega)
      obtain ⟨z1, z2⟩ := s_X6_blk (j := i) 61 N h3 (i + 1) q (pxM h2 10 7) (st + 1) (by omega) (by omega) G3 hq (F3.m (by omega)) (by rw [F3.m (by omega), w3]; omega) (by omega) q1 (by omega) (by omega) (by omega) (by omega) (by omega) (by omega) hi
      have Fc : pxF (pxQn i e) h h3 := w1.trans (F3.mono (fun k f z => by unfold pxQn; omega))
      refine ⟨fun z => ?_, fun z => ?_⟩
      · obtain ⟨h', N', st', v1, v2, v3, v4, v5, v6, v7, v8, v9, v10, v11, v12, v13, v14⟩ := z1 z
        have Fd : pxF (fun k f => (k = 10 ∧ f = 5) ∨ pxQb i (i + 1) (pxM h2 10 7) k f) h2 h' := (F3.mono (fun k f z => Or.inl z)).trans (v5.mono (fun k f z => Or.inr z))
        refine ⟨h', N', st', _, v1, v2, v3, v4, Fc.trans (v5.mono (fun k f z => by unfold pxQb pxQn at z; unfold pxQn; omega)), v6, v7, v8, ?_, v11, v9, fun k k1 k2 => ?_, by omega, v13, v14⟩
        · exact w4.fr Fd (fun k f q1 q2 q3 => by unfold pxQb pxQn; omega) (fun k f q1 q2 => by unfold pxQb pxQn; omega) v12
        · by_cases ki : k = i
          · subst ki
            intro f f1 f2
            rw [Fd.m (by unfold pxQb pxQn; omega)]; exact w5 f f1 f2
          · exact v10 k (by omega) k2
      · obtain ⟨h', v1, v2⟩ := z2 z
        exact ⟨h', v1, Fc.trans (v2.mono (fun k f z => by unfold pxQb pxQn at z; unfold pxQn; omega))⟩
    by_cases c1 : pxAc s p = 123
    · simp only [if_pos c1]
      exact blk h2 _ pxF.rfl w2 (Int.le_refl _) (by omega)
    · simp only [if_neg c1]
      by_cases c2 : pxAc s p = 103 ∨ pxAc s p = 71
      · simp only [if_pos c2]
        by_cases c3 : pxP s (pxRd s p false).2 = 123
        · have lt := pxP_lt (s := s) (p := (pxRd s p false).2) (by omega)
          simp only [if_pos c3]
          exact blk _ _ pxPl_F (pxPl_p (by omega) (by omega)) (by omega) (by omega)
        · simp only [if_neg c3]
          obtain ⟨N, rfl⟩ : ∃ n, N = n + 1 := ⟨N - 1, by omega⟩
          have rb2 := pxRd_b (s := s) (p := (pxRd s p false).2) (ins := true) (by omega) (by omega)
          obtain ⟨z1, z2⟩ := s_X6_step (ins := true) (x3 := some (12 + 4 * i)) (x4 := pxJ 1) (N := N) (i := i + 1) G2 w2 rfl (by rw [w3]; omega) (by omega) (by omega) (by omega) w8 (by omega) (by omega : 0 ≤ st + 1) (by omega) (by simp)
          refine ⟨fun z => ?_, fun z => ?_⟩
          · obtain ⟨h3, ⟨v1, hi3, v2, v3, v4, v5, v6, v7, v8⟩, v9⟩ := z1 z
            have rc2 := rb2.2.2 z
            have ni := pxRd_in z
            have G3 := G2.fn v1
            obtain ⟨r1, t5, -⟩ := G3.1.2.2.2.2.2.2.2 i hi
            have tg3 := G3.1.1
            rw [if_neg (by omega), if_neg (by omega)] at v9
            have Fd : pxF (fun k f => k = 12 + 4 * i ∧ f = 9) h3 (jw_setI h3 (12 + 4 * i) 9 (pxJ (i + 1 + 1))) := pxF.setI ⟨rfl, rfl⟩
            have Fe : pxF (fun k f => pxQn (i + 1) (pxM h2 10 7) k f ∨ (k = 12 + 4 * i ∧ f = 9)) h2 (jw_setI h3 (12 + 4 * i) 9 (pxJ (i + 1 + 1))) := (v1.mono (fun k f z => Or.inl z)).trans (Fd.mono (fun k f z => Or.inr z))
            refine ⟨jw_setI h3 (12 + 4 * i) 9 (pxJ (i + 1 + 1)), N, st + 1, pxJ 1, ?_, by omega, by omega, by omega, w1.trans (Fe.mono (fun k f z => by unfold pxQn at z ⊢; omega)), ?_, ?_, ?_, ?_, ?_, ⟨?_, ?_, trivial⟩, fun k k1 k2 => ?_, ?_, ?_, ?_⟩
            · rw [v9]
              unfold g_X6_readOrders_b101 g_X6_readOrders_b119
              have v3' : pxM h3 10 6 = i + 1 + 1 := by rw [v3]; omega
              simp (maxSteps := 4000000) (disch := first | assumption | omega | (simp only [jw_t_I, px_cpt]; done) | (simp only [jw_t_I, px_cpt]; omega)) only [pxL0, pxL1, pxL2, pxL3, pxL4, pxL5, pxL6, pxL7, pxL8, pxL9, pxL10, pxL11, pxL12, pxL13, pxL14, pxL15, pxL16, pxL17, pxL18, pxL19, pxL20, pxL21, pxL22, pxL23, pxL24, pxL25, pxL26, pxL27, pxL28, pxL29, pxL30, pxL31, pxL32, pxL33, pxL34, pxL35, pxL36, pxL37, pxL38, pxL39, pxL40, pxL41, pxL42, pxL43, pxL44, pxL45, pxL46, pxL47, pxL48, pxL49, pxL51, pxL57, pxL58, pxL59, pxL60, pxL61, pxL62, pxL63, pxL64, pxL65, pxL66, pxL67, pxL68, pxL69, pxL70, pxL71, pxL72, pxL73, pxL74, pxL75, pxL76, pxL77, pxL78, pxL79, pxL80, pxL81, pxL82, pxL83, pxL84, pxL85, pxL86, pxL87, pxL88, pxL89, pxL90, pxL91, pxL92, pxL93, pxL94, pxL95, pxL96, pxL97, pxL98, pxL99, pxL100, pxL101, pxL102, pxL103, pxL104, pxL105, pxL106, pxL107, pxL108, pxL109, pxL110, pxL111, pxL112, pxL113, pxL114, pxL115, pxL116, pxL117, pxL118, pxL119, pxL120, pxL121, pxL122, pxL123, pxL124, pxL125, pxL126, pxL200, pxL240, pxL287, pxL388, pxL400, pxL429, pxL431, pxL440, pxL1240, pxL1600, pxL1681, pxL12028, pxL13849, pxL14880, pxL25173, pxL26908, pxL49600, pxL65535, pxL65536, ↓reduceIte, reduceCtorEq, pxJ_add, pxJ_sub, pxJ_mul, pxJ_neg, pxD_lt_t, pxD_lt_f, pxD_le_t, pxD_le_f, pxD_eq_t, pxD_eq_f, pxJ_lt, pxJ_le, pxJ_eq, px_gI, px_gR, px_pI, px_rc, px_ai, px_ar, px_si, px_ln, px_cp, pxJ_div, pxJ_b8, pxJ_byte, px_b2, px_bs, px_rb0, px_rb1, px_min, px_max, px_compare, pxW_some, jw_t_I, px_cpt, jw_r_I, px_cpr, jw_l_I, px_cpl, Option.some.injEq, v3']
            · rw [pxM_ne (by omega)]; exact v2
            · rw [pxM_ne (by omega), v3]; simp
            · simp; omega
            · exact w4.fr Fe (fun k f q1 q2 q3 => by unfold pxQn; omega) (fun k f q1 q2 => by unfold pxQn; omega) (by rw [pxM_ne (by omega)]; exact v7)
            · rw [pxM_eq (by omega) (by omega)]; simp
            · exact v4.fr Fd (fun k f q1 q2 q3 => by omega) (fun k f q1 q2 => by omega) (by rw [pxM_ne (by omega)]; exact Int.le_refl _)
            · rw [pxM_ne (by omega)]; exact v6
            · by_cases ki : k = i
              · subst ki
                intro f f1 f2
                rw [Fe.m (by unfold pxQn; omega)]; exact w5 f f1 f2
              · have ki2 : k = i + 1 := by simp at k2; omega
                subst ki2
                intro f f1 f2
                rw [pxM_ne (by omega)]; exact v5 f f1 f2
            · rw [pxM_ne (by omega)]; omega
            · rw [pxM_ne (by omega)]; omega
            · simp; omega
          · obtain ⟨h3, v1, v2⟩ := z2 z
            exact ⟨h3, v1, w1.trans (v2.mono (fun k f z => by unfold pxQn at z ⊢; omega))⟩
      · simp only [if_neg c2]
        refine ⟨fun _ => ⟨h2, N, st, x4, ?_, by omega, s0, by omega, w1, w2, by rw [w3]; simp, by simp; omega, w4, by rw [w6]; simp, trivial, fun k k1 k2 => ?_, w7, w8, by simp; omega⟩, fun z => (by cases z)⟩
        · unfold g_X6_readOrders_b101
          rw [if_pos rfl]
        · have ki : k = i := by simp at k2; omega
          subst ki; exact w5
  · rw [if_neg c]
    obtain ⟨h2, w1, w2⟩ := y2 (by simpa using c)
    exact ⟨fun z => (by cases z), fun _ => ⟨h2, w1, w2⟩⟩
theorem s_X6_ords : ∀ (m N : Nat) (h : jw_H) (i : Nat) (p e st : Int) (x4 : Int32), s.length < p + m → s.length < p + N → pxPG h b s → pxM h 10 5 = p → pxM h 10 7 = e → pxM h 10 6 = i → 0 ≤ p → p ≤ s.length → 0 ≤ e → e ≤ 2 * p → (i : Int) ≤ p → 0 ≤ st → st ≤ p →
    ((pxOrds s m p).1 = -1 → ∃ h', f_X6_readOrders_b14 N h 10 none x4 (pxJ st) = some (pxJ (-1), h') ∧ pxF (pxQn i e) h h' ∧ pxAll h' s i (pxOrds s m p).2 ∧ pxM h' 10 6 = ((i + pxCnt (pxOrds s m p).2 : Nat) : Int) ∧ (∀ k, i ≤ k → k < i + pxCnt (pxOrds s m p).2 → pxOz h' k) ∧ i + pxCnt (pxOrds s m p).2 ≤ 60 ∧ e ≤ pxM h' 10 7 ∧ pxM h' 10 7 ≤ 120) ∧
    ((pxOrds s m p).1 ≠ -1 → ∃ h', f_X6_readOrders_b14 N h 10 none x4 (pxJ st) = some (pxJ (pxOrds s m p).1, h') ∧ pxF (pxQn i e) h h') := by
  intro m
  induction m with
  | zero => intro N h i p e st x4 hm; omega
  | succ m ih =>
    intro N h i p e st x4 hm hN G hp he hc h0 h1 e0 e1 ip s0 s1
    have n60 := G.2.2.2.2.1.1
    have tb := pxTop_b (s := s) (p := p) h0 h1
    obtain ⟨y1, y2⟩ := s_X6_top (x4 := x4) hN G hp he hc h0 h1 e0 e1 ip s0 s1
    unfold pxOrds
    by_cases c : (pxTop s p).1 = true
    · have tc := tb.2.2 c
      rw [if_pos c]
      obtain ⟨h2, N', st', x4', w1, w2, w3, w4, w5, w6, w7, w8, w9, w10, w11, w12, w13, w14, w15⟩ := y1 c
      have G2 := G.fn w5
      rw [w1, s_X6_b129 G2 w6 (by omega) (by omega)]
      by_cases d : pxP s (pxTop s p).2.1 = 59
      · have lt := pxP_lt (s := s) (p := (pxTop s p).2.1) (by omega)
        rw [if_pos d, if_pos d]
        obtain ⟨z1, z2⟩ := ih N' (pxPl h2 ((pxTop s p).2.1 + 1)) (i + 1 + (pxTop s p).2.2.length) ((pxTop s p).2.1 + 1) (pxM h2 10 7) (st' + 1) x4' (by omega) (by omega) (pxPl_G G2) (pxPl_p (by omega) (by omega)) (pxPl_n (by omega)) (by rw [pxPl_n (by omega)]; exact w7) (by omega) (by omega) (by omega) (by omega) (by omega) (by omega) (by omega)
        have Fc : pxF (pxQn i e) h (pxPl h2 ((pxTop s p).2.1 + 1)) := w5.trans (pxPl_F.mono (fun k f z => by unfold pxQn; omega))
        refine ⟨fun z => ?_, fun z => ?_⟩
        · obtain ⟨h', v1, v2, v3, v4, v5, v6, le7, le8⟩ := z1 z
          have Fd : pxF (fun k f => (k = 10 ∧ f = 5) ∨ pxQn (i + 1 + (pxTop s p).2.2.length) (pxM h2 10 7) k f) h2 h' := (pxPl_F.mono (fun k f z => Or.inl z)).trans (v2.mono (fun k f z => Or.inr z))
          simp only [pxCnt]
          rw [show i + (1 + (pxTop s p).2.2.length + pxCnt (pxOrds s m ((pxTop s p).2.1 + 1)).2) = i + 1 + (pxTop s p).2.2.length + pxCnt (pxOrds s m ((pxTop s p).2.1 + 1)).2 by omega]
          refine ⟨h', v1, Fc.trans (v2.mono (fun k f z => by unfold pxQn at z ⊢; omega)), ⟨?_, ?_, ?_, v3⟩, v4, fun k k1 k2 => ?_, v6, by omega, le8⟩
          · exact w9.fr Fd (fun k f q1 q2 q3 => by unfold pxQn; omega) (fun k f q1 q2 => by unfold pxQn; omega) le7
          · rw [Fd.m (by unfold pxQn; omega), w10]; simp
          · exact w11.fr Fd (fun k f q1 q2 => by unfold pxQn; omega) le7 _ _ (fun k f q1 q2 q3 => by unfold pxQn; omega)
          · by_cases ki : k < i + 1 + (pxTop s p).2.2.length
            · intro f f1 f2
              rw [Fd.m (by unfold pxQn; omega)]; exact w12 k k1 ki f f1 f2
            · exact v5 k (by omega) k2
        · obtain ⟨h', v1, v2⟩ := z2 z
          exact ⟨h', v1, Fc.trans (v2.mono (fun k f z => by unfold pxQn at z ⊢; omega))⟩
      · rw [if_neg d, if_neg d]
        by_cases f : s.length ≤ (pxTop s p).2.1
        · rw [if_pos f, if_pos f]
          simp only [pxCnt]
          refine ⟨fun _ => ⟨h2, rfl, w5, ⟨w9, by rw [w10]; simp, w11, trivial⟩, by rw [w7]; simp; omega, fun k k1 k2 => w12 k k1 (by omega), by omega, w13, by omega⟩, fun z => absurd rfl z⟩
        · rw [if_neg f, if_neg f]
          refine ⟨fun z => ?_, fun _ => ⟨h2, rfl, w5⟩⟩
          dsimp only at z; omega
    · rw [if_neg c]
      obtain ⟨h2, w1, w2⟩ := y2 (by simpa using c)
      refine ⟨fun z => ?_, fun _ => ⟨h2, w1, w2⟩⟩
      dsimp only at z; omega
end
