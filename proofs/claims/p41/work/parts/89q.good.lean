/-! any act keeps what is known -/
theorem pxTold_ne {s : List Int} {m : Nat} {p : Int} : 1 ≤ ((pxTold s (m + 1) p).length : Int) := by
  unfold pxTold; rw [List.length_cons]; omega
theorem pxGood_T {T : pxTx} {S : pxSto} {r : Int × pxTx} (IS : pxInvS S) (h : r.1 = 0 → pxInv r.2 ∧ r.2.2.2.2 ≤ T.2.2.2 + 40) : pxGood T (pxDoT r S) := fun z => ⟨(h z).1, (h z).2, IS⟩
theorem pxGood_do1 {s : List Int} {p f l : Int} {T : pxTx} {S : pxSto} (I : pxInv T) (IS : pxInvS S) (p0 : 0 ≤ p) (p1 : p ≤ s.length) (s60 : s.length ≤ 60) (oka : (pxAct s p).1 = true) (ns : ¬ (pxP s p = 58 ∨ pxP s p = 98 ∨ pxP s p = 84 ∨ pxP s p = 113 ∨ pxP s p = 78)) (nc : ¬ (pxP s p = 62 ∨ pxP s p = 115 ∨ pxP s p = 122 ∨ pxP s p = 60)) (n3 : ¬ (pxP s p = 103 ∨ pxP s p = 71 ∨ pxP s p = 123)) (rg : pxRgOk (pxP s p) f l T.1.length) : pxGood T (pxDo1 s p f l T S) := by
  have l40 := I.1
  have nok := I.now
  unfold pxRgOk at rg
  have ok := oka
  unfold pxDo1
  have lt : -1 ≠ pxP s p → 0 ≤ p ∧ p < s.length := fun z => pxP_lt (fun e => z e.symm)
  have okR : pxP s p = 97 ∨ pxP s p = 105 ∨ pxP s p = 99 → pxOk (pxTold s 61 (p + 1)) := by
    intro c
    have okR : (pxRowsE s 61 0 (p + 1)).1 = true := by
      unfold pxAct at ok
      rcases c with c | c | c <;> (rw [c] at ok; exact ok)
    have := lt (by omega)
    exact pxTold_ok 61 61 (p + 1) okR (by omega) (by omega) (by omega)
  by_cases c1 : pxP s p = 97
  · rw [if_pos c1]
    have tn := pxTold_ne (s := s) (m := 60) (p := p + 1)
    exact pxGood_T IS (fun z => pxInv_bring I (okR (Or.inl c1)) (fun y => by cases y) (by omega) (by rw [if_neg (by simp)]; omega) (Or.inl tn) z)
  rw [if_neg c1]
  by_cases c2 : pxP s p = 105
  · rw [if_pos c2]
    have tn := pxTold_ne (s := s) (m := 60) (p := p + 1)
    exact pxGood_T IS (fun z => pxInv_bring I (okR (Or.inr (Or.inl c2))) (fun y => by cases y) (by omega) (by rw [if_neg (by simp)]; omega) (Or.inl tn) z)
  rw [if_neg c2]
  by_cases c3 : pxP s p = 99
  · rw [if_pos c3]
    have tn := pxTold_ne (s := s) (m := 60) (p := p + 1)
    exact pxGood_T IS (fun z => pxInv_bring I (okR (Or.inr (Or.inr c3))) (fun y => by omega) (by omega) (by rw [if_pos rfl]; omega) (Or.inl tn) z)
  rw [if_neg c3]
  by_cases c4 : pxP s p = 117
  · rw [if_pos c4]
    by_cases d : S.1 = []
    · rw [if_pos d]; intro z; exact absurd z (by show ¬ (5 : Int) = 0; omega)
    · rw [if_neg d]
      have tn : 1 ≤ (S.1.length : Int) := by have := List.length_pos_iff.mpr d; omega
      exact pxGood_T IS (fun z => pxInv_bring I IS.1.2 (fun y => by cases y) (by omega) (by rw [if_neg (by simp)]; omega) (Or.inl tn) z)
  rw [if_neg c4]
  by_cases c5 : pxP s p = 114
  · rw [if_pos c5]
    have dg : 48 ≤ pxP s (p + 1) ∧ pxP s (p + 1) ≤ 51 := by
      unfold pxAct at ok
      rw [c5] at ok
      by_cases d : 48 ≤ pxP s (p + 1) ∧ pxP s (p + 1) ≤ 51
      · exact d
      · have ok' : (if 48 ≤ pxP s (p + 1) ∧ pxP s (p + 1) ≤ 51 then (true, p + 2) else (false, p + 1)).1 = true := ok
        rw [if_neg d] at ok'; cases ok'
    have fk := IS.2.2 (pxP s (p + 1) - 48) (by omega) (by omega)
    unfold pxSpRead
    by_cases d : S.2.2 (pxP s (p + 1) - 48) = []
    · rw [if_pos d]; exact pxGood_T IS (fun _ => ⟨I, by show T.2.2.2 ≤ T.2.2.2 + 40; omega⟩)
    · rw [if_neg d]
      have tn : 1 ≤ ((S.2.2 (pxP s (p + 1) - 48)).length : Int) := by have := List.length_pos_iff.mpr d; omega
      exact pxGood_T IS (fun z => pxInv_bring I fk.2 (fun y => by cases y) (by omega) (by rw [if_neg (by simp)]; omega) (Or.inl tn) z)
  rw [if_neg c5]
  by_cases c6 : pxP s p = 101
  · rw [if_pos c6]
    unfold pxSpExch
    by_cases d : S.1 = []
    · rw [if_pos d]; intro z; exact absurd z (by show ¬ (5 : Int) = 0; omega)
    · rw [if_neg d]
      have tn : 1 ≤ (S.1.length : Int) := by have := List.length_pos_iff.mpr d; omega
      intro z
      have := pxInv_bring (x := f) (goes := true) (f := f) (l := l) I IS.1.2 (fun y => by omega) (by omega) (by rw [if_pos rfl]; omega) (Or.inl tn) z
      have sl := pxSub_len (l := pxRs T.1) (x := f) (y := l) (by omega) (by omega) (by rw [pxRs_len]; omega)
      exact ⟨this.1, this.2, ⟨by show (pxSub (pxRs T.1) f l).length ≤ 40; omega, pxOk_sub I.2.1⟩, IS.2⟩
  rw [if_neg c6]
  by_cases c7 : pxP s p = 100
  · rw [if_pos c7]
    exact pxGood_T (r := (0, pxSpDel f l T)) IS (fun _ => pxInv_del I (by omega) (by omega) (by omega))
  rw [if_neg c7]
  by_cases c8 : pxP s p = 106
  · rw [if_pos c8]
    exact pxGood_T IS (fun z => pxInv_join I (by omega) (by omega) (by omega) z)
  rw [if_neg c8]
  by_cases c9 : pxP s p = 118
  · rw [if_pos c9]
    have ok1 : (pxNum s (p + 1)).1 = true := by
      unfold pxAct at ok
      rw [c9] at ok; exact ok
    have nb := pxNumV_b ok1
    exact pxGood_T IS (fun z => pxInv_part I nb.1 (by omega) (by omega) (by omega) z)
  rw [if_neg c9]
  by_cases c10 : pxP s p = 108
  · rw [if_pos c10]
    exact pxGood_T (r := (0, pxSpUniq f l T)) IS (fun _ => pxInv_uniq I (by omega) (by omega) (by omega))
  rw [if_neg c10]
  by_cases c11 : pxP s p = 109
  · rw [if_pos c11]
    have lb := pxLoc_b (s := s) (q := p + 1) nok l40
    exact pxGood_T IS (fun z => pxInv_move I (by omega) (by omega) (by omega) lb.2 z)
  rw [if_neg c11]
  by_cases c12 : pxP s p = 116
  · rw [if_pos c12]
    have lb := pxLoc_b (s := s) (q := p + 1) nok l40
    exact pxGood_T IS (fun z => pxInv_copy I (by omega) (by omega) (by omega) lb.2 z)
  rw [if_neg c12]
  by_cases c13 : pxP s p = 111
  · rw [if_pos c13]
    exact pxGood_T (r := (0, pxSpSort (pxNumV s (p + 1)) false f l T)) IS (fun _ => pxInv_sort I (by omega) (by omega) (by omega))
  rw [if_neg c13]
  by_cases c14 : pxP s p = 79
  · rw [if_pos c14]
    exact pxGood_T (r := (0, pxSpSort (pxNumV s (p + 1)) true f l T)) IS (fun _ => pxInv_sort I (by omega) (by omega) (by omega))
  rw [if_neg c14]
  refine pxGood_tell I IS (by omega) (by omega) (by omega) (fun z => by omega) (fun c => ?_)
  unfold pxAct at ok
  rw [c] at ok
  by_cases d : 97 ≤ pxP s (p + 1) ∧ pxP s (p + 1) ≤ 101
  · exact d
  · have ok' : (if 97 ≤ pxP s (p + 1) ∧ pxP s (p + 1) ≤ 101 then (true, p + 2) else (false, p + 1)).1 = true := ok
    rw [if_neg d] at ok'; cases ok'
theorem pxGood_do {s : List Int} {p f l : Int} {T : pxTx} {S : pxSto} {rep : Bool} (I : pxInv T) (IS : pxInvS S) (p0 : 0 ≤ p) (p1 : p ≤ s.length) (s60 : s.length ≤ 60) (oka : (pxAct s p).1 = true) (ns : ¬ (pxP s p = 58 ∨ pxP s p = 98 ∨ pxP s p = 84 ∨ pxP s p = 113 ∨ pxP s p = 78)) (n3 : ¬ (pxP s p = 103 ∨ pxP s p = 71 ∨ pxP s p = 123)) (rg : pxRgOk (pxP s p) f l T.1.length) : pxGood T (pxDo s p f l T S rep).1 := by
  unfold pxDo
  by_cases c : pxP s p = 62 ∨ pxP s p = 115 ∨ pxP s p = 122 ∨ pxP s p = 60
  · rw [if_pos c]
    unfold pxDoC
    by_cases d : (pxChgs s p (l + 1 - f).toNat f (pxRs T.1) rep).1 = true
    · rw [if_pos d]
      obtain ⟨i1, i2, i3, i4, i5, i6, i7⟩ := I
      obtain ⟨a1, a2⟩ := pxChgs_ok oka p0 (l + 1 - f).toNat f (pxRs T.1) rep i2
      rw [pxRs_len] at a2
      have rl : (pxReR T.1 (pxChgs s p (l + 1 - f).toNat f (pxRs T.1) rep).2.1).length = T.1.length := by rw [← pxRs_len, pxReR_rs a2, a2]
      unfold pxRgOk at rg
      intro _
      exact ⟨⟨by dsimp only; omega, by dsimp only; rw [pxReR_rs a2]; exact a1, by dsimp only; omega, by dsimp only; omega, by dsimp only; omega, i6, by dsimp only; rw [pxReR_ids a2]; exact i7⟩, by show T.2.2.2 ≤ T.2.2.2 + 40; omega, IS⟩
    · rw [if_neg d]; intro z; exact absurd z (by show ¬ (4 : Int) = 0; omega)
  · rw [if_neg c]
    exact pxGood_do1 I IS p0 p1 s60 oka ns c n3 rg
/-- a range that was found may be had by the act -/
theorem pxRng_ok {s : List Int} {p : Int} {T : pxTx} (hn : pxNowOk T) (l40 : T.1.length ≤ 40) (h : (pxRng s p T).1 = 0) (wb : 0 ≤ (pxWh s p).2.2.1 ∧ (pxWh s p).2.2.1 ≤ 3) : pxRgOk (pxAc s p) (pxRng s p T).2.1 (pxRng s p T).2.2 T.1.length := by
  have e : ∀ {c w f l : Int}, l ≤ T.1.length → (w ≠ 3 → f = l) → (pxRngE c w f l).1 = 0 → pxRgOk c (pxRngE c w f l).2.1 (pxRngE c w f l).2.2 T.1.length := by
    intro c w f l l1 w3 h
    unfold pxRngE at h ⊢
    unfold pxRgOk
    by_cases d : f < 0 ∨ l < 0
    · rw [if_pos d] at h; dsimp only at h; omega
    · rw [if_neg d] at h ⊢
      by_cases d2 : l < f ∨ (f = 0 ∧ ¬ ((c = 97 ∨ c = 114 ∨ c = 117) ∧ (w = 2 ∨ w = 0)))
      · rw [if_pos d2] at h; exact absurd h (by show ¬ (1 : Int) = 0; omega)
      · dsimp only
        by_cases f0 : f = 0
        · have d3 : (c = 97 ∨ c = 114 ∨ c = 117) ∧ (w = 2 ∨ w = 0) := by
            by_cases q : (c = 97 ∨ c = 114 ∨ c = 117) ∧ (w = 2 ∨ w = 0)
            · exact q
            · exact absurd (Or.inr ⟨f0, q⟩) d2
          have := w3 (by omega)
          exact Or.inr (Or.inl ⟨f0, by omega, d3.1⟩)
        · exact Or.inl (by omega)
  unfold pxRng at h ⊢
  by_cases c1 : (pxWh s p).2.2.1 = 1 ∨ ((pxWh s p).2.2.1 = 0 ∧ (pxAc s p = 103 ∨ pxAc s p = 71 ∨ pxAc s p = 119))
  · rw [if_pos c1] at h ⊢
    unfold pxRgOk
    by_cases d : 0 < (T.1.length : Int)
    · exact Or.inl (by dsimp only; omega)
    · by_cases d2 : pxAc s p = 103 ∨ pxAc s p = 71 ∨ pxAc s p = 119
      · exact Or.inr (Or.inr ⟨rfl, rfl, d2⟩)
      · rw [if_neg (fun z => z.elim d d2)] at h; exact absurd h (by show ¬ (1 : Int) = 0; omega)
  rw [if_neg c1] at h ⊢
  by_cases c2 : (pxWh s p).2.2.1 = 0
  · rw [if_pos c2] at h ⊢; exact e hn.2 (fun _ => rfl) h
  rw [if_neg c2] at h ⊢
  have lb := pxLoc_b (s := s) (q := p) hn l40
  have lb2 := pxLoc_b (s := s) (q := (pxWh s p).2.2.2) hn l40
  by_cases c3 : (pxWh s p).2.2.1 = 3 ∧ 0 ≤ pxLoc s p T
  · rw [if_pos c3] at h ⊢; exact e lb2.2 (fun z => absurd rfl z) h
  · rw [if_neg c3] at h ⊢; exact e lb.2 (fun _ => rfl) h
