/-! orders over the whole: orders in others -/
/-- an order whose range is sought and whose act is done -/
def pxOne (s : List Int) (q : Int) (T : pxTx) (S : pxSto) (rep : Bool) : (Int × pxTx × pxSto) × Bool :=
  if (pxRng s q T).1 ≠ 0 then (((pxRng s q T).1, T, S), rep) else pxDo s (pxWh s q).2.1 (pxRng s q T).2.1 (pxRng s q T).2.2 T S rep
theorem pxSpBring_b {goes : Bool} {x f l : Int} {rows : List (List Int)} {T : pxTx} : (pxSpBring goes x f l rows T).1 = 0 ∨ (pxSpBring goes x f l rows T).1 = 4 := by
  unfold pxSpBring
  by_cases big : 40 < (T.1.length : Int) - (if goes = true then l - f + 1 else 0) + rows.length
  · rw [if_pos big]; right; rfl
  · rw [if_neg big]; left; rfl
theorem pxDo_b {s : List Int} {p f l : Int} {T : pxTx} {S : pxSto} {rep : Bool} (hn : pxNowOk T) (l40 : T.1.length ≤ 40) : 0 ≤ (pxDo s p f l T S rep).1.1 ∧ (pxDo s p f l T S rep).1.1 ≤ 5 := by
  have br : ∀ {goes : Bool} {x : Int} {rows : List (List Int)}, 0 ≤ (pxDoT (pxSpBring goes x f l rows T) S).1 ∧ (pxDoT (pxSpBring goes x f l rows T) S).1 ≤ 5 := by
    intro goes x rows
    have := pxSpBring_b (goes := goes) (x := x) (f := f) (l := l) (rows := rows) (T := T)
    show 0 ≤ (pxSpBring goes x f l rows T).1 ∧ (pxSpBring goes x f l rows T).1 ≤ 5
    omega
  have z05 : (0 : Int) ≤ 0 ∧ (0 : Int) ≤ 5 := by omega
  have z45 : (0 : Int) ≤ 4 ∧ (4 : Int) ≤ 5 := by omega
  have z55 : (0 : Int) ≤ 5 ∧ (5 : Int) ≤ 5 := by omega
  have z15 : (0 : Int) ≤ 1 ∧ (1 : Int) ≤ 5 := by omega
  unfold pxDo
  by_cases c : pxP s p = 62 ∨ pxP s p = 115 ∨ pxP s p = 122 ∨ pxP s p = 60
  · rw [if_pos c]
    unfold pxDoC
    by_cases d : (pxChgs s p (l + 1 - f).toNat f (pxRs T.1) rep).1 = true
    · rw [if_pos d]; exact z05
    · rw [if_neg d]; exact z45
  rw [if_neg c]
  show 0 ≤ (pxDo1 s p f l T S).1 ∧ (pxDo1 s p f l T S).1 ≤ 5
  unfold pxDo1
  by_cases c1 : pxP s p = 97
  · rw [if_pos c1]; exact br
  rw [if_neg c1]
  by_cases c2 : pxP s p = 105
  · rw [if_pos c2]; exact br
  rw [if_neg c2]
  by_cases c3 : pxP s p = 99
  · rw [if_pos c3]; exact br
  rw [if_neg c3]
  by_cases c4 : pxP s p = 117
  · rw [if_pos c4]
    by_cases d : S.1 = []
    · rw [if_pos d]; exact z55
    · rw [if_neg d]; exact br
  rw [if_neg c4]
  by_cases c5 : pxP s p = 114
  · rw [if_pos c5]
    unfold pxSpRead
    by_cases d : S.2.2 (pxP s (p + 1) - 48) = []
    · rw [if_pos d]; exact z05
    · rw [if_neg d]; exact br
  rw [if_neg c5]
  by_cases c6 : pxP s p = 101
  · rw [if_pos c6]
    unfold pxSpExch
    by_cases d : S.1 = []
    · rw [if_pos d]; exact z55
    · rw [if_neg d]
      exact br (goes := true) (x := f) (rows := S.1)
  rw [if_neg c6]
  by_cases c7 : pxP s p = 100
  · rw [if_pos c7]; exact z05
  rw [if_neg c7]
  by_cases c8 : pxP s p = 106
  · rw [if_pos c8]
    show 0 ≤ (pxSpJoin f l T).1 ∧ (pxSpJoin f l T).1 ≤ 5
    unfold pxSpJoin
    by_cases d : (T.1.length : Int) < pxJoE f l
    · rw [if_pos d]; exact z15
    · rw [if_neg d]
      by_cases e : 30 < (pxJoW f l T.1).length
      · rw [if_pos e]; exact z45
      · rw [if_neg e]; exact z05
  rw [if_neg c8]
  by_cases c9 : pxP s p = 118
  · rw [if_pos c9]
    show 0 ≤ (pxSpPart (pxNumV s (p + 1)) f l T).1 ∧ (pxSpPart (pxNumV s (p + 1)) f l T).1 ≤ 5
    unfold pxSpPart
    cases pxPart (pxNumV s (p + 1)) (l - f + 1).toNat f T.1 T.2.2.2 with
    | none => exact z45
    | some v => exact z05
  rw [if_neg c9]
  by_cases c10 : pxP s p = 108
  · rw [if_pos c10]; exact z05
  rw [if_neg c10]
  have lb := pxLoc_b (s := s) (q := p + 1) hn l40
  by_cases c11 : pxP s p = 109
  · rw [if_pos c11]
    show 0 ≤ (pxSpMove f l (pxLoc s (p + 1) T) T).1 ∧ (pxSpMove f l (pxLoc s (p + 1) T) T).1 ≤ 5
    unfold pxSpMove
    by_cases d : pxLoc s (p + 1) T < 0
    · rw [if_pos d]; dsimp only; omega
    · rw [if_neg d]
      by_cases e : f ≤ pxLoc s (p + 1) T ∧ pxLoc s (p + 1) T < l
      · rw [if_pos e]; exact z15
      · rw [if_neg e]; exact z05
  rw [if_neg c11]
  by_cases c12 : pxP s p = 116
  · rw [if_pos c12]
    show 0 ≤ (pxSpCopy f l (pxLoc s (p + 1) T) T).1 ∧ (pxSpCopy f l (pxLoc s (p + 1) T) T).1 ≤ 5
    unfold pxSpCopy
    by_cases d : pxLoc s (p + 1) T < 0
    · rw [if_pos d]; dsimp only; omega
    · rw [if_neg d]
      by_cases e : 40 < (T.1.length : Int) + (l - f + 1)
      · rw [if_pos e]; exact z45
      · rw [if_neg e]; exact z05
  rw [if_neg c12]
  by_cases c13 : pxP s p = 111
  · rw [if_pos c13]; exact z05
  rw [if_neg c13]
  by_cases c14 : pxP s p = 79
  · rw [if_pos c14]; exact z05
  rw [if_neg c14]
  have pr : ∀ pre : Int → List Int, 0 ≤ (pxSpPr pre f l T S).1 ∧ (pxSpPr pre f l T S).1 ≤ 5 := by
    intro pre
    unfold pxSpPr
    cases pxPrint pre (pxRs T.1) (l - f + 1).toNat f S.2.1 with
    | none => exact z45
    | some o => exact z05
  unfold pxSpTell
  by_cases d1 : pxP s p = 112
  · rw [if_pos d1]; exact pr _
  rw [if_neg d1]
  by_cases d2 : pxP s p = 110
  · rw [if_pos d2]; exact pr _
  rw [if_neg d2]
  by_cases d3 : pxP s p = 61
  · rw [if_pos d3]
    unfold pxSpEq
    by_cases e : S.2.1.length < 100
    · rw [if_pos e]; exact z05
    · rw [if_neg e]; exact z45
  rw [if_neg d3]
  by_cases d4 : pxP s p = 104
  · rw [if_pos d4]; exact z05
  rw [if_neg d4]
  by_cases d5 : pxP s p = 72
  · rw [if_pos d5]
    unfold pxSpMore
    by_cases e : (S.1.length : Int) + (l - f + 1) ≤ 40
    · rw [if_pos e]; exact z05
    · rw [if_neg e]; exact z45
  rw [if_neg d5]
  by_cases d6 : pxP s p = 107
  · rw [if_pos d6]; exact z05
  rw [if_neg d6]; exact z05
theorem pxRng_b {s : List Int} {p : Int} {T : pxTx} (hn : pxNowOk T) (l40 : T.1.length ≤ 40) : 0 ≤ (pxRng s p T).1 ∧ (pxRng s p T).1 ≤ 3 := by
  have e : ∀ {c w f l : Int}, -3 ≤ f → -3 ≤ l → 0 ≤ (pxRngE c w f l).1 ∧ (pxRngE c w f l).1 ≤ 3 := by
    intro c w f l f3 l3
    unfold pxRngE
    by_cases d : f < 0 ∨ l < 0
    · rw [if_pos d]; dsimp only; omega
    · rw [if_neg d]
      by_cases d2 : l < f ∨ (f = 0 ∧ ¬ ((c = 97 ∨ c = 114 ∨ c = 117) ∧ (w = 2 ∨ w = 0)))
      · rw [if_pos d2]; dsimp only; omega
      · rw [if_neg d2]; dsimp only; omega
  have h0 := hn.1
  have lb := pxLoc_b (s := s) (q := p) hn l40
  have lb2 := pxLoc_b (s := s) (q := (pxWh s p).2.2.2) hn l40
  unfold pxRng
  by_cases c1 : (pxWh s p).2.2.1 = 1 ∨ ((pxWh s p).2.2.1 = 0 ∧ (pxAc s p = 103 ∨ pxAc s p = 71 ∨ pxAc s p = 119))
  · rw [if_pos c1]
    by_cases d : 0 < (T.1.length : Int) ∨ (pxAc s p = 103 ∨ pxAc s p = 71 ∨ pxAc s p = 119)
    · rw [if_pos d]; dsimp only; omega
    · rw [if_neg d]; dsimp only; omega
  rw [if_neg c1]
  by_cases c2 : (pxWh s p).2.2.1 = 0
  · rw [if_pos c2]; exact e (by omega) (by omega)
  rw [if_neg c2]
  by_cases c3 : (pxWh s p).2.2.1 = 3 ∧ 0 ≤ pxLoc s p T
  · rw [if_pos c3]; exact e lb.1 lb2.1
  · rw [if_neg c3]; exact e lb.1 lb.1
theorem pxOne_b {s : List Int} {q : Int} {T : pxTx} {S : pxSto} {rep : Bool} (hn : pxNowOk T) (l40 : T.1.length ≤ 40) : 0 ≤ (pxOne s q T S rep).1.1 ∧ (pxOne s q T S rep).1.1 ≤ 5 := by
  have rb := pxRng_b (s := s) (p := q) hn l40
  unfold pxOne
  by_cases c : (pxRng s q T).1 ≠ 0
  · rw [if_pos c]; dsimp only; omega
  · rw [if_neg c]; exact pxDo_b hn l40
/-- an inner order's act is none that steers or holds others -/
theorem pxRd_inner {s : List Int} {q : Int} (h : (pxRd s q true).1 = true) : ¬ (pxAc s q = 103 ∨ pxAc s q = 71 ∨ pxAc s q = 123 ∨ pxSteer (pxAc s q) = true) := by
  unfold pxRd at h
  by_cases c : (pxWh s q).1 = true
  · rw [if_pos c] at h
    intro z
    unfold pxActG at h
    rw [if_pos (Or.inl ⟨rfl, z⟩)] at h
    cases h
  · rw [if_neg c] at h; cases h
def pxQG : Nat → Nat → Prop := fun k f => pxQA k f ∨ (k = 559 ∧ (f = 12 ∨ f = 13 ∨ f = 15))
section
variable {h : jw_H} {b k : Nat} {s : List Int} {q : Int} {T : pxTx} {S : pxSto} {rep : Bool}
theorem pxOC.co (C : pxOC h b s k q) (n3 : ¬ (pxAc s q = 123 ∨ pxAc s q = 103 ∨ pxAc s q = 71)) : pxCO h b s k (pxWh s q).2.1 := by
  obtain ⟨hb, hi, G, O, okw, oka, m7, p0, p1⟩ := C
  have wb := pxWh_b (s := s) p0 p1
  refine ⟨hb, hi, G, O.2.2.2, ?_, m7, by omega, by omega⟩
  rcases oka with z | z | z
  · exact absurd (Or.inl z) n3
  · exact absurd (Or.inr z.1) n3
  · exact z.2
/-- the range is sought and the act is done -/
theorem s_one (C : pxOC h b s k q) (ns : ¬ (pxAc s q = 103 ∨ pxAc s q = 71 ∨ pxAc s q = 123 ∨ pxSteer (pxAc s q) = true)) (A : pxAux h rep) (I : pxIX h T) (Y : pxIY h S) (IV : pxInv T) (IS : pxInvS S) (n1 : T.2.2.2 ≤ 2000000) :
    ∃ h1, f_X10_findRange h 559 (some (12 + 4 * k)) = some (pxJ (pxRng s q T).1, h1) ∧ pxF pxQf h h1 ∧ pxAux h1 rep ∧ pxIX h1 T ∧ pxIY h1 S ∧ ((pxRng s q T).1 = 0 → pxW (f_X10_doOne h1 559 (some (12 + 4 * k))) (pxDR h1 (pxOne s q T S rep).1 (pxOne s q T S rep).2 S)) := by
  have n3 : ¬ (pxAc s q = 123 ∨ pxAc s q = 103 ∨ pxAc s q = 71) := fun z => ns (by omega)
  have nst : ¬ pxSteer (pxAc s q) = true := fun z => ns (Or.inr (Or.inr (Or.inr z)))
  obtain ⟨-, y2⟩ := s_X10_findRange C A.1 A.2.1 I IV.now
  obtain ⟨h1, v1, v2, v3⟩ := y2 (fun z => nst z.2)
  have A1 := A.fr v2 (fun k f z => by unfold pxQf pxQx; omega)
  have I1 : pxIX h1 T := pxIT.fr I v2 (fun k f _ _ => by unfold pxQf pxQx; omega)
  have Y1 : pxIY h1 S := pxIS.fr Y v2 (fun k f _ _ => by unfold pxQf pxQx; omega)
  have C1 := C.fb v2 (fun k f z => by unfold pxQf pxQx; omega)
  refine ⟨h1, v1, v2, A1, I1, Y1, fun r0 => ?_⟩
  have wb := pxWh_b (s := s) (p := q) C.2.2.2.2.2.2.2.1 C.2.2.2.2.2.2.2.2
  have rg := pxRng_ok IV.now IV.1 r0 ⟨wb.2.2.1, wb.2.2.2⟩
  have eO : pxOne s q T S rep = pxDo s (pxWh s q).2.1 (pxRng s q T).2.1 (pxRng s q T).2.2 T S rep := if_neg (by omega)
  rw [eO]
  exact s_X10_doOne ns ⟨C1.co n3, A1, v3, I1, Y1, IV.now, IV.2.2.2.2.2.1, n1, rg⟩
theorem pxGood_one (C : pxOC h b s k q) (ns : ¬ (pxAc s q = 103 ∨ pxAc s q = 71 ∨ pxAc s q = 123 ∨ pxSteer (pxAc s q) = true)) (IV : pxInv T) (IS : pxInvS S) : pxGood T (pxOne s q T S rep).1 := by
  have n3 : ¬ (pxAc s q = 123 ∨ pxAc s q = 103 ∨ pxAc s q = 71) := fun z => ns (by omega)
  have nst : ¬ (pxP s (pxWh s q).2.1 = 58 ∨ pxP s (pxWh s q).2.1 = 98 ∨ pxP s (pxWh s q).2.1 = 84 ∨ pxP s (pxWh s q).2.1 = 113 ∨ pxP s (pxWh s q).2.1 = 78) := fun z => ns (Or.inr (Or.inr (Or.inr (pxSteer_i.mpr z))))
  have co := C.co n3
  have wb := pxWh_b (s := s) (p := q) C.2.2.2.2.2.2.2.1 C.2.2.2.2.2.2.2.2
  unfold pxOne
  by_cases c : (pxRng s q T).1 ≠ 0
  · rw [if_pos c]; intro z; exact absurd z c
  · rw [if_neg c]
    exact pxGood_do IV IS co.2.2.2.2.2.2.1 co.2.2.2.2.2.2.2 C.2.2.1.2.2.2.2.1.1 co.2.2.2.2.1 nst (fun z => n3 (by unfold pxAc; omega)) (pxRng_ok IV.now IV.1 (by omega) ⟨wb.2.2.1, wb.2.2.2⟩)
end
