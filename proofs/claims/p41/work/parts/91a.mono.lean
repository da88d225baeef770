/-! ids only grow, and deeds that are kept stay sound -/
theorem pxSpBring_nx {goes : Bool} {x f l : Int} {rows : List (List Int)} {T : pxTx} : T.2.2.2 ≤ (pxSpBring goes x f l rows T).2.2.2.2 := by
  unfold pxSpBring
  by_cases big : 40 < (T.1.length : Int) - (if goes = true then l - f + 1 else 0) + rows.length
  · rw [if_pos big]; exact Int.le_refl _
  · rw [if_neg big]; show T.2.2.2 ≤ T.2.2.2 + (rows.length : Int); omega
theorem pxPart_nx {n : Int} : ∀ (m : Nat) (x : Int) (ls : pxLs) (nx : Int) (v : pxLs × Int × Int), pxPart n m x ls nx = some v → nx ≤ v.2.1
  | 0, x, ls, nx, v, e => by cases Option.some.inj e; exact Int.le_refl _
  | m + 1, x, ls, nx, v, e => by
    unfold pxPart at e
    by_cases c : pxLn (pxRs ls) x ≤ n
    · rw [if_pos c] at e; exact pxPart_nx m _ _ _ _ e
    · rw [if_neg c] at e
      by_cases d : 40 ≤ ls.length
      · rw [if_pos d] at e; cases e
      · rw [if_neg d] at e
        have := pxPart_nx m _ _ _ _ e
        omega
theorem pxDo_nx {s : List Int} {p f l : Int} {T : pxTx} {S : pxSto} {rep : Bool} (fl : f ≤ l + 1) : T.2.2.2 ≤ (pxDo s p f l T S rep).1.2.1.2.2.2 := by
  unfold pxDo
  by_cases c : pxP s p = 62 ∨ pxP s p = 115 ∨ pxP s p = 122 ∨ pxP s p = 60
  · rw [if_pos c]; exact Int.le_refl _
  rw [if_neg c]
  show T.2.2.2 ≤ (pxDo1 s p f l T S).2.1.2.2.2
  unfold pxDo1
  by_cases c1 : pxP s p = 97
  · rw [if_pos c1]; exact pxSpBring_nx
  rw [if_neg c1]
  by_cases c2 : pxP s p = 105
  · rw [if_pos c2]; exact pxSpBring_nx
  rw [if_neg c2]
  by_cases c3 : pxP s p = 99
  · rw [if_pos c3]; exact pxSpBring_nx
  rw [if_neg c3]
  by_cases c4 : pxP s p = 117
  · rw [if_pos c4]
    by_cases d : S.1 = []
    · rw [if_pos d]; exact Int.le_refl _
    · rw [if_neg d]; exact pxSpBring_nx
  rw [if_neg c4]
  by_cases c5 : pxP s p = 114
  · rw [if_pos c5]
    show T.2.2.2 ≤ (pxSpRead f l (S.2.2 (pxP s (p + 1) - 48)) T).2.2.2.2
    unfold pxSpRead
    by_cases d : S.2.2 (pxP s (p + 1) - 48) = []
    · rw [if_pos d]; exact Int.le_refl _
    · rw [if_neg d]; exact pxSpBring_nx
  rw [if_neg c5]
  by_cases c6 : pxP s p = 101
  · rw [if_pos c6]
    unfold pxSpExch
    by_cases d : S.1 = []
    · rw [if_pos d]; exact Int.le_refl _
    · rw [if_neg d]; exact pxSpBring_nx (goes := true) (x := f) (rows := S.1)
  rw [if_neg c6]
  by_cases c7 : pxP s p = 100
  · rw [if_pos c7]; exact Int.le_refl _
  rw [if_neg c7]
  by_cases c8 : pxP s p = 106
  · rw [if_pos c8]
    show T.2.2.2 ≤ (pxSpJoin f l T).2.2.2.2
    unfold pxSpJoin
    by_cases d : (T.1.length : Int) < pxJoE f l
    · rw [if_pos d]; exact Int.le_refl _
    · rw [if_neg d]
      by_cases e : 30 < (pxJoW f l T.1).length
      · rw [if_pos e]; exact Int.le_refl _
      · rw [if_neg e]; exact Int.le_refl _
  rw [if_neg c8]
  by_cases c9 : pxP s p = 118
  · rw [if_pos c9]
    show T.2.2.2 ≤ (pxSpPart (pxNumV s (p + 1)) f l T).2.2.2.2
    unfold pxSpPart
    cases e : pxPart (pxNumV s (p + 1)) (l - f + 1).toNat f T.1 T.2.2.2 with
    | none => exact Int.le_refl _
    | some v => exact pxPart_nx _ _ _ _ _ e
  rw [if_neg c9]
  by_cases c10 : pxP s p = 108
  · rw [if_pos c10]; exact Int.le_refl _
  rw [if_neg c10]
  by_cases c11 : pxP s p = 109
  · rw [if_pos c11]
    show T.2.2.2 ≤ (pxSpMove f l (pxLoc s (p + 1) T) T).2.2.2.2
    unfold pxSpMove
    by_cases d : pxLoc s (p + 1) T < 0
    · rw [if_pos d]; exact Int.le_refl _
    · rw [if_neg d]
      by_cases e : f ≤ pxLoc s (p + 1) T ∧ pxLoc s (p + 1) T < l
      · rw [if_pos e]; exact Int.le_refl _
      · rw [if_neg e]; exact Int.le_refl _
  rw [if_neg c11]
  by_cases c12 : pxP s p = 116
  · rw [if_pos c12]
    show T.2.2.2 ≤ (pxSpCopy f l (pxLoc s (p + 1) T) T).2.2.2.2
    unfold pxSpCopy
    by_cases d : pxLoc s (p + 1) T < 0
    · rw [if_pos d]; exact Int.le_refl _
    · rw [if_neg d]
      by_cases e : 40 < (T.1.length : Int) + (l - f + 1)
      · rw [if_pos e]; exact Int.le_refl _
      · rw [if_neg e]; show T.2.2.2 ≤ T.2.2.2 + (l - f + 1); omega
  rw [if_neg c12]
  by_cases c13 : pxP s p = 111
  · rw [if_pos c13]; exact Int.le_refl _
  rw [if_neg c13]
  by_cases c14 : pxP s p = 79
  · rw [if_pos c14]; exact Int.le_refl _
  rw [if_neg c14]
  have pr : ∀ pre : Int → List Int, T.2.2.2 ≤ (pxSpPr pre f l T S).2.1.2.2.2 := by
    intro pre
    unfold pxSpPr
    cases pxPrint pre (pxRs T.1) (l - f + 1).toNat f S.2.1 with
    | none => exact Int.le_refl _
    | some o => exact Int.le_refl _
  unfold pxSpTell
  by_cases d1 : pxP s p = 112
  · rw [if_pos d1]; exact pr _
  rw [if_neg d1]
  by_cases d2 : pxP s p = 110
  · rw [if_pos d2]; exact pr _
  rw [if_neg d2]
  by_cases d3 : pxP s p = 61
  · rw [if_pos d3]
    unfold pxSpEq
    by_cases e : S.2.1.length < 100
    · rw [if_pos e]; exact Int.le_refl _
    · rw [if_neg e]; exact Int.le_refl _
  rw [if_neg d3]
  by_cases d4 : pxP s p = 104
  · rw [if_pos d4]; exact Int.le_refl _
  rw [if_neg d4]
  by_cases d5 : pxP s p = 72
  · rw [if_pos d5]
    unfold pxSpMore
    by_cases e : (S.1.length : Int) + (l - f + 1) ≤ 40
    · rw [if_pos e]; exact Int.le_refl _
    · rw [if_neg e]; exact Int.le_refl _
  rw [if_neg d5]
  by_cases d6 : pxP s p = 107
  · rw [if_pos d6]; exact Int.le_refl _
  · rw [if_neg d6]; exact Int.le_refl _
theorem pxRng_fl {s : List Int} {p : Int} {T : pxTx} (h : (pxRng s p T).1 = 0) : (pxRng s p T).2.1 ≤ (pxRng s p T).2.2 + 1 := by
  have e : ∀ {c w f l : Int}, (pxRngE c w f l).1 = 0 → (pxRngE c w f l).2.1 ≤ (pxRngE c w f l).2.2 + 1 := by
    intro c w f l
    unfold pxRngE
    by_cases d : f < 0 ∨ l < 0
    · rw [if_pos d]; intro z; dsimp only at z ⊢; omega
    · rw [if_neg d]
      by_cases d2 : l < f ∨ (f = 0 ∧ ¬ ((c = 97 ∨ c = 114 ∨ c = 117) ∧ (w = 2 ∨ w = 0)))
      · rw [if_pos d2]; intro z; exact absurd z (by show ¬ (1 : Int) = 0; omega)
      · rw [if_neg d2]; intro _; dsimp only; omega
  revert h
  unfold pxRng
  by_cases c1 : (pxWh s p).2.2.1 = 1 ∨ ((pxWh s p).2.2.1 = 0 ∧ (pxAc s p = 103 ∨ pxAc s p = 71 ∨ pxAc s p = 119))
  · rw [if_pos c1]; intro _; dsimp only; omega
  rw [if_neg c1]
  by_cases c2 : (pxWh s p).2.2.1 = 0
  · rw [if_pos c2]; exact e
  rw [if_neg c2]
  by_cases c3 : (pxWh s p).2.2.1 = 3 ∧ 0 ≤ pxLoc s p T
  · rw [if_pos c3]; exact e
  · rw [if_neg c3]; exact e
theorem pxOne_nx {s : List Int} {q : Int} {T : pxTx} {S : pxSto} {rep : Bool} : T.2.2.2 ≤ (pxOne s q T S rep).1.2.1.2.2.2 := by
  unfold pxOne
  by_cases c : (pxRng s q T).1 ≠ 0
  · rw [if_pos c]; exact Int.le_refl _
  · rw [if_neg c]; exact pxDo_nx (pxRng_fl (by omega))
theorem pxInnr_nx {s : List Int} : ∀ (ps : List Int) (came : Int) (T : pxTx) (S : pxSto) (rep : Bool), T.2.2.2 ≤ (pxInnr s ps came T S rep).2.2.1.2.2.2
  | [], came, T, S, rep => Int.le_refl _
  | q :: r, came, T, S, rep => by
    have o := pxOne_nx (s := s) (q := q) (T := T) (S := S) (rep := rep)
    unfold pxInnr
    by_cases c : 60 ≤ came
    · rw [if_pos c]; exact Int.le_refl _
    · rw [if_neg c]
      by_cases d : (pxOne s q T S rep).1.1 ≠ 0
      · rw [if_pos d]; exact o
      · rw [if_neg d]
        have := pxInnr_nx (s := s) r (came + 1) (pxOne s q T S rep).1.2.1 (pxOne s q T S rep).1.2.2 (pxOne s q T S rep).2
        omega
theorem pxMets_nx {s ps : List Int} : ∀ (ids : List Int) (came : Int) (T : pxTx) (S : pxSto) (rep : Bool), T.2.2.2 ≤ (pxMets s ps ids came T S rep).2.2.1.2.2.2
  | [], came, T, S, rep => Int.le_refl _
  | id :: r, came, T, S, rep => by
    unfold pxMets
    by_cases c : pxNo T.1 id = -1
    · rw [if_pos c]; exact pxMets_nx r came T S rep
    · rw [if_neg c]
      have i1 : T.2.2.2 ≤ (pxInnr s ps came (T.1, T.2.1, pxNo T.1 id, T.2.2.2) S rep).2.2.1.2.2.2 := pxInnr_nx (s := s) ps came (T.1, T.2.1, pxNo T.1 id, T.2.2.2) S rep
      by_cases d : (pxInnr s ps came (T.1, T.2.1, pxNo T.1 id, T.2.2.2) S rep).1 ≠ 0
      · rw [if_pos d]; exact i1
      · rw [if_neg d]
        have := pxMets_nx (s := s) (ps := ps) r (pxInnr s ps came (T.1, T.2.1, pxNo T.1 id, T.2.2.2) S rep).2.1 (pxInnr s ps came (T.1, T.2.1, pxNo T.1 id, T.2.2.2) S rep).2.2.1 (pxInnr s ps came (T.1, T.2.1, pxNo T.1 id, T.2.2.2) S rep).2.2.2.1 (pxInnr s ps came (T.1, T.2.1, pxNo T.1 id, T.2.2.2) S rep).2.2.2.2
        omega
theorem pxStr_nx {s : List Int} {L : List (Int × List Int)} {j : Nat} {p f l : Int} {T : pxTx} {rep : Bool} : T.2.2.2 ≤ (pxStr s L j p f l T rep).2.2.1.2.2.2 := by
  unfold pxStr
  by_cases c1 : (pxWh s p).2.2.1 ≠ 0 ∧ (T.2.2.1 < f ∨ l < T.2.2.1)
  · rw [if_pos c1]; exact Int.le_refl _
  rw [if_neg c1]
  by_cases c2 : pxAc s p = 78
  · rw [if_pos c2]
    by_cases d : T.2.2.1 < (T.1.length : Int)
    · rw [if_pos d]; exact Int.le_refl _
    · rw [if_neg d]; exact Int.le_refl _
  rw [if_neg c2]
  by_cases c3 : pxAc s p = 58 ∨ (pxAc s p = 84 ∧ rep = false)
  · rw [if_pos c3]; exact Int.le_refl _
  rw [if_neg c3]
  by_cases c4 : pxAc s p = 113 ∨ pxOn s (pxWh s p).2.1 = -1
  · rw [if_pos c4]; exact Int.le_refl _
  · rw [if_neg c4]; exact Int.le_refl _
theorem pxStep_nx {s : List Int} {L : List (Int × List Int)} {j : Nat} {t : Int × List Int} {came : Int} {T : pxTx} {S : pxSto} {rep : Bool} : T.2.2.2 ≤ (pxStep s L j t came T S rep).2.2.2.1.2.2.2 := by
  unfold pxStep
  by_cases c0 : 60 ≤ came
  · rw [if_pos c0]; exact Int.le_refl _
  rw [if_neg c0]
  by_cases c1 : pxSteer (pxAc s t.1) = true
  · rw [if_pos c1]
    by_cases d : (pxWh s t.1).2.2.1 ≠ 0 ∧ (pxRng s t.1 T).1 ≠ 0
    · rw [if_pos d]; exact Int.le_refl _
    · rw [if_neg d]; exact pxStr_nx
  rw [if_neg c1]
  by_cases c2 : (pxRng s t.1 T).1 ≠ 0
  · rw [if_pos c2]; exact Int.le_refl _
  rw [if_neg c2]
  by_cases c3 : pxAc s t.1 = 103 ∨ pxAc s t.1 = 71 ∨ pxAc s t.1 = 123
  · rw [if_pos c3]; exact pxMets_nx _ _ _ _ _
  · rw [if_neg c3]; exact pxDo_nx (pxRng_fl (by omega))
/-- the deeds are sound -/
def pxDok (D : List (Int × pxSn)) (nx : Int) : Prop := ∀ d ∈ D, pxInv (d.2.1, d.2.2.1, d.2.2.2, nx) ∧ -2147483648 ≤ d.1 ∧ d.1 ≤ 2147483647
theorem pxInv.up {T : pxTx} {n : Int} (H : pxInv T) (le : T.2.2.2 ≤ n) : pxInv (T.1, T.2.1, T.2.2.1, n) := by
  obtain ⟨a1, a2, a3, a4, a5, a6, a7, a8, a9⟩ := H
  exact ⟨a1, a2, a3, a4, a5, by dsimp only; omega, fun a ha => ⟨(a7 a ha).1, by have := (a7 a ha).2; dsimp only; omega⟩, a8, a9⟩
theorem pxDok.up {D : List (Int × pxSn)} {m n : Int} (H : pxDok D m) (le : m ≤ n) : pxDok D n := fun d hd => ⟨(H d hd).1.up le, (H d hd).2⟩
theorem pxPush_mem {D : List (Int × pxSn)} {a d : Int × pxSn} (h : d ∈ pxPush D a) : d ∈ D ∨ d = a := by
  unfold pxPush at h
  by_cases c : D.length < 40
  · rw [if_pos c] at h
    rcases List.mem_append.mp h with z | z
    · exact Or.inl z
    · exact Or.inr (List.mem_singleton.mp z)
  · rw [if_neg c] at h
    rcases List.mem_append.mp h with z | z
    · exact Or.inl (List.mem_of_mem_tail z)
    · exact Or.inr (List.mem_singleton.mp z)
theorem pxDok.push {D : List (Int × pxSn)} {T : pxTx} {c n : Int} (H : pxDok D T.2.2.2) (I : pxInv T) (le : T.2.2.2 ≤ n) (c0 : -2147483648 ≤ c) (c1 : c ≤ 2147483647) : pxDok (pxPush D (c, pxSnap T)) n := by
  intro d hd
  rcases pxPush_mem hd with z | z
  · exact (H.up le) d z
  · rw [z]; exact ⟨I.up le, c0, c1⟩
theorem s_runD {b : Nat} {s : List Int} {L : List (Int × List Int)} {call nB : Int} (c0 : -2147483648 ≤ call) (c1 : call ≤ 2147483647) : ∀ (m : Nat) (h : jw_H) (j : Nat) (dn came : Int) (T : pxTx) (S : pxSto) (rep : Bool) (D : List (Int × pxSn)), pxRS nB h b s L T S rep came D → 0 ≤ dn → dn ≤ came → pxDok D T.2.2.2 → pxDok (pxRunL s L call m j dn came T S rep D).2.2.2.2 (pxRunL s L call m j dn came T S rep D).2.2.1.2.2.2 := by
  intro m
  induction m with
  | zero => intro h j dn came T S rep D H d0 d1 K; exact K
  | succ m ih =>
    intro h j dn came T S rep D H d0 d1 K
    have eR : pxRunL s L call (m + 1) j dn came T S rep D = (L[j]?).elim (dn, 0, T, S, D) fun t =>
      if (pxStep s L j t came T S rep).1 ≠ 0 then (dn, (pxStep s L j t came T S rep).1, T, S, D)
      else pxRunL s L call m (pxStep s L j t came T S rep).2.1 (dn + 1) (pxStep s L j t came T S rep).2.2.1 (pxStep s L j t came T S rep).2.2.2.1 (pxStep s L j t came T S rep).2.2.2.2.1 (pxStep s L j t came T S rep).2.2.2.2.2 (pxDeed (pxAc s t.1) call T D) := rfl
    rw [eR]
    cases e : L[j]? with
    | none => exact K
    | some t =>
      dsimp only [Option.elim]
      obtain ⟨y1, -⟩ := s_step (N := 0) (call := call) H e c0 c1 d0 d1
      by_cases r0 : (pxStep s L j t came T S rep).1 = 0
      · rw [if_neg (show ¬ (pxStep s L j t came T S rep).1 ≠ 0 from fun z => z r0)]
        obtain ⟨cm, h1, -, -, H1⟩ := y1 r0
        refine ih h1 _ (dn + 1) _ _ _ _ _ H1 (by omega) (by omega) ?_
        have le := pxStep_nx (s := s) (L := L) (j := j) (t := t) (came := came) (T := T) (S := S) (rep := rep)
        unfold pxDeed
        by_cases c : pxAc s t.1 = 58 ∨ pxAc s t.1 = 98 ∨ pxAc s t.1 = 84 ∨ pxAc s t.1 = 113
        · rw [if_pos c]; exact K.up le
        · rw [if_neg c]; exact K.push H.2.1.2.2.2.1 le c0 c1
      · rw [if_pos (show (pxStep s L j t came T S rep).1 ≠ 0 from r0)]
        exact K
