/-! the tapes of groups, and those of two orders -/
def qzUp (nx : Int) (T : pxTx) : pxTx := (T.1, T.2.1, T.2.2.1, nx)
/-- an order of a group: new lines' numbers don't matter to it, what is stored stays -/
def qzEq (s : List Int) (q : Int) : Prop := ∀ (T : pxTx) (S : pxSto) (rep : Bool), (pxOne s q T S rep).1.2.2 = S ∧ ∀ nx : Int, pxOne s q (qzUp nx T) S rep = (((pxOne s q T S rep).1.1, qzUp nx (pxOne s q T S rep).1.2.1, (pxOne s q T S rep).1.2.2), (pxOne s q T S rep).2)
theorem qz_eq {s : List Int} {q : Int} (h : pxP s (pxWh s q).2.1 = 62 ∨ pxP s (pxWh s q).2.1 = 100 ∨ pxP s (pxWh s q).2.1 = 107) : qzEq s q := by
  intro T S rep
  have er : ∀ nx : Int, pxRng s q (qzUp nx T) = pxRng s q T := fun _ => rfl
  unfold pxOne
  by_cases g : (pxRng s q T).1 ≠ 0
  · rw [if_pos g]
    refine ⟨rfl, fun nx => ?_⟩
    rw [er, if_pos g]
  · rw [if_neg g]
    have key : ∀ f l : Int, (pxDo s (pxWh s q).2.1 f l T S rep).1.2.2 = S ∧ ∀ nx : Int, pxDo s (pxWh s q).2.1 f l (qzUp nx T) S rep = (((pxDo s (pxWh s q).2.1 f l T S rep).1.1, qzUp nx (pxDo s (pxWh s q).2.1 f l T S rep).1.2.1, (pxDo s (pxWh s q).2.1 f l T S rep).1.2.2), (pxDo s (pxWh s q).2.1 f l T S rep).2) := by
      intro f l
      rcases h with h | h | h
      · refine ⟨?_, fun nx => ?_⟩
        · rw [qz_doC (Or.inl h)]; rfl
        · rw [qz_doC (Or.inl h), qz_doC (Or.inl h)]; rfl
      · have e2 : ∀ T' : pxTx, pxDo s (pxWh s q).2.1 f l T' S rep = ((0, pxSpDel f l T', S), rep) := fun T' => by
          have := qz_d100 (T := T') (S := S) (f := f) (l := l) (rep := rep) h
          have e3 : (pxDo s (pxWh s q).2.1 f l T' S rep).2 = rep := by unfold pxDo; rw [if_neg (by omega)]
          exact Prod.ext this e3
        refine ⟨?_, fun nx => ?_⟩
        · rw [e2]
        · rw [e2, e2]; rfl
      · have e2 : ∀ T' : pxTx, pxDo s (pxWh s q).2.1 f l T' S rep = (pxSpMark (pxP s ((pxWh s q).2.1 + 1) - 97) l T' S, rep) := fun T' => by
          have := qz_d107 (T := T') (S := S) (f := f) (l := l) (rep := rep) h
          have e3 : (pxDo s (pxWh s q).2.1 f l T' S rep).2 = rep := by unfold pxDo; rw [if_neg (by omega)]
          exact Prod.ext this e3
        refine ⟨?_, fun nx => ?_⟩
        · rw [e2]; rfl
        · rw [e2, e2]; rfl
    refine ⟨(key _ _).1, fun nx => ?_⟩
    rw [er, if_neg g]
    exact (key _ _).2 nx
def qzMp (nx : Int) (r : pxRes) : pxRes := (r.1, r.2.1, qzUp nx r.2.2.1, r.2.2.2.1, r.2.2.2.2)
theorem qz_innr {s : List Int} : ∀ (ps : List Int) (came : Int) (T : pxTx) (S : pxSto) (rep : Bool), (∀ q ∈ ps, qzEq s q) → (pxInnr s ps came T S rep).2.2.2.1 = S ∧ ∀ nx : Int, pxInnr s ps came (qzUp nx T) S rep = qzMp nx (pxInnr s ps came T S rep)
  | [], came, T, S, rep, _ => ⟨rfl, fun _ => rfl⟩
  | q :: r, came, T, S, rep, h => by
    have eU : ∀ T' : pxTx, pxInnr s (q :: r) came T' S rep = if 60 ≤ came then (7, came + 1, T', S, rep) else if (pxOne s q T' S rep).1.1 ≠ 0 then ((pxOne s q T' S rep).1.1, came + 1, (pxOne s q T' S rep).1.2.1, (pxOne s q T' S rep).1.2.2, (pxOne s q T' S rep).2) else pxInnr s r (came + 1) (pxOne s q T' S rep).1.2.1 (pxOne s q T' S rep).1.2.2 (pxOne s q T' S rep).2 := fun _ => rfl
    obtain ⟨h1, h2⟩ := h q List.mem_cons_self T S rep
    have ih := qz_innr r (came + 1) (pxOne s q T S rep).1.2.1 S (pxOne s q T S rep).2 (fun z hz => h z (List.mem_cons_of_mem _ hz))
    rw [eU]
    by_cases c : 60 ≤ came
    · rw [if_pos c]
      refine ⟨rfl, fun nx => ?_⟩
      rw [eU, if_pos c]
      rfl
    · rw [if_neg c]
      by_cases d : (pxOne s q T S rep).1.1 ≠ 0
      · rw [if_pos d]
        refine ⟨h1, fun nx => ?_⟩
        rw [eU, if_neg c, h2 nx, if_pos d]
        rfl
      · rw [if_neg d, h1]
        refine ⟨ih.1, fun nx => ?_⟩
        rw [eU, if_neg c, h2 nx, if_neg d]
        show pxInnr s r (came + 1) (qzUp nx (pxOne s q T S rep).1.2.1) (pxOne s q T S rep).1.2.2 (pxOne s q T S rep).2 = _
        rw [h1]
        exact ih.2 nx
theorem qz_mets {s ps : List Int} (h : ∀ q ∈ ps, qzEq s q) : ∀ (ids : List Int) (came : Int) (T : pxTx) (S : pxSto) (rep : Bool), (pxMets s ps ids came T S rep).2.2.2.1 = S ∧ ∀ nx : Int, pxMets s ps ids came (qzUp nx T) S rep = qzMp nx (pxMets s ps ids came T S rep)
  | [], came, T, S, rep => ⟨rfl, fun _ => rfl⟩
  | id :: r, came, T, S, rep => by
    have eU : ∀ T' : pxTx, pxMets s ps (id :: r) came T' S rep = if pxNo T'.1 id = -1 then pxMets s ps r came T' S rep
      else if (pxInnr s ps came (T'.1, T'.2.1, pxNo T'.1 id, T'.2.2.2) S rep).1 ≠ 0 then pxInnr s ps came (T'.1, T'.2.1, pxNo T'.1 id, T'.2.2.2) S rep
      else pxMets s ps r (pxInnr s ps came (T'.1, T'.2.1, pxNo T'.1 id, T'.2.2.2) S rep).2.1 (pxInnr s ps came (T'.1, T'.2.1, pxNo T'.1 id, T'.2.2.2) S rep).2.2.1 (pxInnr s ps came (T'.1, T'.2.1, pxNo T'.1 id, T'.2.2.2) S rep).2.2.2.1 (pxInnr s ps came (T'.1, T'.2.1, pxNo T'.1 id, T'.2.2.2) S rep).2.2.2.2 := fun _ => rfl
    rw [eU]
    by_cases c : pxNo T.1 id = -1
    · rw [if_pos c]
      have ih := qz_mets h r came T S rep
      refine ⟨ih.1, fun nx => ?_⟩
      rw [eU, if_pos (show pxNo (qzUp nx T).1 id = -1 from c)]
      exact ih.2 nx
    · rw [if_neg c]
      obtain ⟨i1, i2⟩ := qz_innr ps came (T.1, T.2.1, pxNo T.1 id, T.2.2.2) S rep h
      have i3 : ∀ nx : Int, pxInnr s ps came ((qzUp nx T).1, (qzUp nx T).2.1, pxNo (qzUp nx T).1 id, (qzUp nx T).2.2.2) S rep = qzMp nx (pxInnr s ps came (T.1, T.2.1, pxNo T.1 id, T.2.2.2) S rep) := fun nx => i2 nx
      by_cases d : (pxInnr s ps came (T.1, T.2.1, pxNo T.1 id, T.2.2.2) S rep).1 ≠ 0
      · rw [if_pos d]
        refine ⟨i1, fun nx => ?_⟩
        rw [eU, if_neg (show ¬ pxNo (qzUp nx T).1 id = -1 from c), i3, if_pos (show (qzMp nx (pxInnr s ps came (T.1, T.2.1, pxNo T.1 id, T.2.2.2) S rep)).1 ≠ 0 from d)]
      · rw [if_neg d, i1]
        have ih := qz_mets h r (pxInnr s ps came (T.1, T.2.1, pxNo T.1 id, T.2.2.2) S rep).2.1 (pxInnr s ps came (T.1, T.2.1, pxNo T.1 id, T.2.2.2) S rep).2.2.1 S (pxInnr s ps came (T.1, T.2.1, pxNo T.1 id, T.2.2.2) S rep).2.2.2.2
        refine ⟨ih.1, fun nx => ?_⟩
        rw [eU, if_neg (show ¬ pxNo (qzUp nx T).1 id = -1 from c), i3, if_neg (show ¬ (qzMp nx (pxInnr s ps came (T.1, T.2.1, pxNo T.1 id, T.2.2.2) S rep)).1 ≠ 0 from d)]
        show pxMets s ps r (pxInnr s ps came (T.1, T.2.1, pxNo T.1 id, T.2.2.2) S rep).2.1 (qzUp nx (pxInnr s ps came (T.1, T.2.1, pxNo T.1 id, T.2.2.2) S rep).2.2.1) (pxInnr s ps came (T.1, T.2.1, pxNo T.1 id, T.2.2.2) S rep).2.2.2.1 (pxInnr s ps came (T.1, T.2.1, pxNo T.1 id, T.2.2.2) S rep).2.2.2.2 = _
        rw [i1]
        exact ih.2 nx
theorem qz_reG {s : List Int} {p : Int} {ps : List Int} (h0 : (pxWh s p).2.2.1 = 0) (hg : pxAc s p = 103 ∨ pxAc s p = 71) (h : ∀ q ∈ ps, qzEq s q) : qzRe s p ps := qz_same fun T S IV n3 => by
  have g3 : pxAc s p = 103 ∨ pxAc s p = 71 ∨ pxAc s p = 123 := by omega
  have e1 : ∀ T' : pxTx, qzS s p ps T' S = ((pxGp s p ps 1 (T'.1.length : Int) 1 T' S false).1, (pxGp s p ps 1 (T'.1.length : Int) 1 T' S false).2.2.1, (pxGp s p ps 1 (T'.1.length : Int) 1 T' S false).2.2.2.1) := fun T' => qz_sG (qz_rW h0 hg) rfl g3
  have k := qz_mets h (pxMetL s (pxAc s p) (pxWh s p).2.1 (pxSub T.1 1 (T.1.length : Int))) 1 T S false
  rw [e1]
  refine ⟨k.1, fun e nx => ?_⟩
  rw [e1]
  show (pxMets s ps (pxMetL s (pxAc s p) (pxWh s p).2.1 (pxSub T.1 1 (T.1.length : Int))) 1 (qzUp nx T) S false).1 = 0
  rw [k.2 nx]
  exact e
theorem qz_p1 : (pxOrds qt1 61 0) = (-1, [(0, [4])]) ∧ (pxWh qt1 0).2.2.1 = 0 ∧ pxAc qt1 0 = 103 ∧ pxP qt1 (pxWh qt1 4).2.1 = 100 := by decide +kernel
theorem qz_p8 : (pxOrds qt8 61 0) = (-1, [(0, [5, 8])]) ∧ (pxWh qt8 0).2.2.1 = 0 ∧ pxAc qt8 0 = 71 ∧ pxP qt8 (pxWh qt8 5).2.1 = 62 ∧ pxP qt8 (pxWh qt8 8).2.1 = 107 := by decide +kernel
theorem qz_re1 : qzRe qt1 0 [4] := qz_reG qz_p1.2.1 (Or.inl qz_p1.2.2.1) (fun q hq => by
  rw [List.mem_singleton] at hq
  subst hq
  exact qz_eq (Or.inr (Or.inl qz_p1.2.2.2)))
theorem qz_re8 : qzRe qt8 0 [5, 8] := qz_reG qz_p8.2.1 (Or.inr qz_p8.2.2.1) (fun q hq => by
  rcases List.mem_cons.mp hq with z | z
  · subst z
    exact qz_eq (Or.inl qz_p8.2.2.2.1)
  · rw [List.mem_singleton] at z
    subst z
    exact qz_eq (Or.inr (Or.inr qz_p8.2.2.2.2)))
/-- two orders, both done -/
theorem qz_two {s : List Int} {p1 p2 : Int} {ps1 ps2 : List Int} {call : Int} {T T1 T2 : pxTx} {S S1 S2 : pxSto} {D : List (Int × pxSn)} {r1 r2 : Bool} {c1 c2 : Int} (e1 : pxStep s [(p1, ps1), (p2, ps2)] 0 (p1, ps1) 0 T S false = (0, 1, c1, T1, S1, r1)) (e2 : pxStep s [(p1, ps1), (p2, ps2)] 1 (p2, ps2) c1 T1 S1 r1 = (0, 2, c2, T2, S2, r2)) :
    (pxRunL s [(p1, ps1), (p2, ps2)] call 61 0 0 0 T S false D).1 = 2 ∧ (pxRunL s [(p1, ps1), (p2, ps2)] call 61 0 0 0 T S false D).2.2.2.1 = S2 := by
  have eU : pxRunL s [(p1, ps1), (p2, ps2)] call 61 0 0 0 T S false D = if (pxStep s [(p1, ps1), (p2, ps2)] 0 (p1, ps1) 0 T S false).1 ≠ 0 then (0, (pxStep s [(p1, ps1), (p2, ps2)] 0 (p1, ps1) 0 T S false).1, T, S, D) else pxRunL s [(p1, ps1), (p2, ps2)] call 60 (pxStep s [(p1, ps1), (p2, ps2)] 0 (p1, ps1) 0 T S false).2.1 (0 + 1) (pxStep s [(p1, ps1), (p2, ps2)] 0 (p1, ps1) 0 T S false).2.2.1 (pxStep s [(p1, ps1), (p2, ps2)] 0 (p1, ps1) 0 T S false).2.2.2.1 (pxStep s [(p1, ps1), (p2, ps2)] 0 (p1, ps1) 0 T S false).2.2.2.2.1 (pxStep s [(p1, ps1), (p2, ps2)] 0 (p1, ps1) 0 T S false).2.2.2.2.2 (pxDeed (pxAc s p1) call T D) := rfl
  rw [eU, e1, if_neg (fun z => z rfl)]
  have eV : pxRunL s [(p1, ps1), (p2, ps2)] call 60 1 (0 + 1) c1 T1 S1 r1 (pxDeed (pxAc s p1) call T D) = if (pxStep s [(p1, ps1), (p2, ps2)] 1 (p2, ps2) c1 T1 S1 r1).1 ≠ 0 then (0 + 1, (pxStep s [(p1, ps1), (p2, ps2)] 1 (p2, ps2) c1 T1 S1 r1).1, T1, S1, pxDeed (pxAc s p1) call T D) else pxRunL s [(p1, ps1), (p2, ps2)] call 59 (pxStep s [(p1, ps1), (p2, ps2)] 1 (p2, ps2) c1 T1 S1 r1).2.1 (0 + 1 + 1) (pxStep s [(p1, ps1), (p2, ps2)] 1 (p2, ps2) c1 T1 S1 r1).2.2.1 (pxStep s [(p1, ps1), (p2, ps2)] 1 (p2, ps2) c1 T1 S1 r1).2.2.2.1 (pxStep s [(p1, ps1), (p2, ps2)] 1 (p2, ps2) c1 T1 S1 r1).2.2.2.2.1 (pxStep s [(p1, ps1), (p2, ps2)] 1 (p2, ps2) c1 T1 S1 r1).2.2.2.2.2 (pxDeed (pxAc s p2) call T1 (pxDeed (pxAc s p1) call T D)) := rfl
  show (pxRunL s [(p1, ps1), (p2, ps2)] call 60 1 (0 + 1) c1 T1 S1 r1 (pxDeed (pxAc s p1) call T D)).1 = 2 ∧ (pxRunL s [(p1, ps1), (p2, ps2)] call 60 1 (0 + 1) c1 T1 S1 r1 (pxDeed (pxAc s p1) call T D)).2.2.2.1 = S2
  rw [eV, e2, if_neg (fun z => z rfl)]
  exact ⟨rfl, rfl⟩
section
variable {T : pxTx} {S : pxSto} {call : Int} {D : List (Int × pxSn)}
theorem qz_p12 : (pxOrds qt12 61 0) = (-1, [(0, []), (2, [])]) ∧ (pxWh qt12 0).2.2.1 = 0 ∧ pxAc qt12 0 = 78 ∧ pxWh qt12 2 = (true, 2, 0, 0) ∧ pxAc qt12 2 = 100 ∧ pxP qt12 2 = 100 := by decide +kernel
theorem qz_st12 : pxStep qt12 [(0, []), (2, [])] 0 (0, []) 0 T S false = if T.2.2.1 < (T.1.length : Int) then (0, 1, 1, (T.1, T.2.1, T.2.2.1 + 1, T.2.2.2), S, false) else (1, 1, 1, T, S, false) := by
  obtain ⟨-, h, c, -, -, -⟩ := qz_p12
  unfold pxStep
  rw [if_neg (show ¬ ((60 : Int) ≤ 0) by decide)]
  have st : pxSteer (pxAc qt12 ((0 : Int), ([] : List Int)).1) = true := by
    show pxSteer (pxAc qt12 0) = true
    rw [c]; decide
  have n0 : ¬ ((pxWh qt12 ((0 : Int), ([] : List Int)).1).2.2.1 ≠ 0 ∧ (pxRng qt12 ((0 : Int), ([] : List Int)).1 T).1 ≠ 0) := fun z => z.1 h
  rw [if_pos st, if_neg n0]
  have es : pxStr qt12 [(0, []), (2, [])] 0 ((0 : Int), ([] : List Int)).1 (pxRng qt12 ((0 : Int), ([] : List Int)).1 T).2.1 (pxRng qt12 ((0 : Int), ([] : List Int)).1 T).2.2 T false = if T.2.2.1 < (T.1.length : Int) then (0, 0 + 1, (T.1, T.2.1, T.2.2.1 + 1, T.2.2.2), false) else (1, 0 + 1, T, false) := by
    unfold pxStr
    rw [if_neg (fun z => z.1 h), if_pos (show pxAc qt12 ((0 : Int), ([] : List Int)).1 = 78 from c)]
  rw [es]
  by_cases d : T.2.2.1 < (T.1.length : Int)
  · rw [if_pos d, if_pos d]
    rfl
  · rw [if_neg d, if_neg d]
    rfl
theorem qz_run12 (w : 0 ≤ T.2.2.1) : (pxRunL qt12 [(0, []), (2, [])] call 61 0 0 0 T S false D).1 = (if T.2.2.1 < (T.1.length : Int) then 2 else 0) ∧ (pxRunL qt12 [(0, []), (2, [])] call 61 0 0 0 T S false D).2.2.2.1 = S := by
  obtain ⟨-, h, c, h2, c2, p2⟩ := qz_p12
  have e1 := qz_st12 (T := T) (S := S)
  by_cases d : T.2.2.1 < (T.1.length : Int)
  · rw [if_pos d] at e1 ⊢
    have e2 : pxStep qt12 [(0, []), (2, [])] 1 (2, []) 1 (T.1, T.2.1, T.2.2.1 + 1, T.2.2.2) S false = (0, 2, 2, pxSpDel (T.2.2.1 + 1) (T.2.2.1 + 1) (T.1, T.2.1, T.2.2.1 + 1, T.2.2.2), S, false) := by
      unfold pxStep
      have st : ¬ pxSteer (pxAc qt12 ((2 : Int), ([] : List Int)).1) = true := by
        show ¬ pxSteer (pxAc qt12 2) = true
        rw [c2]; decide
      have er : pxRng qt12 ((2 : Int), ([] : List Int)).1 (T.1, T.2.1, T.2.2.1 + 1, T.2.2.2) = (0, T.2.2.1 + 1, T.2.2.1 + 1) := qz_rN (T := (T.1, T.2.1, T.2.2.1 + 1, T.2.2.2)) (by rw [h2]) (by rw [c2]; decide) (by show 1 ≤ T.2.2.1 + 1; omega)
      have ng : ¬ (pxAc qt12 ((2 : Int), ([] : List Int)).1 = 103 ∨ pxAc qt12 ((2 : Int), ([] : List Int)).1 = 71 ∨ pxAc qt12 ((2 : Int), ([] : List Int)).1 = 123) := by
        show ¬ (pxAc qt12 2 = 103 ∨ pxAc qt12 2 = 71 ∨ pxAc qt12 2 = 123)
        rw [c2]; decide
      have ed : pxDo qt12 2 (T.2.2.1 + 1) (T.2.2.1 + 1) (T.1, T.2.1, T.2.2.1 + 1, T.2.2.2) S false = ((0, pxSpDel (T.2.2.1 + 1) (T.2.2.1 + 1) (T.1, T.2.1, T.2.2.1 + 1, T.2.2.2), S), false) := by
        refine Prod.ext (qz_d100 p2) ?_
        unfold pxDo
        rw [if_neg (by omega)]
      rw [if_neg (show ¬ ((60 : Int) ≤ 1) by decide), if_neg st, er, if_neg (fun z => z rfl), if_neg ng]
      show ((pxDo qt12 (pxWh qt12 2).2.1 (T.2.2.1 + 1) (T.2.2.1 + 1) (T.1, T.2.1, T.2.2.1 + 1, T.2.2.2) S false).1.1, _) = _
      rw [h2]
      show ((pxDo qt12 2 (T.2.2.1 + 1) (T.2.2.1 + 1) (T.1, T.2.1, T.2.2.1 + 1, T.2.2.2) S false).1.1, 1 + 1, (1 : Int) + 1, (pxDo qt12 2 (T.2.2.1 + 1) (T.2.2.1 + 1) (T.1, T.2.1, T.2.2.1 + 1, T.2.2.2) S false).1.2.1, (pxDo qt12 2 (T.2.2.1 + 1) (T.2.2.1 + 1) (T.1, T.2.1, T.2.2.1 + 1, T.2.2.2) S false).1.2.2, (pxDo qt12 2 (T.2.2.1 + 1) (T.2.2.1 + 1) (T.1, T.2.1, T.2.2.1 + 1, T.2.2.2) S false).2) = _
      rw [ed]
      rfl
    exact qz_two e1 e2
  · rw [if_neg d] at e1 ⊢
    have eU : pxRunL qt12 [(0, []), (2, [])] call 61 0 0 0 T S false D = if (pxStep qt12 [(0, []), (2, [])] 0 (0, []) 0 T S false).1 ≠ 0 then (0, (pxStep qt12 [(0, []), (2, [])] 0 (0, []) 0 T S false).1, T, S, D) else pxRunL qt12 [(0, []), (2, [])] call 60 (pxStep qt12 [(0, []), (2, [])] 0 (0, []) 0 T S false).2.1 (0 + 1) (pxStep qt12 [(0, []), (2, [])] 0 (0, []) 0 T S false).2.2.1 (pxStep qt12 [(0, []), (2, [])] 0 (0, []) 0 T S false).2.2.2.1 (pxStep qt12 [(0, []), (2, [])] 0 (0, []) 0 T S false).2.2.2.2.1 (pxStep qt12 [(0, []), (2, [])] 0 (0, []) 0 T S false).2.2.2.2.2 (pxDeed (pxAc qt12 0) call T D) := rfl
    rw [eU, e1, if_pos (show ((1 : Int), 1, 1, T, S, false).1 ≠ 0 from fun z => absurd (show (1 : Int) = 0 from z) (by decide))]
    exact ⟨rfl, rfl⟩
theorem qz_p15 : (pxOrds qt15 61 0) = (-1, [(0, []), (4, [])]) ∧ pxWh qt15 0 = (true, 1, 1, 0) ∧ pxAc qt15 0 = 79 ∧ pxP qt15 1 = 79 ∧ pxWh qt15 4 = (true, 5, 2, 0) ∧ pxAc qt15 4 = 107 ∧ pxP qt15 5 = 107 ∧ (pxIsDg (pxP qt15 4) = true ∧ pxNumV qt15 4 = 1 ∧ pxAddrS qt15 4 = 0) := by decide +kernel
theorem qz_run15 (n3 : 3 ≤ T.1.length) : (pxRunL qt15 [(0, []), (4, [])] call 61 0 0 0 T S false D).1 = 2 ∧ (pxRunL qt15 [(0, []), (4, [])] call 61 0 0 0 T S false D).2.2.2.1 = S := by
  obtain ⟨-, h, c, p1, h2, c2, p2, a1, a2, a3⟩ := qz_p15
  have ln : (pxSpSort (pxNumV qt15 2) true 1 (T.1.length : Int) T).1.length = T.1.length := (pxSort_perm (by omega) _ _ _ (by omega) (by omega)).length_eq
  have e1 : pxStep qt15 [(0, []), (4, [])] 0 (0, []) 0 T S false = (0, 1, 1, pxSpSort (pxNumV qt15 2) true 1 (T.1.length : Int) T, S, false) := by
    unfold pxStep
    have st : ¬ pxSteer (pxAc qt15 ((0 : Int), ([] : List Int)).1) = true := by
      show ¬ pxSteer (pxAc qt15 0) = true
      rw [c]; decide
    have er : pxRng qt15 ((0 : Int), ([] : List Int)).1 T = (0, 1, (T.1.length : Int)) := qz_rP (by show (pxWh qt15 0).2.2.1 = 1; rw [h]) (by omega)
    have ng : ¬ (pxAc qt15 ((0 : Int), ([] : List Int)).1 = 103 ∨ pxAc qt15 ((0 : Int), ([] : List Int)).1 = 71 ∨ pxAc qt15 ((0 : Int), ([] : List Int)).1 = 123) := by
      show ¬ (pxAc qt15 0 = 103 ∨ pxAc qt15 0 = 71 ∨ pxAc qt15 0 = 123)
      rw [c]; decide
    have ed : pxDo qt15 1 1 (T.1.length : Int) T S false = ((0, pxSpSort (pxNumV qt15 2) true 1 (T.1.length : Int) T, S), false) := by
      refine Prod.ext (qz_d79 p1) ?_
      unfold pxDo
      rw [if_neg (by omega)]
    have hw : (pxWh qt15 ((0 : Int), ([] : List Int)).1).2.1 = 1 := by
      show (pxWh qt15 0).2.1 = 1
      rw [h]
    rw [if_neg (show ¬ ((60 : Int) ≤ 0) by decide), if_neg st, er, if_neg (fun z => z rfl), if_neg ng, hw]
    show ((pxDo qt15 1 1 (T.1.length : Int) T S false).1.1, 0 + 1, (0 : Int) + 1, (pxDo qt15 1 1 (T.1.length : Int) T S false).1.2.1, (pxDo qt15 1 1 (T.1.length : Int) T S false).1.2.2, (pxDo qt15 1 1 (T.1.length : Int) T S false).2) = _
    rw [ed]
    rfl
  generalize pxSpSort (pxNumV qt15 2) true 1 (T.1.length : Int) T = T1 at *
  have e2 : pxStep qt15 [(0, []), (4, [])] 1 (4, []) 1 T1 S false = (0, 2, 2, (pxSpMark (pxP qt15 6 - 97) 1 T1 S).2.1, S, false) := by
    unfold pxStep
    have st : ¬ pxSteer (pxAc qt15 ((4 : Int), ([] : List Int)).1) = true := by
      show ¬ pxSteer (pxAc qt15 4) = true
      rw [c2]; decide
    have l1 : pxLoc qt15 4 T1 = 1 := qz_lD a1 a2 a3 (by omega) (by omega)
    have er : pxRng qt15 ((4 : Int), ([] : List Int)).1 T1 = (0, 1, 1) := by
      show pxRng qt15 4 T1 = _
      rw [qz_r2 (by rw [h2]), l1]
      exact qz_rE (by omega) (by omega)
    have ng : ¬ (pxAc qt15 ((4 : Int), ([] : List Int)).1 = 103 ∨ pxAc qt15 ((4 : Int), ([] : List Int)).1 = 71 ∨ pxAc qt15 ((4 : Int), ([] : List Int)).1 = 123) := by
      show ¬ (pxAc qt15 4 = 103 ∨ pxAc qt15 4 = 71 ∨ pxAc qt15 4 = 123)
      rw [c2]; decide
    have ed : pxDo qt15 5 1 1 T1 S false = (pxSpMark (pxP qt15 6 - 97) 1 T1 S, false) := by
      refine Prod.ext (qz_d107 p2) ?_
      unfold pxDo
      rw [if_neg (by omega)]
    have hw : (pxWh qt15 ((4 : Int), ([] : List Int)).1).2.1 = 5 := by
      show (pxWh qt15 4).2.1 = 5
      rw [h2]
    rw [if_neg (show ¬ ((60 : Int) ≤ 1) by decide), if_neg st, er, if_neg (fun z => z rfl), if_neg ng, hw]
    show ((pxDo qt15 5 1 1 T1 S false).1.1, 1 + 1, (1 : Int) + 1, (pxDo qt15 5 1 1 T1 S false).1.2.1, (pxDo qt15 5 1 1 T1 S false).1.2.2, (pxDo qt15 5 1 1 T1 S false).2) = _
    rw [ed]
    rfl
  exact qz_two e1 e2
/-- what the law wants of a tape -/
def qzTp (s : List Int) (T : pxTx) (S : pxSto) : Prop := ∀ (call : Int) (D : List (Int × pxSn)),
  ((pxRunL s (pxOrds s 61 0).2 call 61 0 0 0 T S false D).1 ≠ 0 → ∀ (nx call2 : Int) (D2 : List (Int × pxSn)), (pxRunL s (pxOrds s 61 0).2 call2 61 0 0 0 (T.1, T.2.1, T.2.2.1, nx) (pxRunL s (pxOrds s 61 0).2 call 61 0 0 0 T S false D).2.2.2.1 false D2).1 = (pxRunL s (pxOrds s 61 0).2 call 61 0 0 0 T S false D).1) ∧
  (pxRunL s (pxOrds s 61 0).2 call 61 0 0 0 T S false D).2.2.2.1.2.1.length ≤ S.2.1.length + 2
theorem qz_tp1 {s : List Int} {p : Int} {ps : List Int} {c : Int} (e : pxOrds s 61 0 = (-1, [(p, ps)])) (hc : pxAc s p = c) (hs : ¬ pxSteer c = true) (R : qzRe s p ps) (IV : pxInv T) (IS : pxInvS S) (n3 : 3 ≤ T.1.length) (o : S.2.1.length ≤ 96) : qzTp s T S := by
  intro call D
  have hs : ¬ pxSteer (pxAc s p) = true := by rw [hc]; exact hs
  rw [e]
  show ((pxRunL s [(p, ps)] call 61 0 0 0 T S false D).1 ≠ 0 → ∀ (nx call2 : Int) (D2 : List (Int × pxSn)), (pxRunL s [(p, ps)] call2 61 0 0 0 (T.1, T.2.1, T.2.2.1, nx) (pxRunL s [(p, ps)] call 61 0 0 0 T S false D).2.2.2.1 false D2).1 = (pxRunL s [(p, ps)] call 61 0 0 0 T S false D).1) ∧ (pxRunL s [(p, ps)] call 61 0 0 0 T S false D).2.2.2.1.2.1.length ≤ S.2.1.length + 2
  obtain ⟨o1, o2, o3⟩ := qz_one (call := call) (T := T) (S := S) (D := D) (ps := ps) hs
  by_cases c : (qzS s p ps T S).1 = 0
  · obtain ⟨r1, r2⟩ := R T S IV IS n3 o c
    rw [(o2 c).2, o1, if_pos c]
    refine ⟨fun _ nx call2 D2 => ?_, r2⟩
    rw [(qz_one hs).1, if_pos (r1 nx)]
  · rw [(o3 c).2, o1, if_neg c]
    exact ⟨fun z => absurd rfl z, by omega⟩
theorem qz_tape (w : Nat) (IV : pxInv T) (IS : pxInvS S) (n3 : 3 ≤ T.1.length) (o : S.2.1.length ≤ 96) : qzTp (qzt w) T S := by
  have w1 := (IV.n1 n3).1
  match w with
  | 0 => exact qz_tp1 qz_p0.1 qz_p0.2.2.1 (by decide) qz_re0 IV IS n3 o
  | 1 => exact qz_tp1 qz_p1.1 qz_p1.2.2.1 (by decide) qz_re1 IV IS n3 o
  | 2 => exact qz_tp1 qz_p2.1 qz_p2.2.2.1 (by decide) qz_re2 IV IS n3 o
  | 3 => exact qz_tp1 qz_p3.1 qz_p3.2.2.1 (by decide) qz_re3 IV IS n3 o
  | 4 => exact qz_tp1 qz_p4.1 qz_p4.2.2.1 (by decide) qz_re4 IV IS n3 o
  | 5 => exact qz_tp1 qz_p5.1 qz_p5.2.2.1 (by decide) qz_re5 IV IS n3 o
  | 6 => exact qz_tp1 qz_p6.1 qz_p6.2.2.1 (by decide) qz_re6 IV IS n3 o
  | 7 => exact qz_tp1 qz_p7.1 qz_p7.2.2.1 (by decide) qz_re7 IV IS n3 o
  | 8 => exact qz_tp1 qz_p8.1 qz_p8.2.2.1 (by decide) qz_re8 IV IS n3 o
  | 9 => exact qz_tp1 qz_p9.1 qz_p9.2.2.1 (by decide) qz_re9 IV IS n3 o
  | 10 => exact qz_tp1 qz_p10.1 qz_p10.2.2.1 (by decide) qz_re10 IV IS n3 o
  | 11 => exact qz_tp1 qz_p11.1 qz_p11.2.2.1 (by decide) qz_re11 IV IS n3 o
  | 12 =>
    intro call D
    show ((pxRunL qt12 (pxOrds qt12 61 0).2 call 61 0 0 0 T S false D).1 ≠ 0 → ∀ (nx call2 : Int) (D2 : List (Int × pxSn)), (pxRunL qt12 (pxOrds qt12 61 0).2 call2 61 0 0 0 (T.1, T.2.1, T.2.2.1, nx) (pxRunL qt12 (pxOrds qt12 61 0).2 call 61 0 0 0 T S false D).2.2.2.1 false D2).1 = (pxRunL qt12 (pxOrds qt12 61 0).2 call 61 0 0 0 T S false D).1) ∧ (pxRunL qt12 (pxOrds qt12 61 0).2 call 61 0 0 0 T S false D).2.2.2.1.2.1.length ≤ S.2.1.length + 2
    rw [qz_p12.1]
    have k := qz_run12 (T := T) (S := S) (call := call) (D := D) (by omega)
    show ((pxRunL qt12 [(0, []), (2, [])] call 61 0 0 0 T S false D).1 ≠ 0 → ∀ (nx call2 : Int) (D2 : List (Int × pxSn)), (pxRunL qt12 [(0, []), (2, [])] call2 61 0 0 0 (T.1, T.2.1, T.2.2.1, nx) (pxRunL qt12 [(0, []), (2, [])] call 61 0 0 0 T S false D).2.2.2.1 false D2).1 = (pxRunL qt12 [(0, []), (2, [])] call 61 0 0 0 T S false D).1) ∧ (pxRunL qt12 [(0, []), (2, [])] call 61 0 0 0 T S false D).2.2.2.1.2.1.length ≤ S.2.1.length + 2
    rw [k.2, k.1]
    refine ⟨fun _ nx call2 D2 => ?_, by omega⟩
    exact (qz_run12 (T := (T.1, T.2.1, T.2.2.1, nx)) (by show 0 ≤ T.2.2.1; omega)).1
  | 13 => exact qz_tp1 qz_p13.1 qz_p13.2.2.1 (by decide) qz_re13 IV IS n3 o
  | 14 => exact qz_tp1 qz_p14.1 qz_p14.2.2.1 (by decide) qz_re14 IV IS n3 o
  | 15 =>
    intro call D
    show ((pxRunL qt15 (pxOrds qt15 61 0).2 call 61 0 0 0 T S false D).1 ≠ 0 → ∀ (nx call2 : Int) (D2 : List (Int × pxSn)), (pxRunL qt15 (pxOrds qt15 61 0).2 call2 61 0 0 0 (T.1, T.2.1, T.2.2.1, nx) (pxRunL qt15 (pxOrds qt15 61 0).2 call 61 0 0 0 T S false D).2.2.2.1 false D2).1 = (pxRunL qt15 (pxOrds qt15 61 0).2 call 61 0 0 0 T S false D).1) ∧ (pxRunL qt15 (pxOrds qt15 61 0).2 call 61 0 0 0 T S false D).2.2.2.1.2.1.length ≤ S.2.1.length + 2
    rw [qz_p15.1]
    have k := qz_run15 (T := T) (S := S) (call := call) (D := D) n3
    show ((pxRunL qt15 [(0, []), (4, [])] call 61 0 0 0 T S false D).1 ≠ 0 → ∀ (nx call2 : Int) (D2 : List (Int × pxSn)), (pxRunL qt15 [(0, []), (4, [])] call2 61 0 0 0 (T.1, T.2.1, T.2.2.1, nx) (pxRunL qt15 [(0, []), (4, [])] call 61 0 0 0 T S false D).2.2.2.1 false D2).1 = (pxRunL qt15 [(0, []), (4, [])] call 61 0 0 0 T S false D).1) ∧ (pxRunL qt15 [(0, []), (4, [])] call 61 0 0 0 T S false D).2.2.2.1.2.1.length ≤ S.2.1.length + 2
    rw [k.2, k.1]
    refine ⟨fun _ nx call2 D2 => ?_, by omega⟩
    exact (qz_run15 (T := (T.1, T.2.1, T.2.2.1, nx)) n3).1
  | 16 => exact qz_tp1 qz_p16.1 qz_p16.2.2.1 (by decide) qz_re16 IV IS n3 o
  | 17 => exact qz_tp1 qz_p17.1 qz_p17.2.2.1 (by decide) qz_re17 IV IS n3 o
  | w + 18 => exact qz_tp1 qz_p18.1 qz_p18.2.2.1 (by decide) qz_re18 IV IS n3 o
/-- moved or sorted: the same lines -/
theorem qz_tperm {w : Nat} (h : w = 2 ∨ w = 3) (n3 : 3 ≤ T.1.length) : (pxRunL (qzt w) (pxOrds (qzt w) 61 0).2 call 61 0 0 0 T S false D).2.2.1.1.Perm T.1 := by
  have key : ∀ (s : List Int) (c : Int), pxOrds s 61 0 = (-1, [(0, [])]) → pxAc s 0 = c → ¬ pxSteer c = true → (qzS s 0 [] T S).2.1.1.Perm T.1 → (pxRunL s (pxOrds s 61 0).2 call 61 0 0 0 T S false D).2.2.1.1.Perm T.1 := by
    intro s c e hc hs p
    rw [e]
    show (pxRunL s [(0, [])] call 61 0 0 0 T S false D).2.2.1.1.Perm T.1
    obtain ⟨o1, o2, o3⟩ := qz_one (call := call) (T := T) (S := S) (D := D) (ps := []) (s := s) (p := 0) (by rw [hc]; exact hs)
    by_cases g : (qzS s 0 [] T S).1 = 0
    · rw [(o2 g).1]; exact p
    · rw [(o3 g).1]
  rcases h with h | h
  · subst h
    exact key qt2 109 qz_p2.1 qz_p2.2.2.1 (by decide) (qz_pm2 n3)
  · subst h
    exact key qt3 111 qz_p3.1 qz_p3.2.2.1 (by decide) (qz_pm3 n3)
/-- a tape's orders are none that jump, and two at most -/
def qzOrd (w : Nat) : Bool := decide ((qzt w).length ≤ 60) && (qzt w).all (fun c => decide (32 ≤ c ∧ c ≤ 126)) && decide ((pxOrds (qzt w) 61 0).1 = -1) && decide ((pxOrds (qzt w) 61 0).2.length ≤ 2) && (pxOrds (qzt w) 61 0).2.all (fun t => decide (¬ (pxAc (qzt w) t.1 = 58 ∨ pxAc (qzt w) t.1 = 98 ∨ pxAc (qzt w) t.1 = 84 ∨ pxAc (qzt w) t.1 = 113)))
theorem qz_ordB : ∀ w, w < 19 → qzOrd w = true := by decide +kernel
theorem qz_ord {w : Nat} (h : w < 19) : pxTp (qzt w) ∧ (pxOrds (qzt w) 61 0).1 = -1 ∧ (pxOrds (qzt w) 61 0).2.length ≤ 2 ∧ ∀ t ∈ (pxOrds (qzt w) 61 0).2, ¬ (pxAc (qzt w) t.1 = 58 ∨ pxAc (qzt w) t.1 = 98 ∨ pxAc (qzt w) t.1 = 84 ∨ pxAc (qzt w) t.1 = 113) := by
  have k := qz_ordB w h
  unfold qzOrd at k
  rw [Bool.and_eq_true, Bool.and_eq_true, Bool.and_eq_true, Bool.and_eq_true] at k
  obtain ⟨⟨⟨⟨k1, k2⟩, k3⟩, k4⟩, k5⟩ := k
  exact ⟨⟨of_decide_eq_true k1, fun c hc => of_decide_eq_true (List.all_eq_true.mp k2 c hc)⟩, of_decide_eq_true k3, of_decide_eq_true k4, fun t ht => of_decide_eq_true (List.all_eq_true.mp k5 t ht)⟩
end
