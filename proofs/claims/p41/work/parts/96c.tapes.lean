/-! the tapes that the law types, and what their orders do -/
def qt0 : List Int := [37, 115, 47, 97, 47, 98, 98, 47, 103]
def qt1 : List Int := [103, 47, 98, 47, 100]
def qt2 : List Int := [49, 44, 50, 109, 36]
def qt3 : List Int := [37, 111, 49]
def qt4 : List Int := [37, 118, 51]
def qt5 : List Int := [37, 108]
def qt6 : List Int := [49, 44, 50, 106]
def qt7 : List Int := [49, 116, 36]
def qt8 : List Int := [71, 47, 97, 47, 123, 62, 49, 59, 107, 97, 125]
def qt9 : List Int := [37, 101]
def qt10 : List Int := [37, 104]
def qt11 : List Int := [50, 44, 51, 99, 120, 32, 121, 124, 122]
def qt12 : List Int := [78, 59, 100]
def qt13 : List Int := [63, 97, 63, 100]
def qt14 : List Int := [47, 94, 98, 47, 115, 47, 98, 36, 47, 99, 47]
def qt15 : List Int := [37, 79, 48, 59, 49, 107, 99]
def qt16 : List Int := [117]
def qt17 : List Int := [49, 105]
def qt18 : List Int := [36, 45, 49, 44, 36, 110]
def qzt (w : Nat) : List Int := match w with
  | 0 => qt0 | 1 => qt1 | 2 => qt2 | 3 => qt3 | 4 => qt4 | 5 => qt5 | 6 => qt6 | 7 => qt7 | 8 => qt8 | 9 => qt9 | 10 => qt10 | 11 => qt11 | 12 => qt12 | 13 => qt13 | 14 => qt14 | 15 => qt15 | 16 => qt16 | 17 => qt17 | _ => qt18
def qtS : List Int := [37, 115, 47, 97, 47, 98, 99, 47, 59, 37, 122, 47, 98, 99, 47, 99, 98, 47, 59, 37, 62, 49, 59, 37, 60, 50]
def qtE : List Int := [37, 115, 47, 98, 42, 99, 47, 38, 100, 47]
def qtA : List Int := [115, 47, 98, 42, 99, 47, 38, 100, 47]
def qtF : List Int := [97, 42, 98]
section
variable {s : List Int} {p : Int} {ps : List Int} {T : pxTx} {S : pxSto} {a f l : Int} {rep : Bool}
theorem qz_do1 (h : ¬ (pxP s a = 62 ∨ pxP s a = 115 ∨ pxP s a = 122 ∨ pxP s a = 60)) : (pxDo s a f l T S rep).1 = pxDo1 s a f l T S := by
  unfold pxDo
  rw [if_neg h]
theorem qz_doC (h : pxP s a = 62 ∨ pxP s a = 115 ∨ pxP s a = 122 ∨ pxP s a = 60) : pxDo s a f l T S rep = pxDoC s a f l T S rep := by
  unfold pxDo
  rw [if_pos h]
theorem qz_d105 (h : pxP s a = 105) : (pxDo s a f l T S rep).1 = pxDoT (pxSpBring false f f l (pxTold s 61 (a + 1)) T) S := by
  rw [qz_do1 (by omega)]; unfold pxDo1; rw [h]; rfl
theorem qz_d99 (h : pxP s a = 99) : (pxDo s a f l T S rep).1 = pxDoT (pxSpBring true f f l (pxTold s 61 (a + 1)) T) S := by
  rw [qz_do1 (by omega)]; unfold pxDo1; rw [h]; rfl
theorem qz_d117 (h : pxP s a = 117) : (pxDo s a f l T S rep).1 = if S.1 = [] then (5, T, S) else pxDoT (pxSpBring false (l + 1) f l S.1 T) S := by
  rw [qz_do1 (by omega)]; unfold pxDo1; rw [h]; rfl
theorem qz_d101 (h : pxP s a = 101) : (pxDo s a f l T S rep).1 = pxSpExch f l T S := by
  rw [qz_do1 (by omega)]; unfold pxDo1; rw [h]; rfl
theorem qz_d100 (h : pxP s a = 100) : (pxDo s a f l T S rep).1 = (0, pxSpDel f l T, S) := by
  rw [qz_do1 (by omega)]; unfold pxDo1; rw [h]; rfl
theorem qz_d106 (h : pxP s a = 106) : (pxDo s a f l T S rep).1 = pxDoT (pxSpJoin f l T) S := by
  rw [qz_do1 (by omega)]; unfold pxDo1; rw [h]; rfl
theorem qz_d118 (h : pxP s a = 118) : (pxDo s a f l T S rep).1 = pxDoT (pxSpPart (pxNumV s (a + 1)) f l T) S := by
  rw [qz_do1 (by omega)]; unfold pxDo1; rw [h]; rfl
theorem qz_d108 (h : pxP s a = 108) : (pxDo s a f l T S rep).1 = (0, pxSpUniq f l T, S) := by
  rw [qz_do1 (by omega)]; unfold pxDo1; rw [h]; rfl
theorem qz_d109 (h : pxP s a = 109) : (pxDo s a f l T S rep).1 = pxDoT (pxSpMove f l (pxLoc s (a + 1) T) T) S := by
  rw [qz_do1 (by omega)]; unfold pxDo1; rw [h]; rfl
theorem qz_d116 (h : pxP s a = 116) : (pxDo s a f l T S rep).1 = pxDoT (pxSpCopy f l (pxLoc s (a + 1) T) T) S := by
  rw [qz_do1 (by omega)]; unfold pxDo1; rw [h]; rfl
theorem qz_d111 (h : pxP s a = 111) : (pxDo s a f l T S rep).1 = (0, pxSpSort (pxNumV s (a + 1)) false f l T, S) := by
  rw [qz_do1 (by omega)]; unfold pxDo1; rw [h]; rfl
theorem qz_d79 (h : pxP s a = 79) : (pxDo s a f l T S rep).1 = (0, pxSpSort (pxNumV s (a + 1)) true f l T, S) := by
  rw [qz_do1 (by omega)]; unfold pxDo1; rw [h]; rfl
theorem qz_d104 (h : pxP s a = 104) : (pxDo s a f l T S rep).1 = pxSpHold f l T S := by
  rw [qz_do1 (by omega)]; unfold pxDo1 pxSpTell; rw [h]; rfl
theorem qz_d107 (h : pxP s a = 107) : (pxDo s a f l T S rep).1 = pxSpMark (pxP s (a + 1) - 97) l T S := by
  rw [qz_do1 (by omega)]; unfold pxDo1 pxSpTell; rw [h]; rfl
theorem qz_d110 (h : pxP s a = 110) : (pxDo s a f l T S rep).1 = pxSpPr (fun r => pxDig r ++ [32]) f l T S := by
  rw [qz_do1 (by omega)]; unfold pxDo1 pxSpTell; rw [h]; rfl
/-- ranges -/
theorem qz_rE {c w : Int} (f1 : 1 ≤ f) (fl : f ≤ l) : pxRngE c w f l = (0, f, l) := by
  unfold pxRngE
  rw [if_neg (by omega), if_neg (by omega)]
theorem qz_rP (h : (pxWh s p).2.2.1 = 1) (n1 : 0 < (T.1.length : Int)) : pxRng s p T = (0, 1, (T.1.length : Int)) := by
  unfold pxRng
  rw [if_pos (Or.inl h), if_pos (Or.inl n1)]
theorem qz_rW (h : (pxWh s p).2.2.1 = 0) (c : pxAc s p = 103 ∨ pxAc s p = 71) : pxRng s p T = (0, 1, (T.1.length : Int)) := by
  unfold pxRng
  rw [if_pos (Or.inr ⟨h, by omega⟩), if_pos (Or.inr (by omega))]
theorem qz_rN (h : (pxWh s p).2.2.1 = 0) (c : ¬ (pxAc s p = 103 ∨ pxAc s p = 71 ∨ pxAc s p = 119)) (w : 1 ≤ T.2.2.1) : pxRng s p T = (0, T.2.2.1, T.2.2.1) := by
  unfold pxRng
  rw [if_neg (by omega), if_pos h]
  exact qz_rE w (Int.le_refl _)
theorem qz_r2 (h : (pxWh s p).2.2.1 = 2) : pxRng s p T = pxRngE (pxAc s p) 2 (pxLoc s p T) (pxLoc s p T) := by
  unfold pxRng
  rw [if_neg (by omega), if_neg (by omega), if_neg (by omega), h]
theorem qz_r3 (h : (pxWh s p).2.2.1 = 3) (g : 0 ≤ pxLoc s p T) : pxRng s p T = pxRngE (pxAc s p) 3 (pxLoc s p T) (pxLoc s (pxWh s p).2.2.2 T) := by
  unfold pxRng
  rw [if_neg (by omega), if_neg (by omega), if_pos ⟨h, g⟩]
theorem qz_lD {q k : Int} (h : pxIsDg (pxP s q) = true) (v : pxNumV s q = k) (z : pxAddrS s q = 0) (k0 : 0 ≤ k) (k1 : k ≤ (T.1.length : Int)) : pxLoc s q T = k := by
  have e : pxLocB s q T = k := by
    unfold pxLocB
    rw [if_pos h, v]
  unfold pxLoc
  rw [e, z, if_neg (by omega), if_neg (by omega)]
  omega
theorem qz_lE {q z : Int} (h : pxP s q = 36) (e0 : pxAddrS s q = z) (k0 : 0 ≤ (T.1.length : Int) + z) (k1 : z ≤ 0) : pxLoc s q T = (T.1.length : Int) + z := by
  have e : pxLocB s q T = (T.1.length : Int) := by
    unfold pxLocB
    rw [if_neg (by rw [h]; decide), if_pos h]
  unfold pxLoc
  rw [e, e0, if_neg (by omega), if_neg (by omega)]
theorem qz_s {r : Int × Int × Int} (hr : pxRng s p T = r) (r0 : r.1 = 0) (hg : ¬ (pxAc s p = 103 ∨ pxAc s p = 71 ∨ pxAc s p = 123)) : qzS s p ps T S = (pxDo s (pxWh s p).2.1 r.2.1 r.2.2 T S false).1 := by
  unfold qzS
  rw [hr, if_neg (fun z => z r0), if_neg hg]
theorem qz_sG {r : Int × Int × Int} (hr : pxRng s p T = r) (r0 : r.1 = 0) (hg : pxAc s p = 103 ∨ pxAc s p = 71 ∨ pxAc s p = 123) : qzS s p ps T S = ((pxGp s p ps r.2.1 r.2.2 1 T S false).1, (pxGp s p ps r.2.1 r.2.2 1 T S false).2.2.1, (pxGp s p ps r.2.1 r.2.2 1 T S false).2.2.2.1) := by
  unfold qzS
  rw [hr, if_neg (fun z => z r0), if_pos hg]
theorem qz_sF (hr : (pxRng s p T).1 ≠ 0) : qzS s p ps T S = ((pxRng s p T).1, T, S) := by
  unfold qzS
  rw [if_pos hr]
end
/-- what is asked of an order alone: done once more behind its undoing it is done as well; the out grows by two rows at most -/
def qzRe (s : List Int) (p : Int) (ps : List Int) : Prop := ∀ (T : pxTx) (S : pxSto), pxInv T → pxInvS S → 3 ≤ T.1.length → S.2.1.length ≤ 96 → (qzS s p ps T S).1 = 0 → (∀ nx : Int, (qzS s p ps (T.1, T.2.1, T.2.2.1, nx) (qzS s p ps T S).2.2).1 = 0) ∧ (qzS s p ps T S).2.2.2.1.length ≤ S.2.1.length + 2
theorem qz_same {s : List Int} {p : Int} {ps : List Int} (h : ∀ (T : pxTx) (S : pxSto), pxInv T → 3 ≤ T.1.length → (qzS s p ps T S).2.2 = S ∧ ((qzS s p ps T S).1 = 0 → ∀ nx : Int, (qzS s p ps (T.1, T.2.1, T.2.2.1, nx) S).1 = 0)) : qzRe s p ps := by
  intro T S IV IS n3 o e
  obtain ⟨h1, h2⟩ := h T S IV n3
  rw [h1]
  exact ⟨h2 e, by omega⟩
section
variable {T : pxTx} {S : pxSto}
theorem pxInv.n1 (I : pxInv T) (n3 : 3 ≤ T.1.length) : 1 ≤ T.2.2.1 ∧ T.2.2.1 ≤ (T.1.length : Int) := ⟨I.2.2.2.2.1 (by omega), I.2.2.2.1⟩
/- %s/a/bb/g -/
theorem qz_p0 : (pxOrds qt0 61 0) = (-1, [(0, [])]) ∧ pxWh qt0 0 = (true, 1, 1, 0) ∧ pxAc qt0 0 = 115 ∧ pxP qt0 1 = 115 := by decide +kernel
theorem qz_s0 (n3 : 3 ≤ T.1.length) : qzS qt0 0 [] T S = (pxDoC qt0 1 1 (T.1.length : Int) T S false).1 := by
  obtain ⟨-, h, c, e⟩ := qz_p0
  rw [qz_s (qz_rP (by rw [h]) (by omega)) rfl (by rw [c]; decide), h]
  exact congrArg (·.1) (qz_doC (Or.inr (Or.inl e)))
theorem qz_re0 : qzRe qt0 0 [] := qz_same fun T S IV n3 => by
  rw [qz_s0 n3]
  refine ⟨rfl, fun e nx => ?_⟩
  rw [qz_s0 (T := (T.1, T.2.1, T.2.2.1, nx)) n3]
  exact e
/- 1,2m$ -/
theorem qz_p2 : (pxOrds qt2 61 0) = (-1, [(0, [])]) ∧ pxWh qt2 0 = (true, 3, 3, 2) ∧ pxAc qt2 0 = 109 ∧ pxP qt2 3 = 109 ∧ (pxIsDg (pxP qt2 0) = true ∧ pxNumV qt2 0 = 1 ∧ pxAddrS qt2 0 = 0) ∧ (pxIsDg (pxP qt2 2) = true ∧ pxNumV qt2 2 = 2 ∧ pxAddrS qt2 2 = 0) ∧ pxP qt2 4 = 36 ∧ pxAddrS qt2 4 = 0 := by decide +kernel
theorem qz_s2 (n3 : 3 ≤ T.1.length) : qzS qt2 0 [] T S = pxDoT (pxSpMove 1 2 (T.1.length : Int) T) S := by
  obtain ⟨-, h, c, e, ⟨a1, a2, a3⟩, ⟨b1, b2, b3⟩, d1, d2⟩ := qz_p2
  have l1 : pxLoc qt2 0 T = 1 := qz_lD a1 a2 a3 (by omega) (by omega)
  have l2 : pxLoc qt2 2 T = 2 := qz_lD b1 b2 b3 (by omega) (by omega)
  have l3 : pxLoc qt2 4 T = (T.1.length : Int) + 0 := qz_lE d1 d2 (by omega) (by omega)
  have r : pxRng qt2 0 T = (0, 1, 2) := by
    rw [qz_r3 (by rw [h]) (by rw [l1]; decide), l1, h]
    show pxRngE _ 3 1 (pxLoc qt2 2 T) = _
    rw [l2]
    exact qz_rE (by omega) (by omega)
  rw [qz_s r rfl (by rw [c]; decide), h]
  refine (qz_d109 e).trans ?_
  show pxDoT (pxSpMove 1 2 (pxLoc qt2 4 T) T) S = _
  rw [l3, Int.add_zero]
theorem qz_m2 (n3 : 3 ≤ T.1.length) : pxSpMove 1 2 (T.1.length : Int) T = (0, (pxIns (pxDel T.1 1 (2 - 1 + 1)) (pxMoA 1 2 (T.1.length : Int)) (pxSub T.1 1 2), T.2.1, pxMoA 1 2 (T.1.length : Int) + (2 - 1 + 1) - 1, T.2.2.2)) := by
  unfold pxSpMove
  rw [if_neg (by omega), if_neg (by omega)]
theorem qz_re2 : qzRe qt2 0 [] := qz_same fun T S IV n3 => by
  rw [qz_s2 n3]
  refine ⟨rfl, fun e nx => ?_⟩
  rw [qz_s2 (T := (T.1, T.2.1, T.2.2.1, nx)) n3, qz_m2 (T := (T.1, T.2.1, T.2.2.1, nx)) n3]
  rfl
theorem qz_pm2 (n3 : 3 ≤ T.1.length) : (qzS qt2 0 [] T S).2.1.1.Perm T.1 := by
  rw [qz_s2 n3, qz_m2 n3]
  exact pxIns_perm.trans (pxDel_perm (y := 2) (by omega) (by omega) (by omega)).symm
/- %o1 -/
theorem qz_p3 : (pxOrds qt3 61 0) = (-1, [(0, [])]) ∧ pxWh qt3 0 = (true, 1, 1, 0) ∧ pxAc qt3 0 = 111 ∧ pxP qt3 1 = 111 := by decide +kernel
theorem qz_s3 (n3 : 3 ≤ T.1.length) : qzS qt3 0 [] T S = (0, pxSpSort (pxNumV qt3 2) false 1 (T.1.length : Int) T, S) := by
  obtain ⟨-, h, c, e⟩ := qz_p3
  rw [qz_s (qz_rP (by rw [h]) (by omega)) rfl (by rw [c]; decide), h]
  exact qz_d111 e
theorem qz_re3 : qzRe qt3 0 [] := qz_same fun T S IV n3 => by
  rw [qz_s3 n3]
  refine ⟨rfl, fun e nx => ?_⟩
  rw [qz_s3 (T := (T.1, T.2.1, T.2.2.1, nx)) n3]
theorem qz_pm3 (n3 : 3 ≤ T.1.length) : (qzS qt3 0 [] T S).2.1.1.Perm T.1 := by
  rw [qz_s3 n3]
  exact pxSort_perm (by omega) _ _ _ (by omega) (by omega)
/- %v3 -/
theorem qz_p4 : (pxOrds qt4 61 0) = (-1, [(0, [])]) ∧ pxWh qt4 0 = (true, 1, 1, 0) ∧ pxAc qt4 0 = 118 ∧ pxP qt4 1 = 118 := by decide +kernel
theorem qz_s4 (n3 : 3 ≤ T.1.length) : qzS qt4 0 [] T S = pxDoT (pxSpPart (pxNumV qt4 2) 1 (T.1.length : Int) T) S := by
  obtain ⟨-, h, c, e⟩ := qz_p4
  rw [qz_s (qz_rP (by rw [h]) (by omega)) rfl (by rw [c]; decide), h]
  exact qz_d118 e
theorem qz_part {n : Int} : ∀ (m : Nat) (x : Int) (ls : pxLs) (nx nx2 : Int) (ls2 : pxLs), pxRs ls = pxRs ls2 → ((pxPart n m x ls nx).isSome = (pxPart n m x ls2 nx2).isSome)
  | 0, x, ls, nx, nx2, ls2, e => rfl
  | m + 1, x, ls, nx, nx2, ls2, e => by
    have el : ls.length = ls2.length := by
      have := congrArg List.length e
      rw [pxRs_len, pxRs_len] at this
      exact this
    have eU : ∀ (l : pxLs) (z : Int), pxPart n (m + 1) x l z = if pxLn (pxRs l) x ≤ n then pxPart n m (x + 1) l z else if 40 ≤ l.length then none else pxPart n m (x + 2) (pxIns (pxSet l x (pxId l x, (pxRw (pxRs l) x).take n.toNat)) (x + 1) [(z, (pxRw (pxRs l) x).drop n.toNat)]) (z + 1) := fun _ _ => rfl
    rw [eU ls nx, eU ls2 nx2, ← e, ← el]
    by_cases c : pxLn (pxRs ls) x ≤ n
    · rw [if_pos c, if_pos c]
      exact qz_part m _ _ _ _ _ e
    · rw [if_neg c, if_neg c]
      by_cases d : 40 ≤ ls.length
      · rw [if_pos d, if_pos d]
      · rw [if_neg d, if_neg d]
        refine qz_part m _ _ _ _ _ ?_
        have k : ∀ (l : pxLs) (z : Int × List Int) (w : pxLs), pxRs (pxIns (pxSet l x z) (x + 1) w) = pxIns (pxSet (pxRs l) x z.2) (x + 1) (pxRs w) := fun l z w => by
          unfold pxIns pxSet pxRs
          rw [List.map_append, List.map_append, List.map_take, List.map_drop, List.map_set]
        rw [k, k, e]
        rfl
theorem qz_re4 : qzRe qt4 0 [] := qz_same fun T S IV n3 => by
  rw [qz_s4 n3]
  refine ⟨?_, fun e nx => ?_⟩
  · rfl
  · rw [qz_s4 (T := (T.1, T.2.1, T.2.2.1, nx)) n3]
    have k := qz_part (n := pxNumV qt4 2) ((T.1.length : Int) - 1 + 1).toNat 1 T.1 T.2.2.2 nx T.1 rfl
    have e : (pxSpPart (pxNumV qt4 2) 1 (T.1.length : Int) T).1 = 0 := e
    show (pxSpPart (pxNumV qt4 2) 1 (T.1.length : Int) (T.1, T.2.1, T.2.2.1, nx)).1 = 0
    have e3 : pxSpPart (pxNumV qt4 2) 1 (T.1.length : Int) (T.1, T.2.1, T.2.2.1, nx) = (pxPart (pxNumV qt4 2) ((T.1.length : Int) - 1 + 1).toNat 1 T.1 nx).elim (4, (T.1, T.2.1, T.2.2.1, nx)) (fun v => (0, (v.1, T.2.1, v.2.2 - 1, v.2.1))) := rfl
    rw [e3]
    unfold pxSpPart at e
    cases h1 : pxPart (pxNumV qt4 2) ((T.1.length : Int) - 1 + 1).toNat 1 T.1 T.2.2.2 with
    | none =>
      rw [h1] at e
      exact absurd (show (4 : Int) = 0 from e) (by decide)
    | some v =>
      rw [h1] at k
      obtain ⟨v2, h2⟩ := Option.isSome_iff_exists.mp k.symm
      rw [h2]
      rfl
/- %l -/
theorem qz_p5 : (pxOrds qt5 61 0) = (-1, [(0, [])]) ∧ pxWh qt5 0 = (true, 1, 1, 0) ∧ pxAc qt5 0 = 108 ∧ pxP qt5 1 = 108 := by decide +kernel
theorem qz_s5 (n3 : 3 ≤ T.1.length) : qzS qt5 0 [] T S = (0, pxSpUniq 1 (T.1.length : Int) T, S) := by
  obtain ⟨-, h, c, e⟩ := qz_p5
  rw [qz_s (qz_rP (by rw [h]) (by omega)) rfl (by rw [c]; decide), h]
  exact qz_d108 e
theorem qz_re5 : qzRe qt5 0 [] := qz_same fun T S IV n3 => by
  rw [qz_s5 n3]
  refine ⟨rfl, fun e nx => ?_⟩
  rw [qz_s5 (T := (T.1, T.2.1, T.2.2.1, nx)) n3]
/- 1,2j -/
theorem qz_p6 : (pxOrds qt6 61 0) = (-1, [(0, [])]) ∧ pxWh qt6 0 = (true, 3, 3, 2) ∧ pxAc qt6 0 = 106 ∧ pxP qt6 3 = 106 ∧ (pxIsDg (pxP qt6 0) = true ∧ pxNumV qt6 0 = 1 ∧ pxAddrS qt6 0 = 0) ∧ (pxIsDg (pxP qt6 2) = true ∧ pxNumV qt6 2 = 2 ∧ pxAddrS qt6 2 = 0) := by decide +kernel
theorem qz_s6 (n3 : 3 ≤ T.1.length) : qzS qt6 0 [] T S = pxDoT (pxSpJoin 1 2 T) S := by
  obtain ⟨-, h, c, e, ⟨a1, a2, a3⟩, ⟨b1, b2, b3⟩⟩ := qz_p6
  have l1 : pxLoc qt6 0 T = 1 := qz_lD a1 a2 a3 (by omega) (by omega)
  have l2 : pxLoc qt6 2 T = 2 := qz_lD b1 b2 b3 (by omega) (by omega)
  have r : pxRng qt6 0 T = (0, 1, 2) := by
    rw [qz_r3 (by rw [h]) (by rw [l1]; decide), l1, h]
    show pxRngE _ 3 1 (pxLoc qt6 2 T) = _
    rw [l2]
    exact qz_rE (by omega) (by omega)
  rw [qz_s r rfl (by rw [c]; decide), h]
  exact qz_d106 e
theorem qz_re6 : qzRe qt6 0 [] := qz_same fun T S IV n3 => by
  rw [qz_s6 n3]
  refine ⟨rfl, fun e nx => ?_⟩
  rw [qz_s6 (T := (T.1, T.2.1, T.2.2.1, nx)) n3]
  have e : (pxSpJoin 1 2 T).1 = 0 := e
  show (pxSpJoin 1 2 (T.1, T.2.1, T.2.2.1, nx)).1 = 0
  unfold pxSpJoin at e ⊢
  by_cases c : (T.1.length : Int) < pxJoE 1 2
  · rw [if_pos c] at e
    exact absurd (show (1 : Int) = 0 from e) (by decide)
  · rw [if_neg c] at e
    rw [if_neg (show ¬ (((T.1, T.2.1, T.2.2.1, nx) : pxTx).1.length : Int) < pxJoE 1 2 from c)]
    by_cases d : 30 < (pxJoW 1 2 T.1).length
    · rw [if_pos d] at e
      exact absurd (show (4 : Int) = 0 from e) (by decide)
    · rw [if_neg (show ¬ 30 < (pxJoW 1 2 ((T.1, T.2.1, T.2.2.1, nx) : pxTx).1).length from d)]
/- 1t$ -/
theorem qz_p7 : (pxOrds qt7 61 0) = (-1, [(0, [])]) ∧ pxWh qt7 0 = (true, 1, 2, 0) ∧ pxAc qt7 0 = 116 ∧ pxP qt7 1 = 116 ∧ (pxIsDg (pxP qt7 0) = true ∧ pxNumV qt7 0 = 1 ∧ pxAddrS qt7 0 = 0) ∧ pxP qt7 2 = 36 ∧ pxAddrS qt7 2 = 0 := by decide +kernel
theorem qz_s7 (n3 : 3 ≤ T.1.length) : qzS qt7 0 [] T S = pxDoT (pxSpCopy 1 1 (T.1.length : Int) T) S := by
  obtain ⟨-, h, c, e, ⟨a1, a2, a3⟩, d1, d2⟩ := qz_p7
  have l1 : pxLoc qt7 0 T = 1 := qz_lD a1 a2 a3 (by omega) (by omega)
  have l3 : pxLoc qt7 2 T = (T.1.length : Int) + 0 := qz_lE d1 d2 (by omega) (by omega)
  have r : pxRng qt7 0 T = (0, 1, 1) := by
    rw [qz_r2 (by rw [h]), l1]
    exact qz_rE (by omega) (by omega)
  rw [qz_s r rfl (by rw [c]; decide), h]
  refine (qz_d116 e).trans ?_
  show pxDoT (pxSpCopy 1 1 (pxLoc qt7 2 T) T) S = _
  rw [l3, Int.add_zero]
theorem qz_re7 : qzRe qt7 0 [] := qz_same fun T S IV n3 => by
  rw [qz_s7 n3]
  refine ⟨rfl, fun e nx => ?_⟩
  rw [qz_s7 (T := (T.1, T.2.1, T.2.2.1, nx)) n3]
  have e : (pxSpCopy 1 1 (T.1.length : Int) T).1 = 0 := e
  show (pxSpCopy 1 1 (T.1.length : Int) (T.1, T.2.1, T.2.2.1, nx)).1 = 0
  unfold pxSpCopy at e ⊢
  rw [if_neg (by omega)] at e ⊢
  by_cases c : 40 < (T.1.length : Int) + (1 - 1 + 1)
  · rw [if_pos c] at e
    exact absurd (show (4 : Int) = 0 from e) (by decide)
  · rw [if_neg (show ¬ 40 < (((T.1, T.2.1, T.2.2.1, nx) : pxTx).1.length : Int) + (1 - 1 + 1) from c)]
/- %e -/
theorem qz_p9 : (pxOrds qt9 61 0) = (-1, [(0, [])]) ∧ pxWh qt9 0 = (true, 1, 1, 0) ∧ pxAc qt9 0 = 101 ∧ pxP qt9 1 = 101 := by decide +kernel
theorem qz_s9 (n3 : 3 ≤ T.1.length) : qzS qt9 0 [] T S = pxSpExch 1 (T.1.length : Int) T S := by
  obtain ⟨-, h, c, e⟩ := qz_p9
  rw [qz_s (qz_rP (by rw [h]) (by omega)) rfl (by rw [c]; decide), h]
  exact qz_d101 e
theorem qz_x9 (n3 : 3 ≤ T.1.length) (ne : S.1 ≠ []) (l40 : S.1.length ≤ 40) : (pxSpExch 1 (T.1.length : Int) T S).1 = 0 := by
  unfold pxSpExch
  rw [if_neg ne]
  show (pxSpBring true 1 1 (T.1.length : Int) S.1 T).1 = 0
  unfold pxSpBring
  rw [if_neg (by rw [if_pos rfl]; omega)]
theorem qz_re9 : qzRe qt9 0 [] := by
  intro T S IV IS n3 o e
  rw [qz_s9 n3] at e ⊢
  by_cases c : S.1 = []
  · unfold pxSpExch at e
    rw [if_pos c] at e
    exact absurd (show (5 : Int) = 0 from e) (by decide)
  · have eS : (pxSpExch 1 (T.1.length : Int) T S).2.2 = (pxSub (pxRs T.1) 1 (T.1.length : Int), S.2.1, S.2.2) := by
      unfold pxSpExch
      rw [if_neg c]
    rw [eS]
    refine ⟨fun nx => ?_, by show S.2.1.length ≤ S.2.1.length + 2; omega⟩
    rw [qz_s9 (T := (T.1, T.2.1, T.2.2.1, nx)) n3]
    have ln := pxSub_len (l := pxRs T.1) (x := 1) (y := (T.1.length : Int)) (by omega) (by omega) (by rw [pxRs_len]; omega)
    have l40 := IV.1
    refine qz_x9 (T := (T.1, T.2.1, T.2.2.1, nx)) n3 (fun z => ?_) ?_
    · have z : pxSub (pxRs T.1) 1 (T.1.length : Int) = [] := z
      rw [z] at ln
      have ln : (0 : Int) = (T.1.length : Int) - 1 + 1 := ln
      omega
    · show (pxSub (pxRs T.1) 1 (T.1.length : Int)).length ≤ 40
      omega
/- %h -/
theorem qz_p10 : (pxOrds qt10 61 0) = (-1, [(0, [])]) ∧ pxWh qt10 0 = (true, 1, 1, 0) ∧ pxAc qt10 0 = 104 ∧ pxP qt10 1 = 104 := by decide +kernel
theorem qz_s10 (n3 : 3 ≤ T.1.length) : qzS qt10 0 [] T S = pxSpHold 1 (T.1.length : Int) T S := by
  obtain ⟨-, h, c, e⟩ := qz_p10
  rw [qz_s (qz_rP (by rw [h]) (by omega)) rfl (by rw [c]; decide), h]
  exact qz_d104 e
theorem qz_re10 : qzRe qt10 0 [] := by
  intro T S IV IS n3 o e
  rw [qz_s10 n3]
  refine ⟨fun nx => ?_, by show S.2.1.length ≤ S.2.1.length + 2; omega⟩
  rw [qz_s10 (T := (T.1, T.2.1, T.2.2.1, nx)) n3]
  rfl
/- 2,3cx y|z -/
theorem qz_p11 : (pxOrds qt11 61 0) = (-1, [(0, [])]) ∧ pxWh qt11 0 = (true, 3, 3, 2) ∧ pxAc qt11 0 = 99 ∧ pxP qt11 3 = 99 ∧ (pxIsDg (pxP qt11 0) = true ∧ pxNumV qt11 0 = 2 ∧ pxAddrS qt11 0 = 0) ∧ (pxIsDg (pxP qt11 2) = true ∧ pxNumV qt11 2 = 3 ∧ pxAddrS qt11 2 = 0) ∧ (pxTold qt11 61 4).length = 2 := by decide +kernel
theorem qz_s11 (n3 : 3 ≤ T.1.length) : qzS qt11 0 [] T S = pxDoT (pxSpBring true 2 2 3 (pxTold qt11 61 4) T) S := by
  obtain ⟨-, h, c, e, ⟨a1, a2, a3⟩, ⟨b1, b2, b3⟩, -⟩ := qz_p11
  have l1 : pxLoc qt11 0 T = 2 := qz_lD a1 a2 a3 (by omega) (by omega)
  have l2 : pxLoc qt11 2 T = 3 := qz_lD b1 b2 b3 (by omega) (by omega)
  have r : pxRng qt11 0 T = (0, 2, 3) := by
    rw [qz_r3 (by rw [h]) (by rw [l1]; decide), l1, h]
    show pxRngE _ 3 2 (pxLoc qt11 2 T) = _
    rw [l2]
    exact qz_rE (by omega) (by omega)
  rw [qz_s r rfl (by rw [c]; decide), h]
  exact qz_d99 e
theorem qz_re11 : qzRe qt11 0 [] := qz_same fun T S IV n3 => by
  rw [qz_s11 n3]
  refine ⟨rfl, fun e nx => ?_⟩
  rw [qz_s11 (T := (T.1, T.2.1, T.2.2.1, nx)) n3]
  have l40 := IV.1
  have l2 := qz_p11.2.2.2.2.2.2
  show (pxSpBring true 2 2 3 (pxTold qt11 61 4) (T.1, T.2.1, T.2.2.1, nx)).1 = 0
  unfold pxSpBring
  rw [if_neg (by rw [if_pos rfl, l2]; show ¬ 40 < (T.1.length : Int) - (3 - 2 + 1) + ((2 : Nat) : Int); omega)]
/- ?a?d -/
theorem qz_p13 : (pxOrds qt13 61 0) = (-1, [(0, [])]) ∧ (pxWh qt13 0).2.1 = 3 ∧ pxAc qt13 0 = 100 ∧ pxP qt13 3 = 100 := by decide +kernel
theorem qz_s13 : qzS qt13 0 [] T S = if (pxRng qt13 0 T).1 ≠ 0 then ((pxRng qt13 0 T).1, T, S) else (0, pxSpDel (pxRng qt13 0 T).2.1 (pxRng qt13 0 T).2.2 T, S) := by
  obtain ⟨-, h, c, e⟩ := qz_p13
  by_cases g : (pxRng qt13 0 T).1 ≠ 0
  · rw [if_pos g]
    exact qz_sF g
  · rw [if_neg g, qz_s rfl (Decidable.not_not.mp g) (by rw [c]; decide), h]
    exact qz_d100 e
theorem qz_re13 : qzRe qt13 0 [] := qz_same fun T S IV n3 => by
  rw [qz_s13]
  by_cases g : (pxRng qt13 0 T).1 ≠ 0
  · rw [if_pos g]
    exact ⟨rfl, fun e => absurd e g⟩
  · rw [if_neg g]
    refine ⟨rfl, fun e nx => ?_⟩
    rw [qz_s13, if_neg (show ¬ (pxRng qt13 0 (T.1, T.2.1, T.2.2.1, nx)).1 ≠ 0 from g)]
/- /^b/s/b$/c/ -/
theorem qz_p14 : (pxOrds qt14 61 0) = (-1, [(0, [])]) ∧ (pxWh qt14 0).2.1 = 4 ∧ pxAc qt14 0 = 115 ∧ pxP qt14 4 = 115 := by decide +kernel
theorem qz_s14 : qzS qt14 0 [] T S = if (pxRng qt14 0 T).1 ≠ 0 then ((pxRng qt14 0 T).1, T, S) else (pxDoC qt14 4 (pxRng qt14 0 T).2.1 (pxRng qt14 0 T).2.2 T S false).1 := by
  obtain ⟨-, h, c, e⟩ := qz_p14
  by_cases g : (pxRng qt14 0 T).1 ≠ 0
  · rw [if_pos g]
    exact qz_sF g
  · rw [if_neg g, qz_s rfl (Decidable.not_not.mp g) (by rw [c]; decide), h]
    exact congrArg (·.1) (qz_doC (Or.inr (Or.inl e)))
theorem qz_re14 : qzRe qt14 0 [] := qz_same fun T S IV n3 => by
  rw [qz_s14]
  by_cases g : (pxRng qt14 0 T).1 ≠ 0
  · rw [if_pos g]
    exact ⟨rfl, fun e => absurd e g⟩
  · rw [if_neg g]
    refine ⟨rfl, fun e nx => ?_⟩
    rw [qz_s14, if_neg (show ¬ (pxRng qt14 0 (T.1, T.2.1, T.2.2.1, nx)).1 ≠ 0 from g)]
    exact e
/- u -/
theorem qz_p16 : (pxOrds qt16 61 0) = (-1, [(0, [])]) ∧ pxWh qt16 0 = (true, 0, 0, 0) ∧ pxAc qt16 0 = 117 ∧ pxP qt16 0 = 117 := by decide +kernel
theorem qz_s16 (IV : pxInv T) (n3 : 3 ≤ T.1.length) : qzS qt16 0 [] T S = if S.1 = [] then (5, T, S) else pxDoT (pxSpBring false (T.2.2.1 + 1) T.2.2.1 T.2.2.1 S.1 T) S := by
  obtain ⟨-, h, c, e⟩ := qz_p16
  rw [qz_s (qz_rN (by rw [h]) (by rw [c]; decide) (IV.n1 n3).1) rfl (by rw [c]; decide), h]
  exact qz_d117 e
theorem qz_iv (IV : pxInv T) {nx : Int} (h : T.2.2.2 ≤ nx) : pxInv (T.1, T.2.1, T.2.2.1, nx) := by
  obtain ⟨i1, i2, i3, i4, i5, i6, i7, i8, i9⟩ := IV
  exact ⟨i1, i2, i3, i4, i5, by show 0 ≤ nx; omega, fun a ha => ⟨(i7 a ha).1, by have := (i7 a ha).2; show a < nx; omega⟩, i8, i9⟩
theorem qz_s16n (IV : pxInv T) (n3 : 3 ≤ T.1.length) (nx : Int) : qzS qt16 0 [] (T.1, T.2.1, T.2.2.1, nx) S = if S.1 = [] then (5, (T.1, T.2.1, T.2.2.1, nx), S) else pxDoT (pxSpBring false (T.2.2.1 + 1) T.2.2.1 T.2.2.1 S.1 (T.1, T.2.1, T.2.2.1, nx)) S := by
  obtain ⟨-, h, c, e⟩ := qz_p16
  rw [qz_s (qz_rN (T := (T.1, T.2.1, T.2.2.1, nx)) (by rw [h]) (by rw [c]; decide) (IV.n1 n3).1) rfl (by rw [c]; decide), h]
  exact qz_d117 e
theorem qz_re16 : qzRe qt16 0 [] := qz_same fun T S IV n3 => by
  rw [qz_s16 IV n3]
  by_cases g : S.1 = []
  · rw [if_pos g]
    exact ⟨rfl, fun e => absurd (show (5 : Int) = 0 from e) (by decide)⟩
  · rw [if_neg g]
    refine ⟨rfl, fun e nx => ?_⟩
    rw [qz_s16n IV n3, if_neg g]
    have e : (pxSpBring false (T.2.2.1 + 1) T.2.2.1 T.2.2.1 S.1 T).1 = 0 := e
    show (pxSpBring false (T.2.2.1 + 1) T.2.2.1 T.2.2.1 S.1 (T.1, T.2.1, T.2.2.1, nx)).1 = 0
    unfold pxSpBring at e ⊢
    by_cases c : 40 < (T.1.length : Int) - (if false = true then T.2.2.1 - T.2.2.1 + 1 else 0) + S.1.length
    · rw [if_pos c] at e
      exact absurd (show (4 : Int) = 0 from e) (by decide)
    · simp only [if_neg c]
/- 1i -/
theorem qz_p17 : (pxOrds qt17 61 0) = (-1, [(0, [])]) ∧ pxWh qt17 0 = (true, 1, 2, 0) ∧ pxAc qt17 0 = 105 ∧ pxP qt17 1 = 105 ∧ (pxIsDg (pxP qt17 0) = true ∧ pxNumV qt17 0 = 1 ∧ pxAddrS qt17 0 = 0) := by decide +kernel
theorem qz_s17 (n3 : 3 ≤ T.1.length) : qzS qt17 0 [] T S = pxDoT (pxSpBring false 1 1 1 (pxTold qt17 61 2) T) S := by
  obtain ⟨-, h, c, e, ⟨a1, a2, a3⟩⟩ := qz_p17
  have l1 : pxLoc qt17 0 T = 1 := qz_lD a1 a2 a3 (by omega) (by omega)
  have r : pxRng qt17 0 T = (0, 1, 1) := by
    rw [qz_r2 (by rw [h]), l1]
    exact qz_rE (by omega) (by omega)
  rw [qz_s r rfl (by rw [c]; decide), h]
  exact qz_d105 e
theorem qz_re17 : qzRe qt17 0 [] := qz_same fun T S IV n3 => by
  rw [qz_s17 n3]
  refine ⟨rfl, fun e nx => ?_⟩
  rw [qz_s17 (T := (T.1, T.2.1, T.2.2.1, nx)) n3]
  have e : (pxSpBring false 1 1 1 (pxTold qt17 61 2) T).1 = 0 := e
  show (pxSpBring false 1 1 1 (pxTold qt17 61 2) (T.1, T.2.1, T.2.2.1, nx)).1 = 0
  unfold pxSpBring at e ⊢
  by_cases c : 40 < (T.1.length : Int) - (if false = true then 1 - 1 + 1 else 0) + (pxTold qt17 61 2).length
  · rw [if_pos c] at e
    exact absurd (show (4 : Int) = 0 from e) (by decide)
  · simp only [if_neg c]
/- $-1,$n -/
theorem qz_p18 : (pxOrds qt18 61 0) = (-1, [(0, [])]) ∧ pxWh qt18 0 = (true, 5, 3, 4) ∧ pxAc qt18 0 = 110 ∧ pxP qt18 5 = 110 ∧ (pxP qt18 0 = 36 ∧ pxAddrS qt18 0 = -1) ∧ pxP qt18 4 = 36 ∧ pxAddrS qt18 4 = 0 := by decide +kernel
theorem qz_s18 (n3 : 3 ≤ T.1.length) : qzS qt18 0 [] T S = pxSpPr (fun r => pxDig r ++ [32]) ((T.1.length : Int) + -1) (T.1.length : Int) T S := by
  obtain ⟨-, h, c, e, ⟨a1, a2⟩, d1, d2⟩ := qz_p18
  have l1 : pxLoc qt18 0 T = (T.1.length : Int) + -1 := qz_lE a1 a2 (by omega) (by omega)
  have l3 : pxLoc qt18 4 T = (T.1.length : Int) + 0 := qz_lE d1 d2 (by omega) (by omega)
  have r : pxRng qt18 0 T = (0, (T.1.length : Int) + -1, (T.1.length : Int)) := by
    rw [qz_r3 (by rw [h]) (by rw [l1]; omega), l1, h]
    show pxRngE _ 3 _ (pxLoc qt18 4 T) = _
    rw [l3, Int.add_zero]
    exact qz_rE (by omega) (by omega)
  rw [qz_s r rfl (by rw [c]; decide), h]
  exact qz_d110 e
theorem qz_print {pre : Int → List Int} {rs : List (List Int)} : ∀ (m : Nat) (x : Int) (o o2 : List (List Int)) (v : List (List Int)), pxPrint pre rs m x o = some v → o2.length + m ≤ 100 → v.length = o.length + m ∧ ∃ v2, pxPrint pre rs m x o2 = some v2
  | 0, x, o, o2, v, e, h => ⟨by have := Option.some.inj e; rw [← this]; rfl, o2, rfl⟩
  | m + 1, x, o, o2, v, e, h => by
    have eU : ∀ w, pxPrint pre rs (m + 1) x w = if (pre x ++ pxRw rs x).length ≤ 30 ∧ w.length < 100 then pxPrint pre rs m (x + 1) (w ++ [pre x ++ pxRw rs x]) else none := fun _ => rfl
    rw [eU] at e
    by_cases c : (pre x ++ pxRw rs x).length ≤ 30 ∧ o.length < 100
    · rw [if_pos c] at e
      obtain ⟨k1, k2⟩ := qz_print m (x + 1) _ (o2 ++ [pre x ++ pxRw rs x]) v e (by rw [List.length_append, List.length_singleton]; omega)
      rw [List.length_append, List.length_singleton] at k1
      refine ⟨by omega, ?_⟩
      rw [eU, if_pos ⟨c.1, by omega⟩]
      exact k2
    · rw [if_neg c] at e
      cases e
theorem qz_re18 : qzRe qt18 0 [] := by
  intro T S IV IS n3 o e
  rw [qz_s18 n3] at e ⊢
  have em : ((T.1.length : Int) - ((T.1.length : Int) + -1) + 1).toNat = 2 := by omega
  unfold pxSpPr at e ⊢
  rw [em] at e ⊢
  cases h1 : pxPrint (fun r => pxDig r ++ [32]) (pxRs T.1) 2 ((T.1.length : Int) + -1) S.2.1 with
  | none =>
    rw [h1] at e
    exact absurd (show (4 : Int) = 0 from e) (by decide)
  | some v =>
    obtain ⟨l1, -⟩ := qz_print 2 _ _ S.2.1 v h1 (by omega)
    obtain ⟨-, v2, h2⟩ := qz_print 2 _ _ v v h1 (by omega)
    refine ⟨fun nx => ?_, by show v.length ≤ S.2.1.length + 2; omega⟩
    rw [qz_s18 (T := (T.1, T.2.1, T.2.2.1, nx)) n3]
    have e3 : ∀ (T' : pxTx) (S' : pxSto), pxSpPr (fun r => pxDig r ++ [32]) ((T.1.length : Int) + -1) (T.1.length : Int) T' S' = (pxPrint (fun r => pxDig r ++ [32]) (pxRs T'.1) ((T.1.length : Int) - ((T.1.length : Int) + -1) + 1).toNat ((T.1.length : Int) + -1) S'.2.1).elim (4, T', S') (fun o => (0, (T'.1, T'.2.1, (T.1.length : Int), T'.2.2.2), (S'.1, o, S'.2.2))) := fun _ _ => rfl
    have e4 : pxPrint (fun r => pxDig r ++ [32]) (pxRs ((T.1, T.2.1, T.2.2.1, nx) : pxTx).1) ((T.1.length : Int) - ((T.1.length : Int) + -1) + 1).toNat ((T.1.length : Int) + -1) (((some v).elim (4, T, S) fun o => (0, (T.1, T.2.1, (T.1.length : Int), T.2.2.2), S.1, o, S.2.2)) : Int × pxTx × pxSto).2.2.2.1 = some v2 := by
      rw [em]
      exact h2
    refine (congrArg (fun q : Int × pxTx × pxSto => q.1) (e3 _ _)).trans ?_
    refine (congrArg (fun q : Option (List (List Int)) => (q.elim ((4 : Int), ((T.1, T.2.1, T.2.2.1, nx) : pxTx), (((some v).elim (4, T, S) fun o => (0, (T.1, T.2.1, (T.1.length : Int), T.2.2.2), S.1, o, S.2.2)) : Int × pxTx × pxSto).2.2) (fun o => ((0 : Int), ((T.1, T.2.1, (T.1.length : Int), nx) : pxTx), ((((some v).elim (4, T, S) fun o => (0, (T.1, T.2.1, (T.1.length : Int), T.2.2.2), S.1, o, S.2.2)) : Int × pxTx × pxSto).2.2.1, o, (((some v).elim (4, T, S) fun o => (0, (T.1, T.2.1, (T.1.length : Int), T.2.2.2), S.1, o, S.2.2)) : Int × pxTx × pxSto).2.2.2.2)))).1) e4).trans ?_
    rfl
end
