/-! how signs are read: what stands where, and where it ends (true), or where the fault is (false) -/
def pxIsCh (c : Int) : Bool := decide ((97 ≤ c ∧ c ≤ 122) ∨ (48 ≤ c ∧ c ≤ 57) ∨ c = 32)
def pxIsDg (c : Int) : Bool := decide (48 ≤ c ∧ c ≤ 57)
theorem pxIsCh_iff {c : Int} : pxIsCh c = true ↔ pxCh c := by unfold pxIsCh pxCh; exact decide_eq_true_iff
def pxP (s : List Int) (p : Int) : Int := if 0 ≤ p ∧ p < s.length then pxE s p else -1
def pxSpan (s : List Int) (p : Int) : List Int := (s.drop p.toNat).takeWhile pxIsCh
def pxNum (s : List Int) (p : Int) : Bool × Int := if pxIsDg (pxP s p) = true then (true, if pxIsDg (pxP s (p + 1)) = true then p + 2 else p + 1) else (false, p)
def pxNumV (s : List Int) (p : Int) : Int := if pxIsDg (pxP s (p + 1)) = true then (pxP s p - 48) * 10 + (pxP s (p + 1) - 48) else pxP s p - 48
/-- where the signs of a class begin -/
def pxCl0 (s : List Int) (p : Int) : Int := if pxP s p = 94 then p + 1 else p
def pxCl1 (s : List Int) (p : Int) : Int := pxCl0 s p + (pxSpan s (pxCl0 s p)).length
def pxCls (s : List Int) (p : Int) : Bool × Int :=
  if pxSpan s (pxCl0 s p) = [] then (false, pxCl0 s p) else if pxP s (pxCl1 s p) = 93 then (true, pxCl1 s p + 1) else (false, pxCl1 s p)
def pxEm (e : Int × Int) (r : Bool × Int × List (Int × Int) × Int) : Bool × Int × List (Int × Int) × Int := (r.1, r.2.1, e :: r.2.2.1, r.2.2.2)
/-- items of a pattern: in a group or not, plain ones in it, items, stars, groups, place -/
def pxMach (s : List Int) : Nat → Bool → Int → Int → Int → Int → Int → Bool × Int × List (Int × Int) × Int
  | 0, _, _, _, _, k, p => (false, p, [], k)
  | m + 1, g, a, i, t, k, p =>
    if g = true ∧ pxP s p = 41 then pxEm (6, k) (pxMach s m false a i t k (p + 1))
    else if 12 ≤ (if g = true then a else i) then (!g, p, [], k)
    else if g = false ∧ pxP s p = 40 ∧ k < 2 then pxEm (5, k + 1) (pxMach s m true 0 (i + 1) t (k + 1) (p + 1))
    else if g = false ∧ pxP s p = 92 ∧ 0 < k then (if 49 ≤ pxP s (p + 1) ∧ pxP s (p + 1) ≤ 48 + k then pxEm (7, pxP s (p + 1) - 48) (pxMach s m g a (i + 1) t k (p + 2)) else (false, p + 1, [], k))
    else if pxP s p = 42 ∧ t < 2 then pxEm (3, 0) (pxMach s m g (if g = true then a + 1 else a) (if g = true then i else i + 1) (t + 1) k (p + 1))
    else if pxP s p = 46 then pxEm (2, 46) (pxMach s m g (if g = true then a + 1 else a) (if g = true then i else i + 1) t k (p + 1))
    else if pxIsCh (pxP s p) = true then pxEm (1, pxP s p) (pxMach s m g (if g = true then a + 1 else a) (if g = true then i else i + 1) t k (p + 1))
    else if pxP s p = 91 then (if (pxCls s (p + 1)).1 = true then pxEm (4, p + 1) (pxMach s m g (if g = true then a + 1 else a) (if g = true then i else i + 1) t k (pxCls s (p + 1)).2) else (false, (pxCls s (p + 1)).2, [], k))
    else (!g, p, [], k)
def pxPt0 (s : List Int) (p : Int) : Int := if pxP s p = 94 then p + 1 else p
def pxPtM (s : List Int) (p : Int) : Bool × Int × List (Int × Int) × Int := pxMach s 61 false 0 0 0 0 (pxPt0 s p)
def pxPt1 (s : List Int) (p : Int) : Int := if pxP s (pxPtM s p).2.1 = 36 then (pxPtM s p).2.1 + 1 else (pxPtM s p).2.1
/-- a pattern -/
def pxPat (s : List Int) (p : Int) : Bool × Int := if (pxPtM s p).1 = true then (if pxPt1 s p = p then (false, p) else (true, pxPt1 s p)) else (false, (pxPtM s p).2.1)
def pxPatK (s : List Int) (p : Int) : Int := (pxPtM s p).2.2.2
/-- its elements, with those that say where it begins and ends -/
def pxFull (s : List Int) (p : Int) : List (Int × Int) := (if pxP s p = 94 then [(8, 0)] else []) ++ (pxPtM s p).2.2.1 ++ (if pxP s (pxPtM s p).2.1 = 36 then [(9, 0)] else []) ++ [(10, 0)]
def pxSpot0 (c : Int) : Bool := pxIsDg c || decide (c = 46 ∨ c = 36 ∨ c = 39 ∨ c = 47 ∨ c = 63)
def pxSpot (s : List Int) (p : Int) : Bool × Int :=
  if pxIsDg (pxP s p) = true then pxNum s p
  else if pxP s p = 39 then (if 97 ≤ pxP s (p + 1) ∧ pxP s (p + 1) ≤ 101 then (true, p + 2) else (false, p + 1))
  else if pxP s p = 47 ∨ pxP s p = 63 then (if (pxPat s (p + 1)).1 = true then (if pxP s (pxPat s (p + 1)).2 = pxP s p then (true, (pxPat s (p + 1)).2 + 1) else (false, (pxPat s (p + 1)).2)) else (false, (pxPat s (p + 1)).2))
  else if pxP s p = 46 ∨ pxP s p = 36 then (true, p + 1) else (false, p)
def pxShf (s : List Int) : Nat → Int → Bool × Int × Int
  | 0, p => (true, p, 0)
  | m + 1, p => if pxP s p = 43 ∨ pxP s p = 45 then (if (pxNum s (p + 1)).1 = true then ((pxShf s m (pxNum s (p + 1)).2).1, (pxShf s m (pxNum s (p + 1)).2).2.1, (if pxP s p = 45 then - pxNumV s (p + 1) else pxNumV s (p + 1)) + (pxShf s m (pxNum s (p + 1)).2).2.2) else (false, (pxNum s (p + 1)).2, 0)) else (true, p, 0)
def pxAddr (s : List Int) (p : Int) : Bool × Int := if (pxSpot s p).1 = true then ((pxShf s 61 (pxSpot s p).2).1, (pxShf s 61 (pxSpot s p).2).2.1) else pxSpot s p
def pxAddrS (s : List Int) (p : Int) : Int := (pxShf s 61 (pxSpot s p).2).2.2
/-- a where: ok, its end, its kind, where the second address stands -/
def pxWh (s : List Int) (p : Int) : Bool × Int × Int × Int :=
  if pxP s p = 37 then (true, p + 1, 1, 0)
  else if pxSpot0 (pxP s p) = true then
    (if (pxAddr s p).1 = true then (if pxP s (pxAddr s p).2 = 44 then ((pxAddr s ((pxAddr s p).2 + 1)).1, (pxAddr s ((pxAddr s p).2 + 1)).2, 3, (pxAddr s p).2 + 1) else (true, (pxAddr s p).2, 2, 0)) else (false, (pxAddr s p).2, 2, 0))
  else (true, p, 0, 0)
def pxRowsE (s : List Int) : Nat → Int → Int → Bool × Int
  | 0, _, p => (true, p)
  | m + 1, l, p => if pxP s p = 124 then pxRowsE s m 0 (p + 1) else if pxIsCh (pxP s p) = true then (if 30 ≤ l then (false, p) else pxRowsE s m (l + 1) (p + 1)) else (true, p)
def pxPut (s : List Int) (k : Int) : Nat → Int → Bool × Int
  | 0, p => (true, p)
  | m + 1, p => if pxP s p = 92 ∧ 0 < k then (if 49 ≤ pxP s (p + 1) ∧ pxP s (p + 1) ≤ 48 + k then pxPut s k m (p + 2) else (false, p + 1)) else if pxP s p = 38 ∨ pxIsCh (pxP s p) = true then pxPut s k m (p + 1) else (true, p)
/-- a pattern between two strokes -/
def pxPtn (s : List Int) (p : Int) : Bool × Int := if pxP s p = 47 then (if (pxPat s (p + 1)).1 = true then (if pxP s (pxPat s (p + 1)).2 = 47 then (true, (pxPat s (p + 1)).2 + 1) else (false, (pxPat s (p + 1)).2)) else (false, (pxPat s (p + 1)).2)) else (false, p)
def pxRepU (s : List Int) (p : Int) : Bool × Int := pxPut s (pxPatK s (p + 1)) 61 (pxPtn s p).2
def pxRep (s : List Int) (p : Int) : Bool × Int :=
  if (pxPtn s p).1 = true then (if (pxRepU s p).1 = true then (if pxP s (pxRepU s p).2 = 47 then (true, if pxP s ((pxRepU s p).2 + 1) = 103 ∨ (49 ≤ pxP s ((pxRepU s p).2 + 1) ∧ pxP s ((pxRepU s p).2 + 1) ≤ 57) then (pxRepU s p).2 + 2 else (pxRepU s p).2 + 1) else (false, (pxRepU s p).2)) else pxRepU s p) else pxPtn s p
def pxTrnN (s : List Int) (p : Int) : Int := (pxSpan s (p + 1)).length
def pxTrn (s : List Int) (p : Int) : Bool × Int :=
  if pxP s p = 47 then (if pxSpan s (p + 1) = [] then (false, p + 1) else if pxP s (p + 1 + pxTrnN s p) = 47 then
    (if ((pxSpan s (p + 2 + pxTrnN s p)).length : Int) < pxTrnN s p then (false, p + 2 + pxTrnN s p + (pxSpan s (p + 2 + pxTrnN s p)).length) else if pxP s (p + 2 + pxTrnN s p + pxTrnN s p) = 47 then (true, p + 3 + pxTrnN s p + pxTrnN s p) else (false, p + 2 + pxTrnN s p + pxTrnN s p))
    else (false, p + 1 + pxTrnN s p)) else (false, p)
def pxAct (s : List Int) (p : Int) : Bool × Int :=
  if pxP s p = 97 ∨ pxP s p = 105 ∨ pxP s p = 99 then pxRowsE s 61 0 (p + 1)
  else if pxP s p = 100 ∨ pxP s p = 106 ∨ pxP s p = 108 ∨ pxP s p = 112 ∨ pxP s p = 61 ∨ pxP s p = 110 ∨ pxP s p = 104 ∨ pxP s p = 72 ∨ pxP s p = 117 ∨ pxP s p = 101 ∨ pxP s p = 113 ∨ pxP s p = 78 then (true, p + 1)
  else if pxP s p = 118 ∨ pxP s p = 62 ∨ pxP s p = 60 ∨ pxP s p = 111 ∨ pxP s p = 79 then pxNum s (p + 1)
  else if pxP s p = 109 ∨ pxP s p = 116 then pxAddr s (p + 1)
  else if pxP s p = 107 then (if 97 ≤ pxP s (p + 1) ∧ pxP s (p + 1) ≤ 101 then (true, p + 2) else (false, p + 1))
  else if pxP s p = 114 ∨ pxP s p = 119 then (if 48 ≤ pxP s (p + 1) ∧ pxP s (p + 1) ≤ 51 then (true, p + 2) else (false, p + 1))
  else if pxP s p = 58 then (if 65 ≤ pxP s (p + 1) ∧ pxP s (p + 1) ≤ 90 then (true, p + 2) else (false, p + 1))
  else if pxP s p = 98 ∨ pxP s p = 84 then (true, if 65 ≤ pxP s (p + 1) ∧ pxP s (p + 1) ≤ 90 then p + 2 else p + 1)
  else if pxP s p = 115 then pxRep s (p + 1)
  else if pxP s p = 122 then pxTrn s (p + 1)
  else (false, p)
def pxSteer (c : Int) : Bool := decide (c = 58 ∨ c = 98 ∨ c = 84 ∨ c = 113 ∨ c = 78)
/-- an order behind g or in a block -/
def pxInn (s : List Int) (p : Int) : Bool × Int := if (pxWh s p).1 = true then (if pxSteer (pxP s (pxWh s p).2.1) = true then (false, (pxWh s p).2.1) else pxAct s (pxWh s p).2.1) else (false, (pxWh s p).2.1)
def pxBlk (s : List Int) : Nat → Int → Bool × Int × List Int
  | 0, p => (false, p, [])
  | m + 1, p => if (pxInn s p).1 = true then (if pxP s (pxInn s p).2 = 59 then ((pxBlk s m ((pxInn s p).2 + 1)).1, (pxBlk s m ((pxInn s p).2 + 1)).2.1, p :: (pxBlk s m ((pxInn s p).2 + 1)).2.2) else if pxP s (pxInn s p).2 = 125 then (true, (pxInn s p).2 + 1, [p]) else (false, (pxInn s p).2, [])) else (false, (pxInn s p).2, [])
/-- an order, with those in it -/
def pxTop (s : List Int) (p : Int) : Bool × Int × List Int :=
  if (pxWh s p).1 = true then
    (if pxP s (pxWh s p).2.1 = 123 then pxBlk s 61 ((pxWh s p).2.1 + 1)
     else if pxP s (pxWh s p).2.1 = 103 ∨ pxP s (pxWh s p).2.1 = 71 then
       (if (pxPtn s ((pxWh s p).2.1 + 1)).1 = true then (if pxP s (pxPtn s ((pxWh s p).2.1 + 1)).2 = 123 then pxBlk s 61 ((pxPtn s ((pxWh s p).2.1 + 1)).2 + 1) else ((pxInn s (pxPtn s ((pxWh s p).2.1 + 1)).2).1, (pxInn s (pxPtn s ((pxWh s p).2.1 + 1)).2).2, [(pxPtn s ((pxWh s p).2.1 + 1)).2])) else (false, (pxPtn s ((pxWh s p).2.1 + 1)).2, []))
     else if pxP s (pxWh s p).2.1 = 58 ∧ (pxWh s p).2.2.1 ≠ 0 then (false, (pxWh s p).2.1, [])
     else ((pxAct s (pxWh s p).2.1).1, (pxAct s (pxWh s p).2.1).2, []))
  else (false, (pxWh s p).2.1, [])
/-- all orders: the fault, or -1; each with those in it -/
def pxOrds (s : List Int) : Nat → Int → Int × List (Int × List Int)
  | 0, p => (p, [])
  | m + 1, p => if (pxTop s p).1 = true then (if pxP s (pxTop s p).2.1 = 59 then ((pxOrds s m ((pxTop s p).2.1 + 1)).1, (p, (pxTop s p).2.2) :: (pxOrds s m ((pxTop s p).2.1 + 1)).2) else if s.length ≤ (pxTop s p).2.1 then (-1, [(p, (pxTop s p).2.2)]) else ((pxTop s p).2.1, [])) else ((pxTop s p).2.1, [])
/-! signs that may stand on a tape -/
def pxTp (s : List Int) : Prop := s.length ≤ 60 ∧ ∀ c ∈ s, 32 ≤ c ∧ c ≤ 126
theorem pxP_in {s : List Int} (T : pxTp s) (p : Int) : (pxP s p = -1 ∧ ¬ (0 ≤ p ∧ p < s.length)) ∨ (32 ≤ pxP s p ∧ pxP s p ≤ 126 ∧ 0 ≤ p ∧ p < s.length) := by
  unfold pxP
  by_cases h : 0 ≤ p ∧ p < s.length
  · rw [if_pos h]; right
    unfold pxE
    rw [List.getD_eq_getElem?_getD, List.getElem?_eq_getElem (show p.toNat < s.length by omega)]
    have := T.2 _ (List.getElem_mem (show p.toNat < s.length by omega))
    exact ⟨this.1, this.2, h.1, h.2⟩
  · rw [if_neg h]; exact Or.inl ⟨rfl, h⟩
theorem pxP_lt {s : List Int} {p : Int} (h : pxP s p ≠ -1) : 0 ≤ p ∧ p < s.length := by
  unfold pxP at h
  by_cases q : 0 ≤ p ∧ p < s.length
  · exact q
  · rw [if_neg q] at h; exact absurd rfl h
theorem pxSpan_c {s : List Int} {p : Int} (h0 : 0 ≤ p) (h : pxIsCh (pxP s p) = true) : pxSpan s p = pxP s p :: pxSpan s (p + 1) := by
  have hl : p < s.length := (pxP_lt (fun e => by rw [e] at h; exact absurd h (by decide))).2
  have e : pxP s p = pxE s p := if_pos ⟨h0, hl⟩
  unfold pxSpan
  rw [pxE_drop h0 hl, ← e, List.takeWhile_cons, if_pos h]
theorem pxSpan_n {s : List Int} {p : Int} (h0 : 0 ≤ p) (h : ¬ pxIsCh (pxP s p) = true) : pxSpan s p = [] := by
  unfold pxSpan
  by_cases hl : p < s.length
  · have e : pxP s p = pxE s p := if_pos ⟨h0, hl⟩
    rw [pxE_drop h0 hl, ← e, List.takeWhile_cons, if_neg h]
  · rw [List.drop_of_length_le (by omega)]; rfl
theorem pxIsDg_t {c : Int} (h1 : 48 ≤ c) (h2 : c ≤ 57) : pxIsDg c = true := decide_eq_true ⟨h1, h2⟩
theorem pxIsDg_f {c : Int} (h1 : ¬ (48 ≤ c ∧ c ≤ 57)) : pxIsDg c = false := decide_eq_false h1
theorem pxIsDg_i {c : Int} : pxIsDg c = true ↔ 48 ≤ c ∧ c ≤ 57 := decide_eq_true_iff
theorem pxIsCh_i {c : Int} : pxIsCh c = true ↔ ((97 ≤ c ∧ c ≤ 122) ∨ (48 ≤ c ∧ c ≤ 57) ∨ c = 32) := decide_eq_true_iff
/-! bits of characters -/
def pxIx (c : Int) : Nat := if 97 ≤ c then (c - 97).toNat else if c = 32 then 36 else (c - 22).toNat
def pxBit (c : Int) : Int64 := if pxIsCh c = true then Int64.ofBitVec (BitVec.twoPow 64 (pxIx c)) else 0
def pxBs (m : Int64) (c : Int) : Bool := m.toBitVec.getLsbD (pxIx c)
theorem px_bitOf {h : jw_H} {c : Int} (h1 : -1000 ≤ c) (h2 : c ≤ 1000) : f_X11_bitOf h (pxJ c) = some (pxBit c, h) := by
  unfold f_X11_bitOf g_X11_bitOf_b19 g_X11_bitOf_b41 g_X11_bitOf_b54
  by_cases ha : 97 ≤ c ∧ c ≤ 122
  · have e : ∀ k : Fin 26, (1 : Int64) <<< ((pxJ (((k.val : Int) + 97) - 97)).toInt64 &&& 63) = Int64.ofBitVec (BitVec.twoPow 64 k.val) := by decide +kernel
    have := e ⟨(c - 97).toNat, by omega⟩
    rw [show ((((⟨(c - 97).toNat, by omega⟩ : Fin 26).val : Int) + 97) - 97) = c - 97 by simp; omega] at this
    have eb : pxBit c = Int64.ofBitVec (BitVec.twoPow 64 (c - 97).toNat) := by
      unfold pxBit pxIx
      rw [if_pos (pxIsCh_i.mpr (Or.inl ha)), if_pos ha.1]
    rw [eb]
    simp (disch := first | assumption | omega | (simp only [jw_t_I, px_cpt]; done) | (simp only [jw_t_I, px_cpt]; omega)) only [pxL0, pxL1, pxL2, pxL3, pxL4, pxL5, pxL6, pxL7, pxL8, pxL9, pxL10, pxL11, pxL12, pxL13, pxL14, pxL15, pxL16, pxL17, pxL18, pxL19, pxL20, pxL21, pxL22, pxL23, pxL24, pxL25, pxL26, pxL27, pxL28, pxL29, pxL30, pxL31, pxL32, pxL33, pxL34, pxL35, pxL36, pxL37, pxL38, pxL39, pxL40, pxL41, pxL42, pxL43, pxL44, pxL45, pxL46, pxL47, pxL48, pxL49, pxL51, pxL57, pxL58, pxL59, pxL60, pxL61, pxL62, pxL63, pxL64, pxL65, pxL66, pxL67, pxL68, pxL69, pxL70, pxL71, pxL72, pxL73, pxL74, pxL75, pxL76, pxL77, pxL78, pxL79, pxL80, pxL81, pxL82, pxL83, pxL84, pxL85, pxL86, pxL87, pxL88, pxL89, pxL90, pxL91, pxL92, pxL93, pxL94, pxL95, pxL96, pxL97, pxL98, pxL99, pxL100, pxL101, pxL102, pxL103, pxL104, pxL105, pxL106, pxL107, pxL108, pxL109, pxL110, pxL111, pxL112, pxL113, pxL114, pxL115, pxL116, pxL117, pxL118, pxL119, pxL120, pxL121, pxL122, pxL123, pxL124, pxL125, pxL126, pxL200, pxL240, pxL287, pxL388, pxL400, pxL429, pxL431, pxL440, pxL1240, pxL1600, pxL1681, pxL12028, pxL13849, pxL14880, pxL25173, pxL26908, pxL49600, pxL65535, pxL65536, ↓reduceIte, pxJ_add, pxJ_sub, pxJ_mul, pxJ_neg, pxD_lt_t, pxD_lt_f, pxD_le_t, pxD_le_f, pxD_eq_t, pxD_eq_f, pxJ_lt, pxJ_le, pxJ_eq, px_gI, px_gR, px_pI, px_rc, px_ai, px_ar, px_si, px_ln, px_cp, pxJ_div, pxJ_b8, pxJ_byte, px_b2, px_bs, px_rb0, px_rb1, px_min, px_max, px_compare, pxW_some, jw_t_I, px_cpt, jw_r_I, px_cpr, jw_l_I, px_cpl, Option.some.injEq, this]
  · by_cases hd : 48 ≤ c ∧ c ≤ 57
    · have e : ∀ k : Fin 10, (1 : Int64) <<< ((pxJ (((k.val : Int) + 48) - 48 + 26)).toInt64 &&& 63) = Int64.ofBitVec (BitVec.twoPow 64 (k.val + 26)) := by decide +kernel
      have := e ⟨(c - 48).toNat, by omega⟩
      rw [show ((((⟨(c - 48).toNat, by omega⟩ : Fin 10).val : Int) + 48) - 48 + 26) = c - 48 + 26 by simp; omega, show (⟨(c - 48).toNat, by omega⟩ : Fin 10).val + 26 = (c - 22).toNat by simp; omega] at this
      have eb : pxBit c = Int64.ofBitVec (BitVec.twoPow 64 (c - 22).toNat) := by
        unfold pxBit pxIx
        have q1 : ¬ 97 ≤ c := by omega
        have q2 : ¬ c = 32 := by omega
        rw [if_pos (pxIsCh_i.mpr (Or.inr (Or.inl hd))), if_neg q1, if_neg q2]
      rw [eb]
      have q3 : (pxJ c < 97) = True := by simp (disch := first | assumption | omega | (simp only [jw_t_I, px_cpt]; done) | (simp only [jw_t_I, px_cpt]; omega)) only [pxL0, pxL1, pxL2, pxL3, pxL4, pxL5, pxL6, pxL7, pxL8, pxL9, pxL10, pxL11, pxL12, pxL13, pxL14, pxL15, pxL16, pxL17, pxL18, pxL19, pxL20, pxL21, pxL22, pxL23, pxL24, pxL25, pxL26, pxL27, pxL28, pxL29, pxL30, pxL31, pxL32, pxL33, pxL34, pxL35, pxL36, pxL37, pxL38, pxL39, pxL40, pxL41, pxL42, pxL43, pxL44, pxL45, pxL46, pxL47, pxL48, pxL49, pxL51, pxL57, pxL58, pxL59, pxL60, pxL61, pxL62, pxL63, pxL64, pxL65, pxL66, pxL67, pxL68, pxL69, pxL70, pxL71, pxL72, pxL73, pxL74, pxL75, pxL76, pxL77, pxL78, pxL79, pxL80, pxL81, pxL82, pxL83, pxL84, pxL85, pxL86, pxL87, pxL88, pxL89, pxL90, pxL91, pxL92, pxL93, pxL94, pxL95, pxL96, pxL97, pxL98, pxL99, pxL100, pxL101, pxL102, pxL103, pxL104, pxL105, pxL106, pxL107, pxL108, pxL109, pxL110, pxL111, pxL112, pxL113, pxL114, pxL115, pxL116, pxL117, pxL118, pxL119, pxL120, pxL121, pxL122, pxL123, pxL124, pxL125, pxL126, pxL200, pxL240, pxL287, pxL388, pxL400, pxL429, pxL431, pxL440, pxL1240, pxL1600, pxL1681, pxL12028, pxL13849, pxL14880, pxL25173, pxL26908, pxL49600, pxL65535, pxL65536, ↓reduceIte, pxJ_add, pxJ_sub, pxJ_mul, pxJ_neg, pxD_lt_t, pxD_lt_f, pxD_le_t, pxD_le_f, pxD_eq_t, pxD_eq_f, pxJ_lt, pxJ_le, pxJ_eq, px_gI, px_gR, px_pI, px_rc, px_ai, px_ar, px_si, px_ln, px_cp, pxJ_div, pxJ_b8, pxJ_byte, px_b2, px_bs, px_rb0, px_rb1, px_min, px_max, px_compare, pxW_some, jw_t_I, px_cpt, jw_r_I, px_cpr, jw_l_I, px_cpl, Option.some.injEq]
      have q4 : (pxJ c < 48) = False := by simp (disch := first | assumption | omega | (simp only [jw_t_I, px_cpt]; done) | (simp only [jw_t_I, px_cpt]; omega)) only [pxL0, pxL1, pxL2, pxL3, pxL4, pxL5, pxL6, pxL7, pxL8, pxL9, pxL10, pxL11, pxL12, pxL13, pxL14, pxL15, pxL16, pxL17, pxL18, pxL19, pxL20, pxL21, pxL22, pxL23, pxL24, pxL25, pxL26, pxL27, pxL28, pxL29, pxL30, pxL31, pxL32, pxL33, pxL34, pxL35, pxL36, pxL37, pxL38, pxL39, pxL40, pxL41, pxL42, pxL43, pxL44, pxL45, pxL46, pxL47, pxL48, pxL49, pxL51, pxL57, pxL58, pxL59, pxL60, pxL61, pxL62, pxL63, pxL64, pxL65, pxL66, pxL67, pxL68, pxL69, pxL70, pxL71, pxL72, pxL73, pxL74, pxL75, pxL76, pxL77, pxL78, pxL79, pxL80, pxL81, pxL82, pxL83, pxL84, pxL85, pxL86, pxL87, pxL88, pxL89, pxL90, pxL91, pxL92, pxL93, pxL94, pxL95, pxL96, pxL97, pxL98, pxL99, pxL100, pxL101, pxL102, pxL103, pxL104, pxL105, pxL106, pxL107, pxL108, pxL109, pxL110, pxL111, pxL112, pxL113, pxL114, pxL115, pxL116, pxL117, pxL118, pxL119, pxL120, pxL121, pxL122, pxL123, pxL124, pxL125, pxL126, pxL200, pxL240, pxL287, pxL388, pxL400, pxL429, pxL431, pxL440, pxL1240, pxL1600, pxL1681, pxL12028, pxL13849, pxL14880, pxL25173, pxL26908, pxL49600, pxL65535, pxL65536, ↓reduceIte, pxJ_add, pxJ_sub, pxJ_mul, pxJ_neg, pxD_lt_t, pxD_lt_f, pxD_le_t, pxD_le_f, pxD_eq_t, pxD_eq_f, pxJ_lt, pxJ_le, pxJ_eq, px_gI, px_gR, px_pI, px_rc, px_ai, px_ar, px_si, px_ln, px_cp, pxJ_div, pxJ_b8, pxJ_byte, px_b2, px_bs, px_rb0, px_rb1, px_min, px_max, px_compare, pxW_some, jw_t_I, px_cpt, jw_r_I, px_cpr, jw_l_I, px_cpl, Option.some.injEq]
      have q5 : ((57 : Int32) < pxJ c) = False := by simp (disch := first | assumption | omega | (simp only [jw_t_I, px_cpt]; done) | (simp only [jw_t_I, px_cpt]; omega)) only [pxL0, pxL1, pxL2, pxL3, pxL4, pxL5, pxL6, pxL7, pxL8, pxL9, pxL10, pxL11, pxL12, pxL13, pxL14, pxL15, pxL16, pxL17, pxL18, pxL19, pxL20, pxL21, pxL22, pxL23, pxL24, pxL25, pxL26, pxL27, pxL28, pxL29, pxL30, pxL31, pxL32, pxL33, pxL34, pxL35, pxL36, pxL37, pxL38, pxL39, pxL40, pxL41, pxL42, pxL43, pxL44, pxL45, pxL46, pxL47, pxL48, pxL49, pxL51, pxL57, pxL58, pxL59, pxL60, pxL61, pxL62, pxL63, pxL64, pxL65, pxL66, pxL67, pxL68, pxL69, pxL70, pxL71, pxL72, pxL73, pxL74, pxL75, pxL76, pxL77, pxL78, pxL79, pxL80, pxL81, pxL82, pxL83, pxL84, pxL85, pxL86, pxL87, pxL88, pxL89, pxL90, pxL91, pxL92, pxL93, pxL94, pxL95, pxL96, pxL97, pxL98, pxL99, pxL100, pxL101, pxL102, pxL103, pxL104, pxL105, pxL106, pxL107, pxL108, pxL109, pxL110, pxL111, pxL112, pxL113, pxL114, pxL115, pxL116, pxL117, pxL118, pxL119, pxL120, pxL121, pxL122, pxL123, pxL124, pxL125, pxL126, pxL200, pxL240, pxL287, pxL388, pxL400, pxL429, pxL431, pxL440, pxL1240, pxL1600, pxL1681, pxL12028, pxL13849, pxL14880, pxL25173, pxL26908, pxL49600, pxL65535, pxL65536, ↓reduceIte, pxJ_add, pxJ_sub, pxJ_mul, pxJ_neg, pxD_lt_t, pxD_lt_f, pxD_le_t, pxD_le_f, pxD_eq_t, pxD_eq_f, pxJ_lt, pxJ_le, pxJ_eq, px_gI, px_gR, px_pI, px_rc, px_ai, px_ar, px_si, px_ln, px_cp, pxJ_div, pxJ_b8, pxJ_byte, px_b2, px_bs, px_rb0, px_rb1, px_min, px_max, px_compare, pxW_some, jw_t_I, px_cpt, jw_r_I, px_cpr, jw_l_I, px_cpl, Option.some.injEq]
      simp only [q3, q4, q5, ↓reduceIte]
      simp (disch := first | assumption | omega | (simp only [jw_t_I, px_cpt]; done) | (simp only [jw_t_I, px_cpt]; omega)) only [pxL0, pxL1, pxL2, pxL3, pxL4, pxL5, pxL6, pxL7, pxL8, pxL9, pxL10, pxL11, pxL12, pxL13, pxL14, pxL15, pxL16, pxL17, pxL18, pxL19, pxL20, pxL21, pxL22, pxL23, pxL24, pxL25, pxL26, pxL27, pxL28, pxL29, pxL30, pxL31, pxL32, pxL33, pxL34, pxL35, pxL36, pxL37, pxL38, pxL39, pxL40, pxL41, pxL42, pxL43, pxL44, pxL45, pxL46, pxL47, pxL48, pxL49, pxL51, pxL57, pxL58, pxL59, pxL60, pxL61, pxL62, pxL63, pxL64, pxL65, pxL66, pxL67, pxL68, pxL69, pxL70, pxL71, pxL72, pxL73, pxL74, pxL75, pxL76, pxL77, pxL78, pxL79, pxL80, pxL81, pxL82, pxL83, pxL84, pxL85, pxL86, pxL87, pxL88, pxL89, pxL90, pxL91, pxL92, pxL93, pxL94, pxL95, pxL96, pxL97, pxL98, pxL99, pxL100, pxL101, pxL102, pxL103, pxL104, pxL105, pxL106, pxL107, pxL108, pxL109, pxL110, pxL111, pxL112, pxL113, pxL114, pxL115, pxL116, pxL117, pxL118, pxL119, pxL120, pxL121, pxL122, pxL123, pxL124, pxL125, pxL126, pxL200, pxL240, pxL287, pxL388, pxL400, pxL429, pxL431, pxL440, pxL1240, pxL1600, pxL1681, pxL12028, pxL13849, pxL14880, pxL25173, pxL26908, pxL49600, pxL65535, pxL65536, ↓reduceIte, pxJ_add, pxJ_sub, pxJ_mul, pxJ_neg, pxD_lt_t, pxD_lt_f, pxD_le_t, pxD_le_f, pxD_eq_t, pxD_eq_f, pxJ_lt, pxJ_le, pxJ_eq, px_gI, px_gR, px_pI, px_rc, px_ai, px_ar, px_si, px_ln, px_cp, pxJ_div, pxJ_b8, pxJ_byte, px_b2, px_bs, px_rb0, px_rb1, px_min, px_max, px_compare, pxW_some, jw_t_I, px_cpt, jw_r_I, px_cpr, jw_l_I, px_cpl, Option.some.injEq, this]
    · by_cases hs : c = 32
      · subst hs
        have eb : pxBit 32 = 68719476736 := by decide +kernel
        rw [eb]
        simp (disch := first | assumption | omega | (simp only [jw_t_I, px_cpt]; done) | (simp only [jw_t_I, px_cpt]; omega)) only [pxL0, pxL1, pxL2, pxL3, pxL4, pxL5, pxL6, pxL7, pxL8, pxL9, pxL10, pxL11, pxL12, pxL13, pxL14, pxL15, pxL16, pxL17, pxL18, pxL19, pxL20, pxL21, pxL22, pxL23, pxL24, pxL25, pxL26, pxL27, pxL28, pxL29, pxL30, pxL31, pxL32, pxL33, pxL34, pxL35, pxL36, pxL37, pxL38, pxL39, pxL40, pxL41, pxL42, pxL43, pxL44, pxL45, pxL46, pxL47, pxL48, pxL49, pxL51, pxL57, pxL58, pxL59, pxL60, pxL61, pxL62, pxL63, pxL64, pxL65, pxL66, pxL67, pxL68, pxL69, pxL70, pxL71, pxL72, pxL73, pxL74, pxL75, pxL76, pxL77, pxL78, pxL79, pxL80, pxL81, pxL82, pxL83, pxL84, pxL85, pxL86, pxL87, pxL88, pxL89, pxL90, pxL91, pxL92, pxL93, pxL94, pxL95, pxL96, pxL97, pxL98, pxL99, pxL100, pxL101, pxL102, pxL103, pxL104, pxL105, pxL106, pxL107, pxL108, pxL109, pxL110, pxL111, pxL112, pxL113, pxL114, pxL115, pxL116, pxL117, pxL118, pxL119, pxL120, pxL121, pxL122, pxL123, pxL124, pxL125, pxL126, pxL200, pxL240, pxL287, pxL388, pxL400, pxL429, pxL431, pxL440, pxL1240, pxL1600, pxL1681, pxL12028, pxL13849, pxL14880, pxL25173, pxL26908, pxL49600, pxL65535, pxL65536, ↓reduceIte, pxJ_add, pxJ_sub, pxJ_mul, pxJ_neg, pxD_lt_t, pxD_lt_f, pxD_le_t, pxD_le_f, pxD_eq_t, pxD_eq_f, pxJ_lt, pxJ_le, pxJ_eq, px_gI, px_gR, px_pI, px_rc, px_ai, px_ar, px_si, px_ln, px_cp, pxJ_div, pxJ_b8, pxJ_byte, px_b2, px_bs, px_rb0, px_rb1, px_min, px_max, px_compare, pxW_some, jw_t_I, px_cpt, jw_r_I, px_cpr, jw_l_I, px_cpl, Option.some.injEq]
      · have eb : pxBit c = 0 := by
          unfold pxBit
          have q1 : ¬ pxIsCh c = true := by rw [pxIsCh_i]; omega
          rw [if_neg q1]
        rw [eb]
        have q6 : (pxJ c = 32) = False := by simp (disch := first | assumption | omega | (simp only [jw_t_I, px_cpt]; done) | (simp only [jw_t_I, px_cpt]; omega)) only [pxL0, pxL1, pxL2, pxL3, pxL4, pxL5, pxL6, pxL7, pxL8, pxL9, pxL10, pxL11, pxL12, pxL13, pxL14, pxL15, pxL16, pxL17, pxL18, pxL19, pxL20, pxL21, pxL22, pxL23, pxL24, pxL25, pxL26, pxL27, pxL28, pxL29, pxL30, pxL31, pxL32, pxL33, pxL34, pxL35, pxL36, pxL37, pxL38, pxL39, pxL40, pxL41, pxL42, pxL43, pxL44, pxL45, pxL46, pxL47, pxL48, pxL49, pxL51, pxL57, pxL58, pxL59, pxL60, pxL61, pxL62, pxL63, pxL64, pxL65, pxL66, pxL67, pxL68, pxL69, pxL70, pxL71, pxL72, pxL73, pxL74, pxL75, pxL76, pxL77, pxL78, pxL79, pxL80, pxL81, pxL82, pxL83, pxL84, pxL85, pxL86, pxL87, pxL88, pxL89, pxL90, pxL91, pxL92, pxL93, pxL94, pxL95, pxL96, pxL97, pxL98, pxL99, pxL100, pxL101, pxL102, pxL103, pxL104, pxL105, pxL106, pxL107, pxL108, pxL109, pxL110, pxL111, pxL112, pxL113, pxL114, pxL115, pxL116, pxL117, pxL118, pxL119, pxL120, pxL121, pxL122, pxL123, pxL124, pxL125, pxL126, pxL200, pxL240, pxL287, pxL388, pxL400, pxL429, pxL431, pxL440, pxL1240, pxL1600, pxL1681, pxL12028, pxL13849, pxL14880, pxL25173, pxL26908, pxL49600, pxL65535, pxL65536, ↓reduceIte, pxJ_add, pxJ_sub, pxJ_mul, pxJ_neg, pxD_lt_t, pxD_lt_f, pxD_le_t, pxD_le_f, pxD_eq_t, pxD_eq_f, pxJ_lt, pxJ_le, pxJ_eq, px_gI, px_gR, px_pI, px_rc, px_ai, px_ar, px_si, px_ln, px_cp, pxJ_div, pxJ_b8, pxJ_byte, px_b2, px_bs, px_rb0, px_rb1, px_min, px_max, px_compare, pxW_some, jw_t_I, px_cpt, jw_r_I, px_cpr, jw_l_I, px_cpl, Option.some.injEq]
        by_cases hb : c < 97
        · have q3 : (pxJ c < 97) = True := by simp (disch := first | assumption | omega | (simp only [jw_t_I, px_cpt]; done) | (simp only [jw_t_I, px_cpt]; omega)) only [pxL0, pxL1, pxL2, pxL3, pxL4, pxL5, pxL6, pxL7, pxL8, pxL9, pxL10, pxL11, pxL12, pxL13, pxL14, pxL15, pxL16, pxL17, pxL18, pxL19, pxL20, pxL21, pxL22, pxL23, pxL24, pxL25, pxL26, pxL27, pxL28, pxL29, pxL30, pxL31, pxL32, pxL33, pxL34, pxL35, pxL36, pxL37, pxL38, pxL39, pxL40, pxL41, pxL42, pxL43, pxL44, pxL45, pxL46, pxL47, pxL48, pxL49, pxL51, pxL57, pxL58, pxL59, pxL60, pxL61, pxL62, pxL63, pxL64, pxL65, pxL66, pxL67, pxL68, pxL69, pxL70, pxL71, pxL72, pxL73, pxL74, pxL75, pxL76, pxL77, pxL78, pxL79, pxL80, pxL81, pxL82, pxL83, pxL84, pxL85, pxL86, pxL87, pxL88, pxL89, pxL90, pxL91, pxL92, pxL93, pxL94, pxL95, pxL96, pxL97, pxL98, pxL99, pxL100, pxL101, pxL102, pxL103, pxL104, pxL105, pxL106, pxL107, pxL108, pxL109, pxL110, pxL111, pxL112, pxL113, pxL114, pxL115, pxL116, pxL117, pxL118, pxL119, pxL120, pxL121, pxL122, pxL123, pxL124, pxL125, pxL126, pxL200, pxL240, pxL287, pxL388, pxL400, pxL429, pxL431, pxL440, pxL1240, pxL1600, pxL1681, pxL12028, pxL13849, pxL14880, pxL25173, pxL26908, pxL49600, pxL65535, pxL65536, ↓reduceIte, pxJ_add, pxJ_sub, pxJ_mul, pxJ_neg, pxD_lt_t, pxD_lt_f, pxD_le_t, pxD_le_f, pxD_eq_t, pxD_eq_f, pxJ_lt, pxJ_le, pxJ_eq, px_gI, px_gR, px_pI, px_rc, px_ai, px_ar, px_si, px_ln, px_cp, pxJ_div, pxJ_b8, pxJ_byte, px_b2, px_bs, px_rb0, px_rb1, px_min, px_max, px_compare, pxW_some, jw_t_I, px_cpt, jw_r_I, px_cpr, jw_l_I, px_cpl, Option.some.injEq]
          by_cases hb2 : c < 48
          · have q4 : (pxJ c < 48) = True := by simp (disch := first | assumption | omega | (simp only [jw_t_I, px_cpt]; done) | (simp only [jw_t_I, px_cpt]; omega)) only [pxL0, pxL1, pxL2, pxL3, pxL4, pxL5, pxL6, pxL7, pxL8, pxL9, pxL10, pxL11, pxL12, pxL13, pxL14, pxL15, pxL16, pxL17, pxL18, pxL19, pxL20, pxL21, pxL22, pxL23, pxL24, pxL25, pxL26, pxL27, pxL28, pxL29, pxL30, pxL31, pxL32, pxL33, pxL34, pxL35, pxL36, pxL37, pxL38, pxL39, pxL40, pxL41, pxL42, pxL43, pxL44, pxL45, pxL46, pxL47, pxL48, pxL49, pxL51, pxL57, pxL58, pxL59, pxL60, pxL61, pxL62, pxL63, pxL64, pxL65, pxL66, pxL67, pxL68, pxL69, pxL70, pxL71, pxL72, pxL73, pxL74, pxL75, pxL76, pxL77, pxL78, pxL79, pxL80, pxL81, pxL82, pxL83, pxL84, pxL85, pxL86, pxL87, pxL88, pxL89, pxL90, pxL91, pxL92, pxL93, pxL94, pxL95, pxL96, pxL97, pxL98, pxL99, pxL100, pxL101, pxL102, pxL103, pxL104, pxL105, pxL106, pxL107, pxL108, pxL109, pxL110, pxL111, pxL112, pxL113, pxL114, pxL115, pxL116, pxL117, pxL118, pxL119, pxL120, pxL121, pxL122, pxL123, pxL124, pxL125, pxL126, pxL200, pxL240, pxL287, pxL388, pxL400, pxL429, pxL431, pxL440, pxL1240, pxL1600, pxL1681, pxL12028, pxL13849, pxL14880, pxL25173, pxL26908, pxL49600, pxL65535, pxL65536, ↓reduceIte, pxJ_add, pxJ_sub, pxJ_mul, pxJ_neg, pxD_lt_t, pxD_lt_f, pxD_le_t, pxD_le_f, pxD_eq_t, pxD_eq_f, pxJ_lt, pxJ_le, pxJ_eq, px_gI, px_gR, px_pI, px_rc, px_ai, px_ar, px_si, px_ln, px_cp, pxJ_div, pxJ_b8, pxJ_byte, px_b2, px_bs, px_rb0, px_rb1, px_min, px_max, px_compare, pxW_some, jw_t_I, px_cpt, jw_r_I, px_cpr, jw_l_I, px_cpl, Option.some.injEq]
            simp only [q3, q4, q6, ↓reduceIte]
          · have q4 : (pxJ c < 48) = False := by simp (disch := first | assumption | omega | (simp only [jw_t_I, px_cpt]; done) | (simp only [jw_t_I, px_cpt]; omega)) only [pxL0, pxL1, pxL2, pxL3, pxL4, pxL5, pxL6, pxL7, pxL8, pxL9, pxL10, pxL11, pxL12, pxL13, pxL14, pxL15, pxL16, pxL17, pxL18, pxL19, pxL20, pxL21, pxL22, pxL23, pxL24, pxL25, pxL26, pxL27, pxL28, pxL29, pxL30, pxL31, pxL32, pxL33, pxL34, pxL35, pxL36, pxL37, pxL38, pxL39, pxL40, pxL41, pxL42, pxL43, pxL44, pxL45, pxL46, pxL47, pxL48, pxL49, pxL51, pxL57, pxL58, pxL59, pxL60, pxL61, pxL62, pxL63, pxL64, pxL65, pxL66, pxL67, pxL68, pxL69, pxL70, pxL71, pxL72, pxL73, pxL74, pxL75, pxL76, pxL77, pxL78, pxL79, pxL80, pxL81, pxL82, pxL83, pxL84, pxL85, pxL86, pxL87, pxL88, pxL89, pxL90, pxL91, pxL92, pxL93, pxL94, pxL95, pxL96, pxL97, pxL98, pxL99, pxL100, pxL101, pxL102, pxL103, pxL104, pxL105, pxL106, pxL107, pxL108, pxL109, pxL110, pxL111, pxL112, pxL113, pxL114, pxL115, pxL116, pxL117, pxL118, pxL119, pxL120, pxL121, pxL122, pxL123, pxL124, pxL125, pxL126, pxL200, pxL240, pxL287, pxL388, pxL400, pxL429, pxL431, pxL440, pxL1240, pxL1600, pxL1681, pxL12028, pxL13849, pxL14880, pxL25173, pxL26908, pxL49600, pxL65535, pxL65536, ↓reduceIte, pxJ_add, pxJ_sub, pxJ_mul, pxJ_neg, pxD_lt_t, pxD_lt_f, pxD_le_t, pxD_le_f, pxD_eq_t, pxD_eq_f, pxJ_lt, pxJ_le, pxJ_eq, px_gI, px_gR, px_pI, px_rc, px_ai, px_ar, px_si, px_ln, px_cp, pxJ_div, pxJ_b8, pxJ_byte, px_b2, px_bs, px_rb0, px_rb1, px_min, px_max, px_compare, pxW_some, jw_t_I, px_cpt, jw_r_I, px_cpr, jw_l_I, px_cpl, Option.some.injEq]
            have q5 : ((57 : Int32) < pxJ c) = True := by simp (disch := first | assumption | omega | (simp only [jw_t_I, px_cpt]; done) | (simp only [jw_t_I, px_cpt]; omega)) only [pxL0, pxL1, pxL2, pxL3, pxL4, pxL5, pxL6, pxL7, pxL8, pxL9, pxL10, pxL11, pxL12, pxL13, pxL14, pxL15, pxL16, pxL17, pxL18, pxL19, pxL20, pxL21, pxL22, pxL23, pxL24, pxL25, pxL26, pxL27, pxL28, pxL29, pxL30, pxL31, pxL32, pxL33, pxL34, pxL35, pxL36, pxL37, pxL38, pxL39, pxL40, pxL41, pxL42, pxL43, pxL44, pxL45, pxL46, pxL47, pxL48, pxL49, pxL51, pxL57, pxL58, pxL59, pxL60, pxL61, pxL62, pxL63, pxL64, pxL65, pxL66, pxL67, pxL68, pxL69, pxL70, pxL71, pxL72, pxL73, pxL74, pxL75, pxL76, pxL77, pxL78, pxL79, pxL80, pxL81, pxL82, pxL83, pxL84, pxL85, pxL86, pxL87, pxL88, pxL89, pxL90, pxL91, pxL92, pxL93, pxL94, pxL95, pxL96, pxL97, pxL98, pxL99, pxL100, pxL101, pxL102, pxL103, pxL104, pxL105, pxL106, pxL107, pxL108, pxL109, pxL110, pxL111, pxL112, pxL113, pxL114, pxL115, pxL116, pxL117, pxL118, pxL119, pxL120, pxL121, pxL122, pxL123, pxL124, pxL125, pxL126, pxL200, pxL240, pxL287, pxL388, pxL400, pxL429, pxL431, pxL440, pxL1240, pxL1600, pxL1681, pxL12028, pxL13849, pxL14880, pxL25173, pxL26908, pxL49600, pxL65535, pxL65536, ↓reduceIte, pxJ_add, pxJ_sub, pxJ_mul, pxJ_neg, pxD_lt_t, pxD_lt_f, pxD_le_t, pxD_le_f, pxD_eq_t, pxD_eq_f, pxJ_lt, pxJ_le, pxJ_eq, px_gI, px_gR, px_pI, px_rc, px_ai, px_ar, px_si, px_ln, px_cp, pxJ_div, pxJ_b8, pxJ_byte, px_b2, px_bs, px_rb0, px_rb1, px_min, px_max, px_compare, pxW_some, jw_t_I, px_cpt, jw_r_I, px_cpr, jw_l_I, px_cpl, Option.some.injEq]
            simp only [q3, q4, q5, q6, ↓reduceIte]
        · have q3 : (pxJ c < 97) = False := by simp (disch := first | assumption | omega | (simp only [jw_t_I, px_cpt]; done) | (simp only [jw_t_I, px_cpt]; omega)) only [pxL0, pxL1, pxL2, pxL3, pxL4, pxL5, pxL6, pxL7, pxL8, pxL9, pxL10, pxL11, pxL12, pxL13, pxL14, pxL15, pxL16, pxL17, pxL18, pxL19, pxL20, pxL21, pxL22, pxL23, pxL24, pxL25, pxL26, pxL27, pxL28, pxL29, pxL30, pxL31, pxL32, pxL33, pxL34, pxL35, pxL36, pxL37, pxL38, pxL39, pxL40, pxL41, pxL42, pxL43, pxL44, pxL45, pxL46, pxL47, pxL48, pxL49, pxL51, pxL57, pxL58, pxL59, pxL60, pxL61, pxL62, pxL63, pxL64, pxL65, pxL66, pxL67, pxL68, pxL69, pxL70, pxL71, pxL72, pxL73, pxL74, pxL75, pxL76, pxL77, pxL78, pxL79, pxL80, pxL81, pxL82, pxL83, pxL84, pxL85, pxL86, pxL87, pxL88, pxL89, pxL90, pxL91, pxL92, pxL93, pxL94, pxL95, pxL96, pxL97, pxL98, pxL99, pxL100, pxL101, pxL102, pxL103, pxL104, pxL105, pxL106, pxL107, pxL108, pxL109, pxL110, pxL111, pxL112, pxL113, pxL114, pxL115, pxL116, pxL117, pxL118, pxL119, pxL120, pxL121, pxL122, pxL123, pxL124, pxL125, pxL126, pxL200, pxL240, pxL287, pxL388, pxL400, pxL429, pxL431, pxL440, pxL1240, pxL1600, pxL1681, pxL12028, pxL13849, pxL14880, pxL25173, pxL26908, pxL49600, pxL65535, pxL65536, ↓reduceIte, pxJ_add, pxJ_sub, pxJ_mul, pxJ_neg, pxD_lt_t, pxD_lt_f, pxD_le_t, pxD_le_f, pxD_eq_t, pxD_eq_f, pxJ_lt, pxJ_le, pxJ_eq, px_gI, px_gR, px_pI, px_rc, px_ai, px_ar, px_si, px_ln, px_cp, pxJ_div, pxJ_b8, pxJ_byte, px_b2, px_bs, px_rb0, px_rb1, px_min, px_max, px_compare, pxW_some, jw_t_I, px_cpt, jw_r_I, px_cpr, jw_l_I, px_cpl, Option.some.injEq]
          have q7 : ((122 : Int32) < pxJ c) = True := by simp (disch := first | assumption | omega | (simp only [jw_t_I, px_cpt]; done) | (simp only [jw_t_I, px_cpt]; omega)) only [pxL0, pxL1, pxL2, pxL3, pxL4, pxL5, pxL6, pxL7, pxL8, pxL9, pxL10, pxL11, pxL12, pxL13, pxL14, pxL15, pxL16, pxL17, pxL18, pxL19, pxL20, pxL21, pxL22, pxL23, pxL24, pxL25, pxL26, pxL27, pxL28, pxL29, pxL30, pxL31, pxL32, pxL33, pxL34, pxL35, pxL36, pxL37, pxL38, pxL39, pxL40, pxL41, pxL42, pxL43, pxL44, pxL45, pxL46, pxL47, pxL48, pxL49, pxL51, pxL57, pxL58, pxL59, pxL60, pxL61, pxL62, pxL63, pxL64, pxL65, pxL66, pxL67, pxL68, pxL69, pxL70, pxL71, pxL72, pxL73, pxL74, pxL75, pxL76, pxL77, pxL78, pxL79, pxL80, pxL81, pxL82, pxL83, pxL84, pxL85, pxL86, pxL87, pxL88, pxL89, pxL90, pxL91, pxL92, pxL93, pxL94, pxL95, pxL96, pxL97, pxL98, pxL99, pxL100, pxL101, pxL102, pxL103, pxL104, pxL105, pxL106, pxL107, pxL108, pxL109, pxL110, pxL111, pxL112, pxL113, pxL114, pxL115, pxL116, pxL117, pxL118, pxL119, pxL120, pxL121, pxL122, pxL123, pxL124, pxL125, pxL126, pxL200, pxL240, pxL287, pxL388, pxL400, pxL429, pxL431, pxL440, pxL1240, pxL1600, pxL1681, pxL12028, pxL13849, pxL14880, pxL25173, pxL26908, pxL49600, pxL65535, pxL65536, ↓reduceIte, pxJ_add, pxJ_sub, pxJ_mul, pxJ_neg, pxD_lt_t, pxD_lt_f, pxD_le_t, pxD_le_f, pxD_eq_t, pxD_eq_f, pxJ_lt, pxJ_le, pxJ_eq, px_gI, px_gR, px_pI, px_rc, px_ai, px_ar, px_si, px_ln, px_cp, pxJ_div, pxJ_b8, pxJ_byte, px_b2, px_bs, px_rb0, px_rb1, px_min, px_max, px_compare, pxW_some, jw_t_I, px_cpt, jw_r_I, px_cpr, jw_l_I, px_cpl, Option.some.injEq]
          have q4 : (pxJ c < 48) = False := by simp (disch := first | assumption | omega | (simp only [jw_t_I, px_cpt]; done) | (simp only [jw_t_I, px_cpt]; omega)) only [pxL0, pxL1, pxL2, pxL3, pxL4, pxL5, pxL6, pxL7, pxL8, pxL9, pxL10, pxL11, pxL12, pxL13, pxL14, pxL15, pxL16, pxL17, pxL18, pxL19, pxL20, pxL21, pxL22, pxL23, pxL24, pxL25, pxL26, pxL27, pxL28, pxL29, pxL30, pxL31, pxL32, pxL33, pxL34, pxL35, pxL36, pxL37, pxL38, pxL39, pxL40, pxL41, pxL42, pxL43, pxL44, pxL45, pxL46, pxL47, pxL48, pxL49, pxL51, pxL57, pxL58, pxL59, pxL60, pxL61, pxL62, pxL63, pxL64, pxL65, pxL66, pxL67, pxL68, pxL69, pxL70, pxL71, pxL72, pxL73, pxL74, pxL75, pxL76, pxL77, pxL78, pxL79, pxL80, pxL81, pxL82, pxL83, pxL84, pxL85, pxL86, pxL87, pxL88, pxL89, pxL90, pxL91, pxL92, pxL93, pxL94, pxL95, pxL96, pxL97, pxL98, pxL99, pxL100, pxL101, pxL102, pxL103, pxL104, pxL105, pxL106, pxL107, pxL108, pxL109, pxL110, pxL111, pxL112, pxL113, pxL114, pxL115, pxL116, pxL117, pxL118, pxL119, pxL120, pxL121, pxL122, pxL123, pxL124, pxL125, pxL126, pxL200, pxL240, pxL287, pxL388, pxL400, pxL429, pxL431, pxL440, pxL1240, pxL1600, pxL1681, pxL12028, pxL13849, pxL14880, pxL25173, pxL26908, pxL49600, pxL65535, pxL65536, ↓reduceIte, pxJ_add, pxJ_sub, pxJ_mul, pxJ_neg, pxD_lt_t, pxD_lt_f, pxD_le_t, pxD_le_f, pxD_eq_t, pxD_eq_f, pxJ_lt, pxJ_le, pxJ_eq, px_gI, px_gR, px_pI, px_rc, px_ai, px_ar, px_si, px_ln, px_cp, pxJ_div, pxJ_b8, pxJ_byte, px_b2, px_bs, px_rb0, px_rb1, px_min, px_max, px_compare, pxW_some, jw_t_I, px_cpt, jw_r_I, px_cpr, jw_l_I, px_cpl, Option.some.injEq]
          have q5 : ((57 : Int32) < pxJ c) = True := by simp (disch := first | assumption | omega | (simp only [jw_t_I, px_cpt]; done) | (simp only [jw_t_I, px_cpt]; omega)) only [pxL0, pxL1, pxL2, pxL3, pxL4, pxL5, pxL6, pxL7, pxL8, pxL9, pxL10, pxL11, pxL12, pxL13, pxL14, pxL15, pxL16, pxL17, pxL18, pxL19, pxL20, pxL21, pxL22, pxL23, pxL24, pxL25, pxL26, pxL27, pxL28, pxL29, pxL30, pxL31, pxL32, pxL33, pxL34, pxL35, pxL36, pxL37, pxL38, pxL39, pxL40, pxL41, pxL42, pxL43, pxL44, pxL45, pxL46, pxL47, pxL48, pxL49, pxL51, pxL57, pxL58, pxL59, pxL60, pxL61, pxL62, pxL63, pxL64, pxL65, pxL66, pxL67, pxL68, pxL69, pxL70, pxL71, pxL72, pxL73, pxL74, pxL75, pxL76, pxL77, pxL78, pxL79, pxL80, pxL81, pxL82, pxL83, pxL84, pxL85, pxL86, pxL87, pxL88, pxL89, pxL90, pxL91, pxL92, pxL93, pxL94, pxL95, pxL96, pxL97, pxL98, pxL99, pxL100, pxL101, pxL102, pxL103, pxL104, pxL105, pxL106, pxL107, pxL108, pxL109, pxL110, pxL111, pxL112, pxL113, pxL114, pxL115, pxL116, pxL117, pxL118, pxL119, pxL120, pxL121, pxL122, pxL123, pxL124, pxL125, pxL126, pxL200, pxL240, pxL287, pxL388, pxL400, pxL429, pxL431, pxL440, pxL1240, pxL1600, pxL1681, pxL12028, pxL13849, pxL14880, pxL25173, pxL26908, pxL49600, pxL65535, pxL65536, ↓reduceIte, pxJ_add, pxJ_sub, pxJ_mul, pxJ_neg, pxD_lt_t, pxD_lt_f, pxD_le_t, pxD_le_f, pxD_eq_t, pxD_eq_f, pxJ_lt, pxJ_le, pxJ_eq, px_gI, px_gR, px_pI, px_rc, px_ai, px_ar, px_si, px_ln, px_cp, pxJ_div, pxJ_b8, pxJ_byte, px_b2, px_bs, px_rb0, px_rb1, px_min, px_max, px_compare, pxW_some, jw_t_I, px_cpt, jw_r_I, px_cpr, jw_l_I, px_cpl, Option.some.injEq]
          simp only [q3, q4, q5, q6, q7, ↓reduceIte]
theorem px_cmp0 {x : Int64} : (lg_cmp x 0 = pxJ 0) = (x = 0) := by
  rw [show pxJ 0 = (0 : Int32) from rfl]
  apply propext
  unfold lg_cmp
  constructor
  · intro h
    by_cases h1 : x > 0
    · rw [if_pos h1] at h; exact absurd h (by decide)
    · rw [if_neg h1] at h
      by_cases h2 : x = 0
      · exact h2
      · rw [if_neg h2] at h; exact absurd h (by decide)
  · intro h; subst h; decide
theorem pxIx_lt {c : Int} (h : pxIsCh c = true) : pxIx c ≤ 36 := by
  rw [pxIsCh_i] at h; unfold pxIx; split
  · omega
  · split <;> omega
theorem pxBit_and {c : Int} {m : Int64} (h : pxIsCh c = true) : (pxBit c &&& m = 0) = (pxBs m c = false) := by
  have hi := pxIx_lt h
  apply propext
  unfold pxBit pxBs
  rw [if_pos h, ← Int64.toBitVec_inj, show (Int64.ofBitVec (BitVec.twoPow 64 (pxIx c)) &&& m).toBitVec = BitVec.twoPow 64 (pxIx c) &&& m.toBitVec from rfl, show (0 : Int64).toBitVec = 0#64 from rfl, BitVec.twoPow_and]
  by_cases hb : m.toBitVec.getLsbD (pxIx c) = true
  · rw [if_pos hb, hb]
    constructor
    · intro e
      have := congrArg (fun v => BitVec.getLsbD v (pxIx c)) e
      simp only [BitVec.getLsbD_twoPow] at this
      simp [show pxIx c < 64 by omega] at this
    · intro e; cases e
  · rw [if_neg hb]; simp at hb; simp [hb]
theorem pxBs_or {a b : Int64} {c : Int} : pxBs (a ||| b) c = (pxBs a c || pxBs b c) := by
  unfold pxBs
  rw [show (a ||| b).toBitVec = a.toBitVec ||| b.toBitVec from rfl, BitVec.getLsbD_or]
theorem pxBs_bit {c d : Int} (h : pxIsCh c = true) (hd : pxIsCh d = true) : pxBs (pxBit d) c = decide (c = d) := by
  have h1 := pxIx_lt h
  unfold pxBs pxBit
  rw [if_pos hd, show (Int64.ofBitVec (BitVec.twoPow 64 (pxIx d))).toBitVec = BitVec.twoPow 64 (pxIx d) from rfl, BitVec.getLsbD_twoPow]
  have h2 := pxIx_lt hd
  have e : (pxIx d = pxIx c) = (c = d) := by
    apply propext
    rw [pxIsCh_i] at h hd
    unfold pxIx
    constructor
    · intro q; split at q <;> split at q <;> (try split at q) <;> (try split at q) <;> omega
    · intro q; rw [q]
  rw [show decide (pxIx d < 64) = true by rw [decide_eq_true_iff]; omega, Bool.true_and]
  exact decide_eq_decide.mpr (by rw [e])
theorem pxBs_all {c : Int} (h : pxIsCh c = true) : pxBs 137438953471 c = true := by
  have : ∀ k : Fin 37, (137438953471 : Int64).toBitVec.getLsbD k.val = true := by decide +kernel
  exact this ⟨pxIx c, by have := pxIx_lt h; omega⟩
theorem pxBs_not {c : Int} {m : Int64} (h : pxIsCh c = true) : pxBs (137438953471 &&& (m ^^^ (-1))) c = !(pxBs m c) := by
  have h1 := pxIx_lt h
  have ha := pxBs_all h
  unfold pxBs at *
  rw [show (137438953471 &&& (m ^^^ (-1)) : Int64).toBitVec = (137438953471 : Int64).toBitVec &&& (m.toBitVec ^^^ (-1 : Int64).toBitVec) from rfl, BitVec.getLsbD_and, ha, BitVec.getLsbD_xor, Bool.true_and, show (-1 : Int64).toBitVec = BitVec.allOnes 64 from by decide +kernel, BitVec.getLsbD_allOnes, show decide (pxIx c < 64) = true by rw [decide_eq_true_iff]; omega, Bool.xor_true]
theorem pxBs_0 {c : Int} : pxBs 0 c = false := by
  unfold pxBs
  rw [show (0 : Int64).toBitVec = 0#64 from rfl, BitVec.getLsbD_zero]
