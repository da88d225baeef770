/-! the reference, line by line: the places of orders, and the loop's steps -/
def pyInc (hi : Int) : Int → List Int → Prop
  | lo, [] => lo ≤ hi
  | lo, q :: r => lo ≤ q ∧ pyInc hi (q + 1) r
theorem pyInc.lo {hi : Int} : ∀ {l : List Int} {lo lo' : Int}, pyInc hi lo' l → lo ≤ lo' → pyInc hi lo l
  | [], lo, lo', h, e => by
    have h' : lo' ≤ hi := h
    show lo ≤ hi
    omega
  | q :: r, lo, lo', h, e => ⟨by have := h.1; omega, h.2⟩
theorem pyInc.app {hi mid : Int} : ∀ {a b : List Int} {lo : Int}, pyInc mid lo a → pyInc hi mid b → pyInc hi lo (a ++ b)
  | [], b, lo, h, h2 => h2.lo h
  | q :: r, b, lo, h, h2 => ⟨h.1, pyInc.app h.2 h2⟩
theorem pyInc.hi_le {hi : Int} : ∀ {l : List Int} {lo : Int}, pyInc hi lo l → lo ≤ hi
  | [], lo, h => h
  | q :: r, lo, h => by
    have a := h.1
    have b := pyInc.hi_le h.2
    omega
theorem pyInc.up {hi hi' : Int} : ∀ {l : List Int} {lo : Int}, pyInc hi lo l → hi ≤ hi' → pyInc hi' lo l
  | [], lo, h, e => by
    have h' : lo ≤ hi := h
    show lo ≤ hi'
    omega
  | q :: r, lo, h, e => ⟨h.1, pyInc.up h.2 e⟩
theorem pyInc.at {hi : Int} : ∀ {l : List Int} {lo : Int} {i : Nat} {q : Int}, pyInc hi lo l → l[i]? = some q → lo ≤ q ∧ q < hi
  | [], _, _, _, _, e => by cases e
  | a :: r, lo, 0, q, h, e => by
    cases e
    have a := h.1
    have b := pyInc.hi_le h.2
    omega
  | a :: r, lo, i + 1, q, h, e => by
    have e' : r[i]? = some q := e
    have b := pyInc.at h.2 e'
    have a := h.1
    omega
theorem pyInc.lt {hi : Int} : ∀ {l : List Int} {lo : Int} {i j : Nat} {a b : Int}, pyInc hi lo l → l[i]? = some a → l[j]? = some b → i < j → a < b
  | [], _, _, _, _, _, _, e, _, _ => by cases e
  | c :: r, lo, 0, 0, a, b, h, e, e2, ij => by omega
  | c :: r, lo, 0, j + 1, a, b, h, e, e2, ij => by
    cases e
    have e' : r[j]? = some b := e2
    have := pyInc.at h.2 e'
    omega
  | c :: r, lo, i + 1, 0, a, b, h, e, e2, ij => by omega
  | c :: r, lo, i + 1, j + 1, a, b, h, e, e2, ij => by
    have e' : r[i]? = some a := e
    have e2' : r[j]? = some b := e2
    exact pyInc.lt h.2 e' e2' (by omega)
theorem pyBlk_inc {s : List Int} : ∀ (m : Nat) (p : Int), 0 ≤ p → p ≤ s.length → (pxBlk s m p).1 = true → pyInc (pxBlk s m p).2.1 p (pxBlk s m p).2.2
  | 0, p, p0, p1, ok => by cases ok
  | m + 1, p, p0, p1, ok => by
    have ib := pxInn_b (s := s) p0 p1
    have eB : pxBlk s (m + 1) p = (if (pxInn s p).1 = true then (if pxP s (pxInn s p).2 = 59 then ((pxBlk s m ((pxInn s p).2 + 1)).1, (pxBlk s m ((pxInn s p).2 + 1)).2.1, p :: (pxBlk s m ((pxInn s p).2 + 1)).2.2) else if pxP s (pxInn s p).2 = 125 then (true, (pxInn s p).2 + 1, [p]) else (false, (pxInn s p).2, [])) else (false, (pxInn s p).2, [])) := rfl
    rw [eB] at ok ⊢
    by_cases c : (pxInn s p).1 = true
    · rw [if_pos c] at ok ⊢
      have i3 := ib.2.2 c
      by_cases d : pxP s (pxInn s p).2 = 59
      · rw [if_pos d] at ok ⊢
        have pl := (pxP_lt (s := s) (p := (pxInn s p).2) (by omega)).2
        exact ⟨Int.le_refl _, (pyBlk_inc m _ (by omega) (by omega) ok).lo (by omega)⟩
      · rw [if_neg d] at ok ⊢
        by_cases e : pxP s (pxInn s p).2 = 125
        · rw [if_pos e]
          exact ⟨Int.le_refl _, by show p + 1 ≤ (pxInn s p).2 + 1; omega⟩
        · rw [if_neg e] at ok; cases ok
    · rw [if_neg c] at ok; cases ok
theorem pyTop_inc {s : List Int} {p : Int} (p0 : 0 ≤ p) (p1 : p ≤ s.length) (ok : (pxTop s p).1 = true) : pyInc (pxTop s p).2.1 (p + 1) (pxTop s p).2.2 := by
  have tb := pxTop_b (s := s) p0 p1
  have t3 := tb.2.2 ok
  have tp := pyTop_a ok
  have v := pxTop_v p0 p1 ok
  have wb := pxWh_b (s := s) p0 p1
  by_cases c : pxAc s p = 123
  · obtain ⟨a, b⟩ := tp.2.2.2.1 c
    rw [b]
    have pl := (pxP_lt (s := s) (p := (pxWh s p).2.1) (by unfold pxAc at c; omega)).2
    exact (pyBlk_inc 61 _ (by omega) (by omega) a).lo (by omega)
  by_cases d : pxAc s p = 103 ∨ pxAc s p = 71
  · obtain ⟨a, b, e⟩ := tp.2.2.2.2 d
    have pl := (pxP_lt (s := s) (p := (pxWh s p).2.1) (by unfold pxAc at d; omega)).2
    have pb := pxPtn_b (s := s) (p := (pxWh s p).2.1 + 1) (by omega) (by omega)
    have pb2 := pb.2.2 a
    rw [e]
    unfold pyPs at b ⊢
    by_cases g : pxP s (pxPtn s ((pxWh s p).2.1 + 1)).2 = 123
    · rw [if_pos g] at b ⊢
      have pl2 := (pxP_lt (s := s) (p := (pxPtn s ((pxWh s p).2.1 + 1)).2) (by omega)).2
      exact (pyBlk_inc 61 _ (by omega) (by omega) b).lo (by omega)
    · rw [if_neg g] at b ⊢
      have ib := (pxInn_b (s := s) (p := (pxPtn s ((pxWh s p).2.1 + 1)).2) (by omega) (by omega)).2.2 b
      refine ⟨by omega, ?_⟩
      show (pxPtn s ((pxWh s p).2.1 + 1)).2 + 1 ≤ (pxInn s (pxPtn s ((pxWh s p).2.1 + 1)).2).2
      omega
  · have e := v.2.2.2.2 (fun z => by
      have z' : pxAc s p = 123 ∨ pxAc s p = 103 ∨ pxAc s p = 71 := z
      omega)
    have e' : (pxTop s p).2.2 = [] := e
    rw [e']
    show p + 1 ≤ (pxTop s p).2.1
    omega
theorem pyFlI_fst : ∀ (ps : List Int) (i : Nat), (pxFlI ps i).map Prod.fst = ps
  | [], _ => rfl
  | q :: r, i => by
    show q :: (pxFlI r (i + 1)).map Prod.fst = q :: r
    rw [pyFlI_fst r]
theorem pyFl_inc {s : List Int} : ∀ (L : List (Int × List Int)) (p : Int) (i : Nat), pyLs s p L → pyInc s.length p ((pxFl L i).map Prod.fst)
  | [], p, i, A => by
    have A' : p = s.length := A
    show p ≤ (s.length : Int)
    omega
  | t :: r, p, i, A => by
    obtain ⟨et, p0, pl, ok, e2, nx⟩ := A
    have tb := pxTop_b (s := s) p0 (by omega)
    have inc := pyTop_inc p0 (by omega) ok
    rw [← e2] at inc
    have e : (pxFl (t :: r) i).map Prod.fst = (t.1 :: t.2) ++ (pxFl r (i + 1 + t.2.length)).map Prod.fst := by
      show (((t.1, i + 1 + t.2.length) :: pxFlI t.2 (i + 1)) ++ pxFl r (i + 1 + t.2.length)).map Prod.fst = _
      rw [List.map_append, List.map_cons, pyFlI_fst]
    rw [e]
    have h1 : pyInc (pxTop s p).2.1 p (t.1 :: t.2) := ⟨by omega, by rw [et]; exact inc⟩
    rcases nx with ⟨c59, ne, z⟩ | ⟨g, z⟩
    · exact h1.app ((pyFl_inc r _ _ z).lo (by omega))
    · rw [z]
      exact h1.app (by show (pxTop s p).2.1 ≤ (s.length : Int); omega)
theorem pyFl_ne {s : List Int} {L : List (Int × List Int)} (A : pyLs s 0 L) {k k' : Nat} {e e' : Int × Nat} (h : (pxFl L 0)[k]? = some e) (h' : (pxFl L 0)[k']? = some e') (n : k ≠ k') : e.1 ≠ e'.1 := by
  have inc := pyFl_inc L 0 0 A
  have m : ((pxFl L 0).map Prod.fst)[k]? = some e.1 := by rw [List.getElem?_map, h]; rfl
  have m' : ((pxFl L 0).map Prod.fst)[k']? = some e'.1 := by rw [List.getElem?_map, h']; rfl
  by_cases c : k < k'
  · have := inc.lt m m' c; omega
  · have := inc.lt m' m (by omega); omega
theorem pyFl_top : ∀ (L : List (Int × List Int)) (i j : Nat) (t : Int × List Int), L[j]? = some t → (pxFl L i)[pxCnt (L.take j)]? = some (t.1, i + pxCnt (L.take (j + 1)))
  | [], _, _, _, e => by cases e
  | u :: r, i, 0, t, e => by
    cases e
    show some (u.1, i + 1 + u.2.length) = some (u.1, i + (1 + u.2.length + pxCnt (r.take 0)))
    rw [show i + 1 + u.2.length = i + (1 + u.2.length + pxCnt (r.take 0)) by rw [List.take_zero]; show _ = i + (1 + u.2.length + 0); omega]
  | u :: r, i, j + 1, t, e => by
    have e' : r[j]? = some t := e
    have ih := pyFl_top r (i + 1 + u.2.length) j t e'
    have l : ((u.1, i + 1 + u.2.length) :: pxFlI u.2 (i + 1)).length = 1 + u.2.length := by rw [List.length_cons, pxFlI_len]; omega
    show (((u.1, i + 1 + u.2.length) :: pxFlI u.2 (i + 1)) ++ pxFl r (i + 1 + u.2.length))[1 + u.2.length + pxCnt (r.take j)]? = some (t.1, i + (1 + u.2.length + pxCnt (r.take (j + 1))))
    rw [List.getElem?_append_right (by omega), l, show 1 + u.2.length + pxCnt (r.take j) - (1 + u.2.length) = pxCnt (r.take j) by omega, ih]
    rw [show i + 1 + u.2.length + pxCnt (r.take (j + 1)) = i + (1 + u.2.length + pxCnt (r.take (j + 1))) by omega]
theorem pyFlI_at : ∀ (ps : List Int) (i k : Nat) (q : Int), ps[k]? = some q → (pxFlI ps i)[k]? = some (q, i + k + 1)
  | [], _, _, _, e => by cases e
  | a :: r, i, 0, q, e => by cases e; rfl
  | a :: r, i, k + 1, q, e => by
    have e' : r[k]? = some q := e
    have ih := pyFlI_at r (i + 1) k q e'
    show (pxFlI r (i + 1))[k]? = _
    rw [ih, show i + 1 + k + 1 = i + (k + 1) + 1 by omega]
theorem pyFl_in : ∀ (L : List (Int × List Int)) (i j k : Nat) (t : Int × List Int) (q : Int), L[j]? = some t → t.2[k]? = some q → (pxFl L i)[pxCnt (L.take j) + 1 + k]? = some (q, i + (pxCnt (L.take j) + 1 + k) + 1)
  | [], _, _, _, _, _, e, _ => by cases e
  | u :: r, i, 0, k, t, q, e, e2 => by
    cases e
    have kl : k < u.2.length := (List.getElem?_eq_some_iff.mp e2).1
    have ih := pyFlI_at u.2 (i + 1) k q e2
    have l : ((u.1, i + 1 + u.2.length) :: pxFlI u.2 (i + 1)).length = 1 + u.2.length := by rw [List.length_cons, pxFlI_len]; omega
    show (((u.1, i + 1 + u.2.length) :: pxFlI u.2 (i + 1)) ++ pxFl r (i + 1 + u.2.length))[0 + 1 + k]? = some (q, i + (0 + 1 + k) + 1)
    rw [List.getElem?_append_left (by omega), show 0 + 1 + k = k + 1 by omega]
    show (pxFlI u.2 (i + 1))[k]? = _
    rw [ih, show i + 1 + k + 1 = i + (k + 1) + 1 by omega]
  | u :: r, i, j + 1, k, t, q, e, e2 => by
    have e' : r[j]? = some t := e
    have ih := pyFl_in r (i + 1 + u.2.length) j k t q e' e2
    have l : ((u.1, i + 1 + u.2.length) :: pxFlI u.2 (i + 1)).length = 1 + u.2.length := by rw [List.length_cons, pxFlI_len]; omega
    show (((u.1, i + 1 + u.2.length) :: pxFlI u.2 (i + 1)) ++ pxFl r (i + 1 + u.2.length))[1 + u.2.length + pxCnt (r.take j) + 1 + k]? = some (q, i + (1 + u.2.length + pxCnt (r.take j) + 1 + k) + 1)
    rw [List.getElem?_append_right (by omega), l, show 1 + u.2.length + pxCnt (r.take j) + 1 + k - (1 + u.2.length) = pxCnt (r.take j) + 1 + k by omega, ih]
    rw [show i + 1 + u.2.length + (pxCnt (r.take j) + 1 + k) + 1 = i + (1 + u.2.length + pxCnt (r.take j) + 1 + k) + 1 by omega]
/-- a step of the loop -/
theorem pyLoop_s {s : List Int} {L : List (Int × List Int)} {T : pxTx} {m k : Nat} {came : Int} {G : Nat → pxFg} {β : pxBe} {e : Int × Nat} (h : (pxFl L 0)[k]? = some e) (R : Int × pxBq) (eR : R = pxBOrd s L T k e.1 e.2 came G β.1 β.2.1 β.2.2.1 β.2.2.2) : pxBLoop s L T (m + 1) k false false came G β = if R.1 ≠ 0 then (came + 1, R.1, β.2.1, β.2.2.1) else pxBLoop s L T m R.2.1 R.2.2.1 R.2.2.2.1 (came + 1) R.2.2.2.2.1 R.2.2.2.2.2 := by
  have kl : k < pxCnt L := by
    have := (List.getElem?_eq_some_iff.mp h).1
    rwa [pxFl_len] at this
  rw [eR]
  show (if false = false ∧ k < pxCnt L then ((pxFl L 0)[k]?).elim (came, 0, β.2.1, β.2.2.1) (fun e => if (pxBOrd s L T k e.1 e.2 came G β.1 β.2.1 β.2.2.1 β.2.2.2).1 ≠ 0 then (came + 1, (pxBOrd s L T k e.1 e.2 came G β.1 β.2.1 β.2.2.1 β.2.2.2).1, β.2.1, β.2.2.1)
        else pxBLoop s L T m (pxBOrd s L T k e.1 e.2 came G β.1 β.2.1 β.2.2.1 β.2.2.2).2.1 (pxBOrd s L T k e.1 e.2 came G β.1 β.2.1 β.2.2.1 β.2.2.2).2.2.1 (pxBOrd s L T k e.1 e.2 came G β.1 β.2.1 β.2.2.1 β.2.2.2).2.2.2.1 (came + 1) (pxBOrd s L T k e.1 e.2 came G β.1 β.2.1 β.2.2.1 β.2.2.2).2.2.2.2.1 (pxBOrd s L T k e.1 e.2 came G β.1 β.2.1 β.2.2.1 β.2.2.2).2.2.2.2.2) else _) = _
  rw [if_pos ⟨rfl, kl⟩, h]
  rfl
/-- behind the last order, or where a line is left -/
theorem pyLoop_e {s : List Int} {L : List (Int × List Int)} {T : pxTx} {m k : Nat} {lv en : Bool} {came : Int} {G : Nat → pxFg} {β : pxBe} (h : ¬ (lv = false ∧ k < pxCnt L)) : pxBLoop s L T (m + 1) k lv en came G β = (pxBEnd β.1 β.2.1).elim (came, 4, β.2.1, β.2.2.1) fun F =>
      if en = true then (pxBRest (T.1.drop β.1.2.2.1.toNat) F).elim (came, 4, F, β.2.2.1) (fun F' => (came, 0, F', β.2.2.1))
      else if β.1.2.2.1 < (T.1.length : Int) then pxBLoop s L T m (if lv = true then k else 0) false false came G (pxBNext T β.1, F, β.2.2.1, false)
      else (came, 0, F, β.2.2.1) := by
  show (if lv = false ∧ k < pxCnt L then _ else _) = _
  rw [if_neg h]
