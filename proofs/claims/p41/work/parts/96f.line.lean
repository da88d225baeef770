/-! a script of such orders line by line -/
section
variable {s : List Int} {L : List (Int × List Int)} {T : pxTx}
theorem qz_fl : ∀ (L : List (Int × List Int)) (i k : Nat), (∀ t ∈ L, t.2 = []) → (pxFl L i)[k]? = (L[k]?).map (fun t => (t.1, i + k + 1))
  | [], i, k, _ => by rw [List.getElem?_nil]; exact List.getElem?_nil
  | t :: L, i, k, h => by
    have e : pxFl (t :: L) i = (t.1, i + 1) :: pxFl L (i + 1) := by
      show ((t.1, i + 1 + t.2.length) :: pxFlI t.2 (i + 1)) ++ pxFl L (i + 1 + t.2.length) = _
      rw [h t List.mem_cons_self]
      rfl
    rw [e]
    cases k with
    | zero => rfl
    | succ k =>
      rw [List.getElem?_cons_succ, List.getElem?_cons_succ, qz_fl L (i + 1) k (fun x hx => h x (List.mem_cons_of_mem _ hx)), show i + 1 + k + 1 = i + (k + 1) + 1 by omega]
theorem qz_cnt : ∀ (L : List (Int × List Int)), (∀ t ∈ L, t.2 = []) → pxCnt L = L.length
  | [], _ => rfl
  | t :: L, h => by
    show 1 + t.2.length + pxCnt L = L.length + 1
    rw [h t List.mem_cons_self, qz_cnt L (fun x hx => h x (List.mem_cons_of_mem _ hx)), List.length_nil]
    omega
theorem qz_clr {S : pxSto} : ∀ (FL : List (Int × Nat)), (∀ e ∈ FL, pxAc s e.1 ≠ 119) → pxBClr s FL S = S
  | [], _ => rfl
  | e :: FL, h => by
    show pxBClr s FL (if pxAc s e.1 = 119 then _ else S) = S
    rw [if_neg (h e List.mem_cons_self)]
    exact qz_clr FL (fun x hx => h x (List.mem_cons_of_mem _ hx))
def qzHL (s : List Int) (L : List (Int × List Int)) : Prop := ∀ t ∈ L, t.2 = [] ∧ (pxWh s t.1).2.2.1 = 1 ∧ qzIsC (pxAc s t.1) ∧ ¬ pxBar s t.1 = true
theorem qz_bord {k : Nat} {q : Int} {nx : Nat} {came : Int} {G : Nat → pxFg} {W : pxWk} {Fr : pxFh} {S : pxSto} {rep : Bool} (hw : (pxWh s q).2.2.1 = 1) (hc : qzIsC (pxAc s q)) (hb : ¬ pxBar s q = true) (c4 : came + 1 ≤ 400) (ng : W.2.2.2.2.1 = false) :
    (30 < (qzC s (pxWh s q).2.1 W.2.2.2.2.2.1).length → (pxBOrd s L T k q nx came G W Fr S rep).1 ≠ 0) ∧ (¬ 30 < (qzC s (pxWh s q).2.1 W.2.2.2.2.2.1).length → ∃ rep', pxBOrd s L T k q nx came G W Fr S rep = (0, nx, false, false, pxBSet G k (G k), pxWr W (qzC s (pxWh s q).2.1 W.2.2.2.2.2.1), Fr, S, rep')) := by
  have eH : pxBHold s q (T.1.length : Int) W Fr (G k) = (true, G k) := by
    unfold pxBHold
    rw [if_pos (by omega)]
  have n3 : ¬ (pxAc s q = 103 ∨ pxAc s q = 71 ∨ pxAc s q = 123) := by unfold qzIsC at hc; omega
  have st : ¬ pxSteer (pxAc s q) = true := fun z => by
    unfold pxSteer at z
    have := of_decide_eq_true z
    unfold qzIsC at hc
    omega
  have hc' : pxP s (pxWh s q).2.1 = 62 ∨ pxP s (pxWh s q).2.1 = 115 ∨ pxP s (pxWh s q).2.1 = 122 ∨ pxP s (pxWh s q).2.1 = 60 := hc
  have eO : pxBOrd s L T k q nx came G W Fr S rep = ((pxBAct s (pxWh s q).2.1 (pxWh s q).2.2.1 (G k).2.2.1 T W Fr S rep).1, if (pxBAct s (pxWh s q).2.1 (pxWh s q).2.2.1 (G k).2.2.1 T W Fr S rep).2.1.2.2.2.2.1 = true then pxCnt L else nx, false, false, pxBSet G k (G k), (pxBAct s (pxWh s q).2.1 (pxWh s q).2.2.1 (G k).2.2.1 T W Fr S rep).2) := by
    unfold pxBOrd
    rw [if_neg (show ¬ 400 < came + 1 by omega), if_neg hb, eH, if_neg (show ¬ ((true, G k) : Bool × pxFg).1 = false from fun z => absurd (show true = false from z) (by decide)), if_neg n3, if_neg st]
  have eA : pxBAct s (pxWh s q).2.1 (pxWh s q).2.2.1 (G k).2.2.1 T W Fr S rep = if 30 < (pxChg s (pxWh s q).2.1 W.2.2.2.2.2.1).1.length then (4, W, Fr, S, rep) else (0, pxWr W (pxChg s (pxWh s q).2.1 W.2.2.2.2.2.1).1, Fr, S, (rep || (pxChg s (pxWh s q).2.1 W.2.2.2.2.2.1).2)) := by
    unfold pxBAct
    rw [if_pos hc']
  rw [eO, eA]
  refine ⟨fun c => ?_, fun c => ⟨(rep || (pxChg s (pxWh s q).2.1 W.2.2.2.2.2.1).2), ?_⟩⟩
  · rw [if_pos (show 30 < (pxChg s (pxWh s q).2.1 W.2.2.2.2.2.1).1.length from c)]
    exact fun z => absurd (show (4 : Int) = 0 from z) (by decide)
  · rw [if_neg (show ¬ 30 < (pxChg s (pxWh s q).2.1 W.2.2.2.2.2.1).1.length from c)]
    have gg : ¬ ((0 : Int), (pxWr W (pxChg s (pxWh s q).2.1 W.2.2.2.2.2.1).1, Fr, S, (rep || (pxChg s (pxWh s q).2.1 W.2.2.2.2.2.1).2))).2.1.2.2.2.2.1 = true := fun z => by
      have z : W.2.2.2.2.1 = true := z
      rw [ng] at z
      cases z
    rw [if_neg gg]
    rfl
theorem qz_bU {m k : Nat} {leaving ending : Bool} {came : Int} {G : Nat → pxFg} {β : pxBe} : pxBLoop s L T (m + 1) k leaving ending came G β =
    if leaving = false ∧ k < pxCnt L then
      ((pxFl L 0)[k]?).elim (came, 0, β.2.1, β.2.2.1) fun e =>
        if (pxBOrd s L T k e.1 e.2 came G β.1 β.2.1 β.2.2.1 β.2.2.2).1 ≠ 0 then (came + 1, (pxBOrd s L T k e.1 e.2 came G β.1 β.2.1 β.2.2.1 β.2.2.2).1, β.2.1, β.2.2.1)
        else pxBLoop s L T m (pxBOrd s L T k e.1 e.2 came G β.1 β.2.1 β.2.2.1 β.2.2.2).2.1 (pxBOrd s L T k e.1 e.2 came G β.1 β.2.1 β.2.2.1 β.2.2.2).2.2.1 (pxBOrd s L T k e.1 e.2 came G β.1 β.2.1 β.2.2.1 β.2.2.2).2.2.2.1 (came + 1) (pxBOrd s L T k e.1 e.2 came G β.1 β.2.1 β.2.2.1 β.2.2.2).2.2.2.2.1 (pxBOrd s L T k e.1 e.2 came G β.1 β.2.1 β.2.2.1 β.2.2.2).2.2.2.2.2
    else (pxBEnd β.1 β.2.1).elim (came, 4, β.2.1, β.2.2.1) fun F =>
      if ending = true then (pxBRest (T.1.drop β.1.2.2.1.toNat) F).elim (came, 4, F, β.2.2.1) (fun F' => (came, 0, F', β.2.2.1))
      else if β.1.2.2.1 < (T.1.length : Int) then pxBLoop s L T m (if leaving = true then k else 0) false false came G (pxBNext T β.1, F, β.2.2.1, false)
      else (came, 0, F, β.2.2.1) := rfl
theorem qz_line (HL : qzHL s L) : ∀ (rem pre : List (Int × List Int)) (m : Nat) (came : Int) (G : Nat → pxFg) (W : pxWk) (F : pxFh) (S : pxSto) (rep : Bool), L = pre ++ rem → W.2.2.2.2.1 = false → came + rem.length ≤ 400 → (pxBLoop s L T (m + rem.length) pre.length false false came G (W, F, S, rep)).2.1 = 0 →
    ∃ G' rep', pxBLoop s L T (m + rem.length) pre.length false false came G (W, F, S, rep) = pxBLoop s L T m L.length false false (came + rem.length) G' (pxWr W (rem.foldl (fun r t => qzF s t r) W.2.2.2.2.2.1), F, S, rep')
  | [], pre, m, came, G, W, F, S, rep, eL, ng, c4, z => by
    rw [List.append_nil] at eL
    refine ⟨G, rep, ?_⟩
    rw [eL, List.length_nil, show came + ((0 : Nat) : Int) = came by omega]
    rfl
  | t :: rem, pre, m, came, G, W, F, S, rep, eL, ng, c4, z => by
    rw [List.length_cons] at c4
    have em : m + (t :: rem).length = m + rem.length + 1 := by rw [List.length_cons]; omega
    have ej : L[pre.length]? = some t := by
      rw [eL, List.getElem?_append_right (Nat.le_refl _), Nat.sub_self]
      rfl
    have tm : t ∈ L := List.mem_of_getElem? ej
    obtain ⟨h1, h2, h3, h4⟩ := HL t tm
    have jl : pre.length < L.length := (List.getElem?_eq_some_iff.mp ej).1
    have eF : (pxFl L 0)[pre.length]? = some (t.1, pre.length + 1) := by
      rw [qz_fl L 0 pre.length (fun x hx => (HL x hx).1), ej, Option.map_some, Nat.zero_add]
    have ec : pxCnt L = L.length := qz_cnt L (fun x hx => (HL x hx).1)
    obtain ⟨b1, b2⟩ := qz_bord (L := L) (T := T) (k := pre.length) (nx := pre.length + 1) (came := came) (G := G) (Fr := F) (S := S) (rep := rep) h2 h3 h4 (by omega) ng
    rw [em] at z ⊢
    rw [qz_bU, if_pos ⟨rfl, by rw [ec]; exact jl⟩, eF, Option.elim_some] at z ⊢
    by_cases c : 30 < (qzC s (pxWh s t.1).2.1 W.2.2.2.2.2.1).length
    · have n0 := b1 c
      rw [if_pos n0] at z
      exact absurd z n0
    · obtain ⟨rep', eo⟩ := b2 c
      have e0 : (pxBOrd s L T pre.length (t.1, pre.length + 1).1 (t.1, pre.length + 1).2 came G (W, F, S, rep).1 (W, F, S, rep).2.1 (W, F, S, rep).2.2.1 (W, F, S, rep).2.2.2) = (0, pre.length + 1, false, false, pxBSet G pre.length (G pre.length), pxWr W (qzC s (pxWh s t.1).2.1 W.2.2.2.2.2.1), F, S, rep') := eo
      rw [e0, if_neg (fun y => y rfl)] at z ⊢
      have el : (pre ++ [t]).length = pre.length + 1 := by rw [List.length_append, List.length_singleton]
      have ih := qz_line HL rem (pre ++ [t]) m (came + 1) (pxBSet G pre.length (G pre.length)) (pxWr W (qzC s (pxWh s t.1).2.1 W.2.2.2.2.2.1)) F S rep' (by rw [eL, List.append_assoc]; rfl) ng (by omega)
      rw [el] at ih
      obtain ⟨G', rep2, e2⟩ := ih z
      refine ⟨G', rep2, ?_⟩
      show pxBLoop s L T (m + rem.length) (pre.length + 1) false false (came + 1) (pxBSet G pre.length (G pre.length)) (pxWr W (qzC s (pxWh s t.1).2.1 W.2.2.2.2.2.1), F, S, rep') = _
      rw [e2, List.length_cons, show came + 1 + (rem.length : Int) = came + ((rem.length + 1 : Nat) : Int) by omega]
      rfl
def qzRw (s : List Int) (L : List (Int × List Int)) (r : List Int) : List Int := L.foldl (fun r t => qzF s t r) r
theorem qz_lns (HL : qzHL s L) (l4 : L.length = 4) : ∀ (rest pre : pxLs) (a : Int × List Int) (m : Nat) (came : Int) (G : Nat → pxFg) (F : pxFh) (S : pxSto) (rep : Bool), T.1 = pre ++ a :: rest → 0 ≤ came → came + 4 * (rest.length + 1) ≤ 400 →
    (pxBLoop s L T (m + 5 * (rest.length + 1)) 0 false false came G ((a.1, (pre.length : Int) + 1, (pre.length : Int) + 1, (pre.length : Int) + 1, false, a.2, []), F, S, rep)).2.1 = 0 →
    pxBLoop s L T (m + 5 * (rest.length + 1)) 0 false false came G ((a.1, (pre.length : Int) + 1, (pre.length : Int) + 1, (pre.length : Int) + 1, false, a.2, []), F, S, rep) = (came + 4 * (rest.length + 1), 0, (F.1 ++ (a :: rest).map (fun b => (b.1, qzRw s L b.2)), F.2.1, F.2.2), S) := by
  intro rest
  induction rest with
  | nil =>
    intro pre a m came G F S rep eT c0 c4 z
    have ec : pxCnt L = L.length := qz_cnt L (fun x hx => (HL x hx).1)
    have em : m + 5 * (([] : pxLs).length + 1) = (m + 1) + L.length := by rw [l4, List.length_nil]
    rw [em] at z ⊢
    obtain ⟨G', rep', e⟩ := qz_line (T := T) HL L [] (m + 1) came G (a.1, (pre.length : Int) + 1, (pre.length : Int) + 1, (pre.length : Int) + 1, false, a.2, []) F S rep rfl rfl (by rw [List.length_nil] at c4; omega) z
    have e : pxBLoop s L T (m + 1 + L.length) 0 false false came G ((a.1, (pre.length : Int) + 1, (pre.length : Int) + 1, (pre.length : Int) + 1, false, a.2, []), F, S, rep) = _ := e
    rw [e] at z ⊢
    rw [qz_bU, if_neg (by rw [ec]; omega)] at z ⊢
    have eE : pxBEnd (pxWr (a.1, (pre.length : Int) + 1, (pre.length : Int) + 1, (pre.length : Int) + 1, false, a.2, []) (L.foldl (fun r t => qzF s t r) a.2)) F = if F.1.length < 40 then some (F.1 ++ [(a.1, qzRw s L a.2)], F.2.1, F.2.2) else none := rfl
    have nl : ¬ ((pre.length : Int) + 1 < (T.1.length : Int)) := by
      rw [eT, List.length_append, List.length_singleton]; omega
    by_cases d : F.1.length < 40
    · rw [if_pos d] at eE
      have ee : (pxBEnd (pxWr (a.1, (pre.length : Int) + 1, (pre.length : Int) + 1, (pre.length : Int) + 1, false, a.2, []) (L.foldl (fun r t => qzF s t r) (a.1, (pre.length : Int) + 1, (pre.length : Int) + 1, (pre.length : Int) + 1, false, a.2, ([] : List (List Int))).2.2.2.2.2.1), F, S, rep').1 (pxWr (a.1, (pre.length : Int) + 1, (pre.length : Int) + 1, (pre.length : Int) + 1, false, a.2, []) (L.foldl (fun r t => qzF s t r) (a.1, (pre.length : Int) + 1, (pre.length : Int) + 1, (pre.length : Int) + 1, false, a.2, ([] : List (List Int))).2.2.2.2.2.1), F, S, rep').2.1) = some (F.1 ++ [(a.1, qzRw s L a.2)], F.2.1, F.2.2) := eE
      have nl2 : ¬ ((pxWr (a.1, (pre.length : Int) + 1, (pre.length : Int) + 1, (pre.length : Int) + 1, false, a.2, []) (L.foldl (fun r t => qzF s t r) (a.1, (pre.length : Int) + 1, (pre.length : Int) + 1, (pre.length : Int) + 1, false, a.2, ([] : List (List Int))).2.2.2.2.2.1), F, S, rep').1.2.2.1 < (T.1.length : Int)) := nl
      rw [ee, Option.elim_some, if_neg (show ¬ false = true from fun y => by cases y), if_neg nl2, l4, List.length_nil]
      show (came + ((4 : Nat) : Int), 0, (F.1 ++ [(a.1, qzRw s L a.2)], F.2.1, F.2.2), S) = (came + 4 * (((0 : Nat) : Int) + 1), 0, (F.1 ++ [(a.1, qzRw s L a.2)], F.2.1, F.2.2), S)
      rw [show came + ((4 : Nat) : Int) = came + 4 * (((0 : Nat) : Int) + 1) by omega]
    · rw [if_neg d] at eE
      have ee : (pxBEnd (pxWr (a.1, (pre.length : Int) + 1, (pre.length : Int) + 1, (pre.length : Int) + 1, false, a.2, []) (L.foldl (fun r t => qzF s t r) (a.1, (pre.length : Int) + 1, (pre.length : Int) + 1, (pre.length : Int) + 1, false, a.2, ([] : List (List Int))).2.2.2.2.2.1), F, S, rep').1 (pxWr (a.1, (pre.length : Int) + 1, (pre.length : Int) + 1, (pre.length : Int) + 1, false, a.2, []) (L.foldl (fun r t => qzF s t r) (a.1, (pre.length : Int) + 1, (pre.length : Int) + 1, (pre.length : Int) + 1, false, a.2, ([] : List (List Int))).2.2.2.2.2.1), F, S, rep').2.1) = none := eE
      rw [ee] at z
      exact absurd (show (4 : Int) = 0 from z) (by decide)
  | cons b rest ih =>
    intro pre a m came G F S rep eT c0 c4 z
    rw [List.length_cons] at c4
    have ec : pxCnt L = L.length := qz_cnt L (fun x hx => (HL x hx).1)
    have em : m + 5 * ((b :: rest).length + 1) = (m + 5 * (rest.length + 1) + 1) + L.length := by rw [l4, List.length_cons]; omega
    rw [em] at z ⊢
    obtain ⟨G', rep', e⟩ := qz_line (T := T) HL L [] (m + 5 * (rest.length + 1) + 1) came G (a.1, (pre.length : Int) + 1, (pre.length : Int) + 1, (pre.length : Int) + 1, false, a.2, []) F S rep rfl rfl (by omega) z
    have e : pxBLoop s L T (m + 5 * (rest.length + 1) + 1 + L.length) 0 false false came G ((a.1, (pre.length : Int) + 1, (pre.length : Int) + 1, (pre.length : Int) + 1, false, a.2, []), F, S, rep) = _ := e
    rw [e] at z ⊢
    rw [qz_bU, if_neg (by rw [ec]; omega)] at z ⊢
    have eE : pxBEnd (pxWr (a.1, (pre.length : Int) + 1, (pre.length : Int) + 1, (pre.length : Int) + 1, false, a.2, []) (L.foldl (fun r t => qzF s t r) a.2)) F = if F.1.length < 40 then some (F.1 ++ [(a.1, qzRw s L a.2)], F.2.1, F.2.2) else none := rfl
    have nl : (pre.length : Int) + 1 < (T.1.length : Int) := by
      rw [eT, List.length_append, List.length_cons, List.length_cons]; omega
    by_cases d : F.1.length < 40
    · rw [if_pos d] at eE
      have ee : (pxBEnd (pxWr (a.1, (pre.length : Int) + 1, (pre.length : Int) + 1, (pre.length : Int) + 1, false, a.2, []) (L.foldl (fun r t => qzF s t r) (a.1, (pre.length : Int) + 1, (pre.length : Int) + 1, (pre.length : Int) + 1, false, a.2, ([] : List (List Int))).2.2.2.2.2.1), F, S, rep').1 (pxWr (a.1, (pre.length : Int) + 1, (pre.length : Int) + 1, (pre.length : Int) + 1, false, a.2, []) (L.foldl (fun r t => qzF s t r) (a.1, (pre.length : Int) + 1, (pre.length : Int) + 1, (pre.length : Int) + 1, false, a.2, ([] : List (List Int))).2.2.2.2.2.1), F, S, rep').2.1) = some (F.1 ++ [(a.1, qzRw s L a.2)], F.2.1, F.2.2) := eE
      have eT2 : T.1 = (pre ++ [a]) ++ b :: rest := by rw [eT, List.append_assoc]; rfl
      have el : ((pre ++ [a]).length : Int) = (pre.length : Int) + 1 := by rw [List.length_append, List.length_singleton]; omega
      have at2 : pxAt T.1 ((pre.length : Int) + 1 + 1) = b := by
        rw [eT2, ← el]
        show pxG (0, []) ((pre ++ [a]) ++ b :: rest) (((pre ++ [a]).length : Int) + 1) = b
        rw [pxG_appR (by omega), show ((pre ++ [a]).length : Int) + 1 - (pre ++ [a]).length = 1 by omega]
        rfl
      have eN : pxBNext T (pxWr (a.1, (pre.length : Int) + 1, (pre.length : Int) + 1, (pre.length : Int) + 1, false, a.2, []) (L.foldl (fun r t => qzF s t r) a.2)) = (b.1, (pre.length : Int) + 1 + 1, (pre.length : Int) + 1 + 1, (pre.length : Int) + 1 + 1, false, b.2, []) := by
        show ((pxAt T.1 ((pre.length : Int) + 1 + 1)).1, (pre.length : Int) + 1 + 1, (pre.length : Int) + 1 + 1, (pre.length : Int) + 1 + 1, false, pxRw (pxRs T.1) ((pre.length : Int) + 1 + 1), ([] : List (List Int))) = _
        rw [pxRs_at, at2]
      rw [ee, Option.elim_some, if_neg (show ¬ false = true from fun y => by cases y)] at z ⊢
      have nl2 : (pxWr (a.1, (pre.length : Int) + 1, (pre.length : Int) + 1, (pre.length : Int) + 1, false, a.2, []) (L.foldl (fun r t => qzF s t r) (a.1, (pre.length : Int) + 1, (pre.length : Int) + 1, (pre.length : Int) + 1, false, a.2, ([] : List (List Int))).2.2.2.2.2.1), F, S, rep').1.2.2.1 < (T.1.length : Int) := nl
      rw [if_pos nl2, if_neg (show ¬ false = true from fun y => by cases y)] at z ⊢
      have eN2 : pxBNext T (pxWr (a.1, (pre.length : Int) + 1, (pre.length : Int) + 1, (pre.length : Int) + 1, false, a.2, []) (L.foldl (fun r t => qzF s t r) (a.1, (pre.length : Int) + 1, (pre.length : Int) + 1, (pre.length : Int) + 1, false, a.2, ([] : List (List Int))).2.2.2.2.2.1), F, S, rep').1 = (b.1, (pre.length : Int) + 1 + 1, (pre.length : Int) + 1 + 1, (pre.length : Int) + 1 + 1, false, b.2, []) := eN
      rw [eN2] at z ⊢
      have ih := ih (pre ++ [a]) b m (came + (L.length : Int)) G' (F.1 ++ [(a.1, qzRw s L a.2)], F.2.1, F.2.2) S false eT2 (by omega) (by rw [l4]; omega)
      rw [el] at ih
      have r := ih z
      refine r.trans ?_
      have e1 : F.1 ++ [(a.1, qzRw s L a.2)] ++ (b :: rest).map (fun b => (b.1, qzRw s L b.2)) = F.1 ++ (a :: b :: rest).map (fun b => (b.1, qzRw s L b.2)) := by
        rw [List.append_assoc]; rfl
      rw [l4, List.length_cons]
      show (came + ((4 : Nat) : Int) + 4 * ((rest.length : Int) + 1), 0, (F.1 ++ [(a.1, qzRw s L a.2)] ++ (b :: rest).map (fun b => (b.1, qzRw s L b.2)), F.2.1, F.2.2), S) = _
      rw [e1, show came + ((4 : Nat) : Int) + 4 * ((rest.length : Int) + 1) = came + 4 * (((rest.length + 1 : Nat) : Int) + 1) by omega]
    · rw [if_neg d] at eE
      have ee : (pxBEnd (pxWr (a.1, (pre.length : Int) + 1, (pre.length : Int) + 1, (pre.length : Int) + 1, false, a.2, []) (L.foldl (fun r t => qzF s t r) (a.1, (pre.length : Int) + 1, (pre.length : Int) + 1, (pre.length : Int) + 1, false, a.2, ([] : List (List Int))).2.2.2.2.2.1), F, S, rep').1 (pxWr (a.1, (pre.length : Int) + 1, (pre.length : Int) + 1, (pre.length : Int) + 1, false, a.2, []) (L.foldl (fun r t => qzF s t r) (a.1, (pre.length : Int) + 1, (pre.length : Int) + 1, (pre.length : Int) + 1, false, a.2, ([] : List (List Int))).2.2.2.2.2.1), F, S, rep').2.1) = none := eE
      rw [ee] at z
      exact absurd (show (4 : Int) = 0 from z) (by decide)
theorem qz_bplay {S : pxSto} (HL : qzHL s L) (l4 : L.length = 4) (n0 : 0 < T.1.length) (n40 : T.1.length ≤ 40) : ((pxBPlay s L T S).2.1 = 0 → pxBPlay s L T S = (4 * (T.1.length : Int), 0, (T.1.map (fun b => (b.1, qzRw s L b.2)), T.2.1, (T.1.length : Int), T.2.2.2), S)) ∧ ((pxBPlay s L T S).2.1 ≠ 0 → (pxBPlay s L T S).1 = -1 ∧ (pxBPlay s L T S).2.2.1 = T ∧ (pxBPlay s L T S).2.2.2 = S) := by
  have n0' : 0 < (T.1.length : Int) := by omega
  have ecl : pxBClr s (pxFl L 0) S = S := by
    refine qz_clr _ fun e he => ?_
    obtain ⟨k, hk⟩ := List.mem_iff_getElem?.mp he
    rw [qz_fl L 0 k (fun x hx => (HL x hx).1)] at hk
    cases hj : L[k]? with
    | none => rw [hj] at hk; cases hk
    | some t =>
      rw [hj] at hk
      have e1 : (t.1, 0 + k + 1) = e := Option.some.inj hk
      obtain ⟨-, -, h3, -⟩ := HL t (List.mem_of_getElem? hj)
      rw [← e1]
      show pxAc s t.1 ≠ 119
      unfold qzIsC at h3
      omega
  unfold pxBPlay
  by_cases c : (pxBRun s L T S).2.1 ≠ 0
  · rw [if_pos c]
    exact ⟨fun z => absurd z c, fun _ => ⟨rfl, rfl, rfl⟩⟩
  · rw [if_neg c]
    refine ⟨fun _ => ?_, fun z => absurd rfl z⟩
    have c0 : (pxBRun s L T S).2.1 = 0 := Decidable.not_not.mp c
    obtain ⟨a, rest, eT⟩ : ∃ a rest, T.1 = a :: rest := by
      cases h : T.1 with
      | nil => rw [h] at n0; cases n0
      | cons a rest => exact ⟨a, rest, rfl⟩
    have lT : T.1.length = rest.length + 1 := by rw [eT, List.length_cons]
    have eR : pxBRun s L T S = pxBLoop s L T ((442 - 5 * (rest.length + 1)) + 5 * (rest.length + 1)) 0 false false 0 pxBG0 ((a.1, ((([] : pxLs).length : Nat) : Int) + 1, ((([] : pxLs).length : Nat) : Int) + 1, ((([] : pxLs).length : Nat) : Int) + 1, false, a.2, []), ([], T.2.1, T.2.2.2), S, false) := by
      unfold pxBRun
      rw [if_pos n0, ecl, show (442 - 5 * (rest.length + 1)) + 5 * (rest.length + 1) = 442 by omega]
      have eN : pxBNext T pxBW0 = (a.1, ((([] : pxLs).length : Nat) : Int) + 1, ((([] : pxLs).length : Nat) : Int) + 1, ((([] : pxLs).length : Nat) : Int) + 1, false, a.2, []) := by
        show ((pxAt T.1 (0 + 1)).1, (0 : Int) + 1, (0 : Int) + 1, (0 : Int) + 1, false, pxRw (pxRs T.1) (0 + 1), ([] : List (List Int))) = _
        rw [pxRs_at, eT]
        rfl
      rw [eN]
    rw [eR] at c0 ⊢
    have k := qz_lns (T := T) HL l4 rest [] a (442 - 5 * (rest.length + 1)) 0 pxBG0 ([], T.2.1, T.2.2.2) S false eT (Int.le_refl _) (by omega) c0
    rw [k]
    show ((0 : Int) + 4 * ((rest.length : Int) + 1), 0, (([] : pxLs) ++ (a :: rest).map (fun b => (b.1, qzRw s L b.2)), T.2.1, ((([] : pxLs) ++ (a :: rest).map (fun b => (b.1, qzRw s L b.2))).length : Int), T.2.2.2), S) = _
    rw [List.nil_append, eT, List.length_map, show (0 : Int) + 4 * ((rest.length : Int) + 1) = 4 * (((a :: rest).length : Nat) : Int) by rw [List.length_cons]; omega]
theorem qz_pS : pxOrds qtS 61 0 = (-1, [(0, []), (9, []), (19, []), (23, [])]) := by decide +kernel
def qzL4 : List (Int × List Int) := [(0, []), (9, []), (19, []), (23, [])]
def qzHLb (s : List Int) (L : List (Int × List Int)) : Bool := L.all (fun t => decide (t.2 = []) && decide ((pxWh s t.1).2.2.1 = 1) && decide (pxAc s t.1 = 62 ∨ pxAc s t.1 = 115 ∨ pxAc s t.1 = 122 ∨ pxAc s t.1 = 60) && decide (¬ pxBar s t.1 = true))
theorem qz_hlS : qzHLb qtS qzL4 = true := by decide +kernel
theorem qz_HL : qzHL qtS qzL4 := by
  intro t ht
  have k := List.all_eq_true.mp qz_hlS t ht
  rw [Bool.and_eq_true, Bool.and_eq_true, Bool.and_eq_true] at k
  exact ⟨of_decide_eq_true k.1.1.1, of_decide_eq_true k.1.1.2, (show pxAc qtS t.1 = 62 ∨ pxAc qtS t.1 = 115 ∨ pxAc qtS t.1 = 122 ∨ pxAc qtS t.1 = 60 from of_decide_eq_true k.1.2), of_decide_eq_true k.2⟩
end
