/-! the reference: finds -/
theorem pxMach_okE {s : List Int} : ∀ (m : Nat) (g : Bool) (a i t k p : Int), 0 ≤ p → p ≤ s.length → ∀ y ∈ (pxMach s m g a i t k p).2.2.1, pyOkE s y := by
  intro m
  induction m with
  | zero => intro g a i t k p _ _ y hy; unfold pxMach at hy; cases hy
  | succ m ih =>
    intro g a i t k p p0 p1 y hy
    have lt : pxP s p ≠ -1 → p + 1 ≤ s.length := fun z => by have := (pxP_lt z).2; omega
    have em : ∀ {e : Int × Int} {M : Bool × Int × List (Int × Int) × Int}, pyOkE s e → (∀ y ∈ M.2.2.1, pyOkE s y) → y ∈ (pxEm e M).2.2.1 → pyOkE s y := by
      intro e M he hM hy
      rcases List.mem_cons.mp hy with z | z
      · rw [z]; exact he
      · exact hM y z
    unfold pxMach at hy
    by_cases c1 : g = true ∧ pxP s p = 41
    · rw [if_pos c1] at hy
      exact em (by unfold pyOkE; dsimp only; omega) (ih _ _ _ _ _ _ (by omega) (lt (by omega))) hy
    rw [if_neg c1] at hy
    by_cases c2 : 12 ≤ (if g = true then a else i)
    · rw [if_pos c2] at hy; cases hy
    rw [if_neg c2] at hy
    by_cases c3 : g = false ∧ pxP s p = 40 ∧ k < 2
    · rw [if_pos c3] at hy
      exact em (by unfold pyOkE; dsimp only; omega) (ih _ _ _ _ _ _ (by omega) (lt (by omega))) hy
    rw [if_neg c3] at hy
    by_cases c4 : g = false ∧ pxP s p = 92 ∧ 0 < k
    · rw [if_pos c4] at hy
      by_cases c5 : 49 ≤ pxP s (p + 1) ∧ pxP s (p + 1) ≤ 48 + k
      · rw [if_pos c5] at hy
        have := (pxP_lt (s := s) (p := p + 1) (by omega)).2
        exact em (by unfold pyOkE; dsimp only; omega) (ih _ _ _ _ _ _ (by omega) (by omega)) hy
      · rw [if_neg c5] at hy; cases hy
    rw [if_neg c4] at hy
    by_cases c5 : pxP s p = 42 ∧ t < 2
    · rw [if_pos c5] at hy
      exact em (by unfold pyOkE; dsimp only; omega) (ih _ _ _ _ _ _ (by omega) (lt (by omega))) hy
    rw [if_neg c5] at hy
    by_cases c6 : pxP s p = 46
    · rw [if_pos c6] at hy
      exact em (by unfold pyOkE; dsimp only; omega) (ih _ _ _ _ _ _ (by omega) (lt (by omega))) hy
    rw [if_neg c6] at hy
    by_cases c7 : pxIsCh (pxP s p) = true
    · rw [if_pos c7] at hy
      have c7' := c7
      rw [pxIsCh_i] at c7'
      exact em (by unfold pyOkE; dsimp only; omega) (ih _ _ _ _ _ _ (by omega) (lt (by omega))) hy
    rw [if_neg c7] at hy
    by_cases c8 : pxP s p = 91
    · rw [if_pos c8] at hy
      have l1 := lt (by omega)
      have kb := pxCls_b (s := s) (p := p + 1) (by omega) l1
      by_cases c9 : (pxCls s (p + 1)).1 = true
      · rw [if_pos c9] at hy
        exact em (Or.inr (Or.inr (Or.inr (Or.inl ⟨rfl, c9, by omega, l1⟩)))) (ih _ _ _ _ _ _ (by omega) (by omega)) hy
      · rw [if_neg c9] at hy; cases hy
    · rw [if_neg c8] at hy; cases hy
/-- a pattern that was read, and what is known of it -/
def pyPk (s : List Int) (p : Int) : Prop := 0 ≤ p ∧ p ≤ s.length ∧ (pxPat s p).1 = true
theorem pyPk.m {s : List Int} {p : Int} (K : pyPk s p) : (pxPtM s p).1 = true := by
  have ok := K.2.2
  unfold pxPat at ok
  by_cases c : (pxPtM s p).1 = true
  · exact c
  · rw [if_neg c] at ok; cases ok
theorem pyPk.ok {s : List Int} {p : Int} (K : pyPk s p) : ∀ y ∈ (pxPtM s p).2.2.1, pyOkE s y :=
  pxMach_okE 61 false 0 0 0 0 _ (by have := K.1; have := pxPt0_b K.1 K.2.1; omega) (by have := K.1; have := pxPt0_b K.1 K.2.1; omega)
theorem pyOkE.e7 {s : List Int} {y : Int × Int} (h : pyOkE s y) : pyE7 y := by unfold pyOkE at h; unfold pyE7; omega
theorem pyPk.w {s : List Int} {p : Int} (K : pyPk s p) {l2 : List (Int × Int)} (w2 : ∀ k t, pxWE k k t l2) (c2 : ∀ q, pxGc q l2 = q) : pxWE 0 0 0 ((pxPtM s p).2.2.1 ++ l2) ∧ pxGc 0 ((pxPtM s p).2.2.1 ++ l2) = pxPatK s p := by
  have := pxMach_w w2 c2 61 false 0 0 0 0 (pxPt0 s p) (by omega) (by omega) (by omega) (by omega) (fun z => by cases z) K.m
  rw [if_neg (by simp)] at this
  exact this
theorem pyTl_w {ae : Bool} : (∀ k t, pxWE k k t (pyTl ae)) ∧ ∀ q, pxGc q (pyTl ae) = q := by
  unfold pyTl
  cases ae
  · exact ⟨fun k t => Or.inl rfl, fun q => rfl⟩
  · exact ⟨fun k t => Or.inr ⟨fun z => absurd z (by show ¬ (9 : Int) = 5; omega), fun z => absurd z (by show ¬ (9 : Int) = 6; omega), fun z => absurd z (by show ¬ (9 : Int) = 7; omega), fun z => absurd z (by show ¬ (9 : Int) = 3; omega), Or.inl rfl⟩, fun q => rfl⟩
theorem pyStn_w : ∀ (l l2 : List (Int × Int)) (g q t : Int), pxWE g q t (l ++ l2) → (∀ y ∈ l, pyE7 y) → t ≤ 2 → t + pyStn l ≤ 2
  | [], _, _, _, _, _, _, ht => by unfold pyStn; omega
  | e :: l, l2, g, q, t, W, h7, ht => by
    have e7 := h7 e (by simp)
    unfold pyE7 at e7
    rw [List.cons_append] at W
    obtain ⟨w5, w6, w7, w3, W⟩ := W.resolve_left (show e.1 ≠ 10 by omega)
    unfold pyStn
    by_cases c : e.1 = 3
    · rw [if_pos c] at W ⊢
      have := w3 c
      have := pyStn_w l l2 _ _ _ W (fun y hy => h7 y (by simp [hy])) this
      omega
    · rw [if_neg c] at ⊢
      rw [if_neg c] at W
      have := pyStn_w l l2 _ _ _ W (fun y hy => h7 y (by simp [hy])) ht
      omega
theorem pyPk.n {s : List Int} {p : Int} (K : pyPk s p) : pyStn (pxPtM s p).2.2.1 ≤ 2 := by
  have := pyStn_w _ _ _ _ _ (K.w (l2 := [(10, 0)]) (fun k t => Or.inl rfl) (fun q => rfl)).1 (fun y hy => (K.ok y hy).e7) (by omega)
  omega
theorem pyFull_e (s : List Int) (p : Int) : pxFull s p = (if pxP s p = 94 then [(8, 0)] else []) ++ ((pxPtM s p).2.2.1 ++ pyTl (decide (pxP s (pxPtM s p).2.1 = 36))) := by
  unfold pxFull pyTl
  rw [List.append_assoc, List.append_assoc]
  by_cases c : pxP s (pxPtM s p).2.1 = 36
  · simp only [c, if_true, decide_true]
  · simp only [c, if_false, decide_false, Bool.false_eq_true]
/-- the outcome of a match -/
def pyMo (h' : jw_H) (r : List Int) (gc x : Int) (D : Option (Int × (Int → Int) × (Int → Int))) (v : Int32) : Prop :=
  (D = none → v = pxJ 0) ∧ ∀ y o c, D = some (y, o, c) → v = pxJ 1 ∧ pxM h' 587 41 = y ∧ x ≤ y ∧ y ≤ r.length ∧ ∀ k : Int, 1 ≤ k → k ≤ gc → pxM h' 602 k.toNat = o k ∧ pxM h' 603 k.toNat = c k ∧ 0 ≤ o k ∧ o k ≤ c k ∧ c k ≤ y
/-- all that a match needs -/
def pyMR (h : jw_H) (s r : List Int) (i p : Int) : Prop := pyS h ∧ pyG h s ∧ pyR h i r ∧ pyPt' h s p
theorem pyMR.keep {P : Nat → Nat → Prop} {h h1 : jw_H} {s r : List Int} {i p : Int} (M : pyMR h s r i p) (V : pyV P h h1) (i0 : 0 ≤ i) (lr : r.length ≤ 30) (n0 : ∀ k f, k = 592 ∨ k = 599 ∨ k = 600 ∨ k = 601 ∨ (k = 587 ∧ f = 22) ∨ (k = 587 ∧ 33 ≤ f ∧ f ≤ 36) → ¬ P k f) : pyMR h1 s r i p :=
  ⟨V.s M.1, M.2.1.keep V (n0 _ _ (by omega)) (fun f _ => n0 _ _ (by omega)), M.2.2.1.keep V i0 lr (fun f _ _ => n0 _ _ (by omega)), M.2.2.2.keep V (fun f _ _ => n0 _ _ (by omega)) (fun f => ⟨n0 _ _ (by omega), n0 _ _ (by omega)⟩)⟩
theorem pyMR.f {h h1 : jw_H} {s r : List Int} {i p : Int} (M : pyMR h s r i p) (V : pyV pyQf h h1) (i0 : 0 ≤ i) (lr : r.length ≤ 30) : pyMR h1 s r i p := M.keep V i0 lr (fun k f z => by unfold pyQf; omega)
set_option maxHeartbeats 8000000 in
theorem n_fits {h : jw_H} {s r : List Int} {i p x one other : Int} (K : pyPk s p) (M : pyMR h s r i p) (i0 : 0 ≤ i) (i1 : i < 868) (okr : pxOr r) (x0 : 0 ≤ x) (x1 : x ≤ r.length) (n0 : 0 ≤ one) (n1 : one ≤ 100) (m0 : 0 ≤ other) (m1 : other ≤ 100) :
    pxW (f_X12_fits h 587 (pxJ i) (pxJ x) (pxJ one) (pxJ other)) fun v h' => pyV pyQf h h' ∧ pyMo h' r (pxPatK s p) x ((pyDet s r one other (pxPtM s p).2.2.1 px0 px0 x 0).bind (pyFin r (decide (pxP s (pxPtM s p).2.1 = 36)))) v ∧ (v = pxJ 0 ∨ v = pxJ 1) := by
  obtain ⟨H, G, R, E, e33, e34, e35, e36⟩ := M
  have l60 := G.2.1.1
  have lr := okr.1
  have w := K.w (l2 := [(10, 0)]) (fun k t => Or.inl rfl) (fun q => rfl)
  have pb := pxMach_b (s := s) 61 false 0 0 0 0 (pxPt0 s p) (by have := K.1; have := pxPt0_b K.1 K.2.1; omega) (by have := K.1; have := pxPt0_b K.1 K.2.1; omega)
  have lb : ((pxPtM s p).2.2.1.length : Int) ≤ 60 := by
    have k0 := K.1
    have := pxPt0_b K.1 K.2.1
    have e : pxPtM s p = pxMach s 61 false 0 0 0 0 (pxPt0 s p) := rfl
    rw [e]; rw [e] at *; omega
  unfold f_X12_fits
  try simp (maxSteps := 4000000) (disch := first | assumption | omega | (simp only [pyS_I]; assumption)) only [pxL0, pxL1, pxL2, pxL3, pxL4, pxL5, pxL6, pxL7, pxL8, pxL9, pxL10, pxL11, pxL12, pxL13, pxL14, pxL15, pxL16, pxL17, pxL18, pxL19, pxL20, pxL21, pxL22, pxL23, pxL24, pxL25, pxL26, pxL27, pxL28, pxL29, pxL30, pxL31, pxL32, pxL33, pxL34, pxL35, pxL36, pxL37, pxL38, pxL39, pxL40, pxL41, pxL42, pxL43, pxL44, pxL45, pxL46, pxL47, pxL48, pxL49, pxL51, pxL57, pxL58, pxL59, pxL60, pxL61, pxL62, pxL63, pxL64, pxL65, pxL66, pxL67, pxL68, pxL69, pxL70, pxL71, pxL72, pxL73, pxL74, pxL75, pxL76, pxL77, pxL78, pxL79, pxL80, pxL81, pxL82, pxL83, pxL84, pxL85, pxL86, pxL87, pxL88, pxL89, pxL90, pxL91, pxL92, pxL93, pxL94, pxL95, pxL96, pxL97, pxL98, pxL99, pxL100, pxL101, pxL102, pxL103, pxL104, pxL105, pxL106, pxL107, pxL108, pxL109, pxL110, pxL111, pxL112, pxL113, pxL114, pxL115, pxL116, pxL117, pxL118, pxL119, pxL120, pxL121, pxL122, pxL123, pxL124, pxL125, pxL126, pxL200, pxL240, pxL287, pxL388, pxL400, pxL429, pxL431, pxL440, pxL1240, pxL1600, pxL1681, pxL12028, pxL13849, pxL14880, pxL25173, pxL26908, pxL49600, pxL65535, pxL65536, ↓reduceIte, reduceCtorEq, pxJ_add, pxJ_sub, pxJ_mul, pxJ_neg, pxD_lt_t, pxD_lt_f, pxD_le_t, pxD_le_f, pxD_eq_t, pxD_eq_f, pxJ_lt, pxJ_le, pxJ_eq, pxJ_div, px_b2, px_bs, px_rb0, px_rb1, pxW_some, Option.some.injEq, pxM_eq, pxM_ne, pyN_gI, pyN_pI, pyN_rc, pyN_g1, pyN_a588, pyN_s588, pyN_g3, pyN_a589, pyN_s589, pyN_g4, pyN_a590, pyN_s590, pyN_g5, pyN_a591, pyN_s591, pyN_g6, pyN_a592, pyN_s592, pyN_g7, pyN_a593, pyN_s593, pyN_g8, pyN_a594, pyN_s594, pyN_g9, pyN_a595, pyN_s595, pyN_g10, pyN_a596, pyN_s596, pyN_g11, pyN_a597, pyN_s597, pyN_g19, pyN_a598, pyN_s598, pyN_g21, pyN_a599, pyN_s599, pyN_g31, pyN_a600, pyN_s600, pyN_g32, pyN_a601, pyN_s601, pyN_g38, pyN_a602, pyN_s602, pyN_g39, pyN_a603, pyN_s603, pyN_g46, pyN_a604, pyN_s604, pyN_g47, pyN_a605, pyN_s605, pyN_g48, pyN_a606, pyN_s606, pyN_g49, pyN_a607, pyN_s607, pyN_g55, pyN_a608, pyN_s608, pyN_g56, pyN_a609, pyN_s609, pyN_g57, pyN_a610, pyN_s610, pyN_g58, pyN_a611, pyN_s611, pyN_g59, pyN_a612, pyN_s612, pyN_g60, pyN_a613, pyN_s613, pyN_g74, pyN_a614, pyN_s614, pyN_g75, pyN_a615, pyN_s615, pyN_g76, pyN_a616, pyN_s616, pyN_g78, pyN_a617, pyN_s617, pyN_g79, pyN_a618, pyN_s618, n_len H R i0 i1]
  refine pxW.mono (n_fits_b16 (ae := if pxP s (pxPtM s p).2.1 = 36 then 1 else 0) i0 i1 lr okr n0 n1 m0 m1 (by split <;> omega) (pxPtM s p).2.2.1 jw_FU h 0 0 0 x 0 px0 px0 (by unfold jw_FU; omega) H G R E (by rw [e33]; omega) (by omega) (by omega) K.ok w.1 (by omega) (by omega) (by omega) (by omega) (by omega) ⟨fun k k1 k2 => by omega, fun k k1 k2 => by omega⟩ (fun z => by omega) x0 x1 e36) fun v h' q => ?_
  obtain ⟨V, q1, q2⟩ := q
  rw [w.2] at q2
  refine ⟨V, ?_, ?_⟩
  · cases z : pyDet s r one other (pxPtM s p).2.2.1 px0 px0 x 0 with
    | none => exact ⟨fun _ => q1 z, fun y o c zz => (nomatch zz)⟩
    | some w =>
      obtain ⟨y, o, c⟩ := w
      obtain ⟨a1, a2, a3, a4, a5⟩ := q2 y o c z
      show pyMo h' r (pxPatK s p) x (pyFin r (decide (pxP s (pxPtM s p).2.1 = 36)) (y, o, c)) v
      unfold pyFin
      by_cases d : decide (pxP s (pxPtM s p).2.1 = 36) = true ∧ y ≠ r.length
      · rw [if_pos d]
        refine ⟨fun _ => ?_, fun y o c zz => (nomatch zz)⟩
        rw [a1, if_pos ⟨if_pos (of_decide_eq_true d.1), d.2⟩]
      · rw [if_neg d]
        refine ⟨fun zz => (nomatch zz), fun y' o' c' zz => ?_⟩
        cases Option.some.inj zz
        refine ⟨?_, a2, a3, a4, a5⟩
        rw [a1, if_neg (fun z => d ⟨?_, z.2⟩)]
        by_cases e : pxP s (pxPtM s p).2.1 = 36
        · exact decide_eq_true e
        · have := z.1
          rw [if_neg e] at this
          omega
  · cases z : pyDet s r one other (pxPtM s p).2.2.1 px0 px0 x 0 with
    | none => exact Or.inl (q1 z)
    | some w =>
      obtain ⟨y, o, c⟩ := w
      rw [(q2 y o c z).1]
      by_cases zz : (if pxP s (pxPtM s p).2.1 = 36 then (1 : Int) else 0) = 1 ∧ y ≠ r.length
      · rw [if_pos zz]; exact Or.inl rfl
      · rw [if_neg zz]; exact Or.inr rfl
theorem pyMo.el {h' : jw_H} {r : List Int} {gc x : Int} {D E : Option (Int × (Int → Int) × (Int → Int))} {v : Int32} (hD : D ≠ none) (M : pyMo h' r gc x D v) : pyMo h' r gc x (D.elim E some) v := by
  cases D with
  | none => exact absurd rfl hD
  | some w => exact M
set_option maxHeartbeats 8000000 in
theorem n_matches_b58 {s r : List Int} {i p x sz one : Int} {k35 : jw_H → Nat → Int32 → Int32 → Int32 → Int32 → Option (Int32 × jw_H)} {REST : Option (Int × (Int → Int) × (Int → Int))} (K : pyPk s p) (i0 : 0 ≤ i) (i1 : i < 868) (okr : pxOr r) (x0 : 0 ≤ x) (x1 : x ≤ r.length) (n0 : 0 ≤ one) (n1 : one ≤ 100)
    (cont : ∀ h1, pyMR h1 s r i p → pxW (k35 h1 587 (pxJ i) (pxJ x) (pxJ sz) (pxJ (one + -1))) fun v h' => pyV pyQf h1 h' ∧ pyMo h' r (pxPatK s p) x REST v) : ∀ (m N : Nat) (h : jw_H) (y : Int), (m : Int) = y + 1 → y ≤ 100 → m < N → pyMR h s r i p →
      pxW (f_X12_matches_b58 k35 N h 587 (pxJ i) (pxJ x) (pxJ sz) (pxJ one) (pxJ y)) fun v h' => pyV pyQf h h' ∧ pyMo h' r (pxPatK s p) x ((pxDesc (fun other => (pyDet s r one other (pxPtM s p).2.2.1 px0 px0 x 0).bind (pyFin r (decide (pxP s (pxPtM s p).2.1 = 36)))) m y).elim REST some) v := by
  intro m
  induction m with
  | zero =>
    intro N h y hy y1 hN M
    obtain ⟨N, rfl, -⟩ := px_fu hN
    rw [u_X12_matches_b58]
    unfold g_X12_matches_b58
    try simp (maxSteps := 4000000) (disch := first | assumption | omega | (simp only [pyS_I]; assumption)) only [pxL0, pxL1, pxL2, pxL3, pxL4, pxL5, pxL6, pxL7, pxL8, pxL9, pxL10, pxL11, pxL12, pxL13, pxL14, pxL15, pxL16, pxL17, pxL18, pxL19, pxL20, pxL21, pxL22, pxL23, pxL24, pxL25, pxL26, pxL27, pxL28, pxL29, pxL30, pxL31, pxL32, pxL33, pxL34, pxL35, pxL36, pxL37, pxL38, pxL39, pxL40, pxL41, pxL42, pxL43, pxL44, pxL45, pxL46, pxL47, pxL48, pxL49, pxL51, pxL57, pxL58, pxL59, pxL60, pxL61, pxL62, pxL63, pxL64, pxL65, pxL66, pxL67, pxL68, pxL69, pxL70, pxL71, pxL72, pxL73, pxL74, pxL75, pxL76, pxL77, pxL78, pxL79, pxL80, pxL81, pxL82, pxL83, pxL84, pxL85, pxL86, pxL87, pxL88, pxL89, pxL90, pxL91, pxL92, pxL93, pxL94, pxL95, pxL96, pxL97, pxL98, pxL99, pxL100, pxL101, pxL102, pxL103, pxL104, pxL105, pxL106, pxL107, pxL108, pxL109, pxL110, pxL111, pxL112, pxL113, pxL114, pxL115, pxL116, pxL117, pxL118, pxL119, pxL120, pxL121, pxL122, pxL123, pxL124, pxL125, pxL126, pxL200, pxL240, pxL287, pxL388, pxL400, pxL429, pxL431, pxL440, pxL1240, pxL1600, pxL1681, pxL12028, pxL13849, pxL14880, pxL25173, pxL26908, pxL49600, pxL65535, pxL65536, ↓reduceIte, reduceCtorEq, pxJ_add, pxJ_sub, pxJ_mul, pxJ_neg, pxD_lt_t, pxD_lt_f, pxD_le_t, pxD_le_f, pxD_eq_t, pxD_eq_f, pxJ_lt, pxJ_le, pxJ_eq, pxJ_div, px_b2, px_bs, px_rb0, px_rb1, pxW_some, Option.some.injEq, pxM_eq, pxM_ne, pyN_gI, pyN_pI, pyN_rc, pyN_g1, pyN_a588, pyN_s588, pyN_g3, pyN_a589, pyN_s589, pyN_g4, pyN_a590, pyN_s590, pyN_g5, pyN_a591, pyN_s591, pyN_g6, pyN_a592, pyN_s592, pyN_g7, pyN_a593, pyN_s593, pyN_g8, pyN_a594, pyN_s594, pyN_g9, pyN_a595, pyN_s595, pyN_g10, pyN_a596, pyN_s596, pyN_g11, pyN_a597, pyN_s597, pyN_g19, pyN_a598, pyN_s598, pyN_g21, pyN_a599, pyN_s599, pyN_g31, pyN_a600, pyN_s600, pyN_g32, pyN_a601, pyN_s601, pyN_g38, pyN_a602, pyN_s602, pyN_g39, pyN_a603, pyN_s603, pyN_g46, pyN_a604, pyN_s604, pyN_g47, pyN_a605, pyN_s605, pyN_g48, pyN_a606, pyN_s606, pyN_g49, pyN_a607, pyN_s607, pyN_g55, pyN_a608, pyN_s608, pyN_g56, pyN_a609, pyN_s609, pyN_g57, pyN_a610, pyN_s610, pyN_g58, pyN_a611, pyN_s611, pyN_g59, pyN_a612, pyN_s612, pyN_g60, pyN_a613, pyN_s613, pyN_g74, pyN_a614, pyN_s614, pyN_g75, pyN_a615, pyN_s615, pyN_g76, pyN_a616, pyN_s616, pyN_g78, pyN_a617, pyN_s617, pyN_g79, pyN_a618, pyN_s618]
    exact cont h M
  | succ m ih =>
    intro N h y hy y1 hN M
    obtain ⟨N, rfl, hN⟩ := px_fu hN
    have H := M.1
    rw [u_X12_matches_b58]
    unfold g_X12_matches_b58
    try simp (maxSteps := 4000000) (disch := first | assumption | omega | (simp only [pyS_I]; assumption)) only [pxL0, pxL1, pxL2, pxL3, pxL4, pxL5, pxL6, pxL7, pxL8, pxL9, pxL10, pxL11, pxL12, pxL13, pxL14, pxL15, pxL16, pxL17, pxL18, pxL19, pxL20, pxL21, pxL22, pxL23, pxL24, pxL25, pxL26, pxL27, pxL28, pxL29, pxL30, pxL31, pxL32, pxL33, pxL34, pxL35, pxL36, pxL37, pxL38, pxL39, pxL40, pxL41, pxL42, pxL43, pxL44, pxL45, pxL46, pxL47, pxL48, pxL49, pxL51, pxL57, pxL58, pxL59, pxL60, pxL61, pxL62, pxL63, pxL64, pxL65, pxL66, pxL67, pxL68, pxL69, pxL70, pxL71, pxL72, pxL73, pxL74, pxL75, pxL76, pxL77, pxL78, pxL79, pxL80, pxL81, pxL82, pxL83, pxL84, pxL85, pxL86, pxL87, pxL88, pxL89, pxL90, pxL91, pxL92, pxL93, pxL94, pxL95, pxL96, pxL97, pxL98, pxL99, pxL100, pxL101, pxL102, pxL103, pxL104, pxL105, pxL106, pxL107, pxL108, pxL109, pxL110, pxL111, pxL112, pxL113, pxL114, pxL115, pxL116, pxL117, pxL118, pxL119, pxL120, pxL121, pxL122, pxL123, pxL124, pxL125, pxL126, pxL200, pxL240, pxL287, pxL388, pxL400, pxL429, pxL431, pxL440, pxL1240, pxL1600, pxL1681, pxL12028, pxL13849, pxL14880, pxL25173, pxL26908, pxL49600, pxL65535, pxL65536, ↓reduceIte, reduceCtorEq, pxJ_add, pxJ_sub, pxJ_mul, pxJ_neg, pxD_lt_t, pxD_lt_f, pxD_le_t, pxD_le_f, pxD_eq_t, pxD_eq_f, pxJ_lt, pxJ_le, pxJ_eq, pxJ_div, px_b2, px_bs, px_rb0, px_rb1, pxW_some, Option.some.injEq, pxM_eq, pxM_ne, pyN_gI, pyN_pI, pyN_rc, pyN_g1, pyN_a588, pyN_s588, pyN_g3, pyN_a589, pyN_s589, pyN_g4, pyN_a590, pyN_s590, pyN_g5, pyN_a591, pyN_s591, pyN_g6, pyN_a592, pyN_s592, pyN_g7, pyN_a593, pyN_s593, pyN_g8, pyN_a594, pyN_s594, pyN_g9, pyN_a595, pyN_s595, pyN_g10, pyN_a596, pyN_s596, pyN_g11, pyN_a597, pyN_s597, pyN_g19, pyN_a598, pyN_s598, pyN_g21, pyN_a599, pyN_s599, pyN_g31, pyN_a600, pyN_s600, pyN_g32, pyN_a601, pyN_s601, pyN_g38, pyN_a602, pyN_s602, pyN_g39, pyN_a603, pyN_s603, pyN_g46, pyN_a604, pyN_s604, pyN_g47, pyN_a605, pyN_s605, pyN_g48, pyN_a606, pyN_s606, pyN_g49, pyN_a607, pyN_s607, pyN_g55, pyN_a608, pyN_s608, pyN_g56, pyN_a609, pyN_s609, pyN_g57, pyN_a610, pyN_s610, pyN_g58, pyN_a611, pyN_s611, pyN_g59, pyN_a612, pyN_s612, pyN_g60, pyN_a613, pyN_s613, pyN_g74, pyN_a614, pyN_s614, pyN_g75, pyN_a615, pyN_s615, pyN_g76, pyN_a616, pyN_s616, pyN_g78, pyN_a617, pyN_s617, pyN_g79, pyN_a618, pyN_s618]
    refine pxW_b2 (n_fits K M i0 i1 okr x0 x1 n0 n1 (other := y) (by omega) y1) fun v h1 q => ?_
    obtain ⟨V, Q, hv⟩ := q
    unfold pxDesc
    cases z : (pyDet s r one y (pxPtM s p).2.2.1 px0 px0 x 0).bind (pyFin r (decide (pxP s (pxPtM s p).2.1 = 36))) with
    | none =>
      rw [z] at Q
      rw [Q.1 rfl]
      try simp (maxSteps := 4000000) (disch := first | assumption | omega | (simp only [pyS_I]; assumption)) only [pxL0, pxL1, pxL2, pxL3, pxL4, pxL5, pxL6, pxL7, pxL8, pxL9, pxL10, pxL11, pxL12, pxL13, pxL14, pxL15, pxL16, pxL17, pxL18, pxL19, pxL20, pxL21, pxL22, pxL23, pxL24, pxL25, pxL26, pxL27, pxL28, pxL29, pxL30, pxL31, pxL32, pxL33, pxL34, pxL35, pxL36, pxL37, pxL38, pxL39, pxL40, pxL41, pxL42, pxL43, pxL44, pxL45, pxL46, pxL47, pxL48, pxL49, pxL51, pxL57, pxL58, pxL59, pxL60, pxL61, pxL62, pxL63, pxL64, pxL65, pxL66, pxL67, pxL68, pxL69, pxL70, pxL71, pxL72, pxL73, pxL74, pxL75, pxL76, pxL77, pxL78, pxL79, pxL80, pxL81, pxL82, pxL83, pxL84, pxL85, pxL86, pxL87, pxL88, pxL89, pxL90, pxL91, pxL92, pxL93, pxL94, pxL95, pxL96, pxL97, pxL98, pxL99, pxL100, pxL101, pxL102, pxL103, pxL104, pxL105, pxL106, pxL107, pxL108, pxL109, pxL110, pxL111, pxL112, pxL113, pxL114, pxL115, pxL116, pxL117, pxL118, pxL119, pxL120, pxL121, pxL122, pxL123, pxL124, pxL125, pxL126, pxL200, pxL240, pxL287, pxL388, pxL400, pxL429, pxL431, pxL440, pxL1240, pxL1600, pxL1681, pxL12028, pxL13849, pxL14880, pxL25173, pxL26908, pxL49600, pxL65535, pxL65536, ↓reduceIte, reduceCtorEq, pxJ_add, pxJ_sub, pxJ_mul, pxJ_neg, pxD_lt_t, pxD_lt_f, pxD_le_t, pxD_le_f, pxD_eq_t, pxD_eq_f, pxJ_lt, pxJ_le, pxJ_eq, pxJ_div, px_b2, px_bs, px_rb0, px_rb1, pxW_some, Option.some.injEq, pxM_eq, pxM_ne, pyN_gI, pyN_pI, pyN_rc, pyN_g1, pyN_a588, pyN_s588, pyN_g3, pyN_a589, pyN_s589, pyN_g4, pyN_a590, pyN_s590, pyN_g5, pyN_a591, pyN_s591, pyN_g6, pyN_a592, pyN_s592, pyN_g7, pyN_a593, pyN_s593, pyN_g8, pyN_a594, pyN_s594, pyN_g9, pyN_a595, pyN_s595, pyN_g10, pyN_a596, pyN_s596, pyN_g11, pyN_a597, pyN_s597, pyN_g19, pyN_a598, pyN_s598, pyN_g21, pyN_a599, pyN_s599, pyN_g31, pyN_a600, pyN_s600, pyN_g32, pyN_a601, pyN_s601, pyN_g38, pyN_a602, pyN_s602, pyN_g39, pyN_a603, pyN_s603, pyN_g46, pyN_a604, pyN_s604, pyN_g47, pyN_a605, pyN_s605, pyN_g48, pyN_a606, pyN_s606, pyN_g49, pyN_a607, pyN_s607, pyN_g55, pyN_a608, pyN_s608, pyN_g56, pyN_a609, pyN_s609, pyN_g57, pyN_a610, pyN_s610, pyN_g58, pyN_a611, pyN_s611, pyN_g59, pyN_a612, pyN_s612, pyN_g60, pyN_a613, pyN_s613, pyN_g74, pyN_a614, pyN_s614, pyN_g75, pyN_a615, pyN_s615, pyN_g76, pyN_a616, pyN_s616, pyN_g78, pyN_a617, pyN_s617, pyN_g79, pyN_a618, pyN_s618]
      refine pxW.mono (ih N h1 (y + -1) (by omega) (by omega) (by omega) (M.f V i0 okr.1)) fun v h' w => ⟨V.trans w.1, ?_⟩
      rw [show y + -1 = y - 1 by omega] at w
      exact w.2
    | some w =>
      rw [z] at Q
      obtain ⟨yy, o, c⟩ := w
      have a := Q.2 yy o c rfl
      rw [a.1]
      try simp (maxSteps := 4000000) (disch := first | assumption | omega | (simp only [pyS_I]; assumption)) only [pxL0, pxL1, pxL2, pxL3, pxL4, pxL5, pxL6, pxL7, pxL8, pxL9, pxL10, pxL11, pxL12, pxL13, pxL14, pxL15, pxL16, pxL17, pxL18, pxL19, pxL20, pxL21, pxL22, pxL23, pxL24, pxL25, pxL26, pxL27, pxL28, pxL29, pxL30, pxL31, pxL32, pxL33, pxL34, pxL35, pxL36, pxL37, pxL38, pxL39, pxL40, pxL41, pxL42, pxL43, pxL44, pxL45, pxL46, pxL47, pxL48, pxL49, pxL51, pxL57, pxL58, pxL59, pxL60, pxL61, pxL62, pxL63, pxL64, pxL65, pxL66, pxL67, pxL68, pxL69, pxL70, pxL71, pxL72, pxL73, pxL74, pxL75, pxL76, pxL77, pxL78, pxL79, pxL80, pxL81, pxL82, pxL83, pxL84, pxL85, pxL86, pxL87, pxL88, pxL89, pxL90, pxL91, pxL92, pxL93, pxL94, pxL95, pxL96, pxL97, pxL98, pxL99, pxL100, pxL101, pxL102, pxL103, pxL104, pxL105, pxL106, pxL107, pxL108, pxL109, pxL110, pxL111, pxL112, pxL113, pxL114, pxL115, pxL116, pxL117, pxL118, pxL119, pxL120, pxL121, pxL122, pxL123, pxL124, pxL125, pxL126, pxL200, pxL240, pxL287, pxL388, pxL400, pxL429, pxL431, pxL440, pxL1240, pxL1600, pxL1681, pxL12028, pxL13849, pxL14880, pxL25173, pxL26908, pxL49600, pxL65535, pxL65536, ↓reduceIte, reduceCtorEq, pxJ_add, pxJ_sub, pxJ_mul, pxJ_neg, pxD_lt_t, pxD_lt_f, pxD_le_t, pxD_le_f, pxD_eq_t, pxD_eq_f, pxJ_lt, pxJ_le, pxJ_eq, pxJ_div, px_b2, px_bs, px_rb0, px_rb1, pxW_some, Option.some.injEq, pxM_eq, pxM_ne, pyN_gI, pyN_pI, pyN_rc, pyN_g1, pyN_a588, pyN_s588, pyN_g3, pyN_a589, pyN_s589, pyN_g4, pyN_a590, pyN_s590, pyN_g5, pyN_a591, pyN_s591, pyN_g6, pyN_a592, pyN_s592, pyN_g7, pyN_a593, pyN_s593, pyN_g8, pyN_a594, pyN_s594, pyN_g9, pyN_a595, pyN_s595, pyN_g10, pyN_a596, pyN_s596, pyN_g11, pyN_a597, pyN_s597, pyN_g19, pyN_a598, pyN_s598, pyN_g21, pyN_a599, pyN_s599, pyN_g31, pyN_a600, pyN_s600, pyN_g32, pyN_a601, pyN_s601, pyN_g38, pyN_a602, pyN_s602, pyN_g39, pyN_a603, pyN_s603, pyN_g46, pyN_a604, pyN_s604, pyN_g47, pyN_a605, pyN_s605, pyN_g48, pyN_a606, pyN_s606, pyN_g49, pyN_a607, pyN_s607, pyN_g55, pyN_a608, pyN_s608, pyN_g56, pyN_a609, pyN_s609, pyN_g57, pyN_a610, pyN_s610, pyN_g58, pyN_a611, pyN_s611, pyN_g59, pyN_a612, pyN_s612, pyN_g60, pyN_a613, pyN_s613, pyN_g74, pyN_a614, pyN_s614, pyN_g75, pyN_a615, pyN_s615, pyN_g76, pyN_a616, pyN_s616, pyN_g78, pyN_a617, pyN_s617, pyN_g79, pyN_a618, pyN_s618]
      exact ⟨V, fun z => (nomatch z), fun y' o' c' zz => by cases zz; exact ⟨rfl, a.2⟩⟩
set_option maxHeartbeats 8000000 in
theorem n_matches_b35 {s r : List Int} {i p x : Int} (K : pyPk s p) (i0 : 0 ≤ i) (i1 : i < 868) (okr : pxOr r) (x0 : 0 ≤ x) (x1 : x ≤ r.length) : ∀ (m N : Nat) (h : jw_H) (one : Int), (m : Int) = one + 1 → one ≤ r.length - x → m < N → pyMR h s r i p →
      pxW (f_X12_matches_b35 N h 587 (pxJ i) (pxJ x) (pxJ (r.length - x)) (pxJ one)) fun v h' => pyV pyQf h h' ∧ pyMo h' r (pxPatK s p) x (pxDesc (fun one => pxDesc (fun other => (pyDet s r one other (pxPtM s p).2.2.1 px0 px0 x 0).bind (pyFin r (decide (pxP s (pxPtM s p).2.1 = 36)))) ((if 1 < pyStn (pxPtM s p).2.2.1 then r.length - x - one else 0) + 1).toNat (if 1 < pyStn (pxPtM s p).2.2.1 then r.length - x - one else 0)) m one) v := by
  intro m
  have lr := okr.1
  induction m with
  | zero =>
    intro N h one ho o1 hN M
    obtain ⟨N, rfl, -⟩ := px_fu hN
    rw [u_X12_matches_b35]
    unfold g_X12_matches_b35
    try simp (maxSteps := 4000000) (disch := first | assumption | omega | (simp only [pyS_I]; assumption)) only [pxL0, pxL1, pxL2, pxL3, pxL4, pxL5, pxL6, pxL7, pxL8, pxL9, pxL10, pxL11, pxL12, pxL13, pxL14, pxL15, pxL16, pxL17, pxL18, pxL19, pxL20, pxL21, pxL22, pxL23, pxL24, pxL25, pxL26, pxL27, pxL28, pxL29, pxL30, pxL31, pxL32, pxL33, pxL34, pxL35, pxL36, pxL37, pxL38, pxL39, pxL40, pxL41, pxL42, pxL43, pxL44, pxL45, pxL46, pxL47, pxL48, pxL49, pxL51, pxL57, pxL58, pxL59, pxL60, pxL61, pxL62, pxL63, pxL64, pxL65, pxL66, pxL67, pxL68, pxL69, pxL70, pxL71, pxL72, pxL73, pxL74, pxL75, pxL76, pxL77, pxL78, pxL79, pxL80, pxL81, pxL82, pxL83, pxL84, pxL85, pxL86, pxL87, pxL88, pxL89, pxL90, pxL91, pxL92, pxL93, pxL94, pxL95, pxL96, pxL97, pxL98, pxL99, pxL100, pxL101, pxL102, pxL103, pxL104, pxL105, pxL106, pxL107, pxL108, pxL109, pxL110, pxL111, pxL112, pxL113, pxL114, pxL115, pxL116, pxL117, pxL118, pxL119, pxL120, pxL121, pxL122, pxL123, pxL124, pxL125, pxL126, pxL200, pxL240, pxL287, pxL388, pxL400, pxL429, pxL431, pxL440, pxL1240, pxL1600, pxL1681, pxL12028, pxL13849, pxL14880, pxL25173, pxL26908, pxL49600, pxL65535, pxL65536, ↓reduceIte, reduceCtorEq, pxJ_add, pxJ_sub, pxJ_mul, pxJ_neg, pxD_lt_t, pxD_lt_f, pxD_le_t, pxD_le_f, pxD_eq_t, pxD_eq_f, pxJ_lt, pxJ_le, pxJ_eq, pxJ_div, px_b2, px_bs, px_rb0, px_rb1, pxW_some, Option.some.injEq, pxM_eq, pxM_ne, pyN_gI, pyN_pI, pyN_rc, pyN_g1, pyN_a588, pyN_s588, pyN_g3, pyN_a589, pyN_s589, pyN_g4, pyN_a590, pyN_s590, pyN_g5, pyN_a591, pyN_s591, pyN_g6, pyN_a592, pyN_s592, pyN_g7, pyN_a593, pyN_s593, pyN_g8, pyN_a594, pyN_s594, pyN_g9, pyN_a595, pyN_s595, pyN_g10, pyN_a596, pyN_s596, pyN_g11, pyN_a597, pyN_s597, pyN_g19, pyN_a598, pyN_s598, pyN_g21, pyN_a599, pyN_s599, pyN_g31, pyN_a600, pyN_s600, pyN_g32, pyN_a601, pyN_s601, pyN_g38, pyN_a602, pyN_s602, pyN_g39, pyN_a603, pyN_s603, pyN_g46, pyN_a604, pyN_s604, pyN_g47, pyN_a605, pyN_s605, pyN_g48, pyN_a606, pyN_s606, pyN_g49, pyN_a607, pyN_s607, pyN_g55, pyN_a608, pyN_s608, pyN_g56, pyN_a609, pyN_s609, pyN_g57, pyN_a610, pyN_s610, pyN_g58, pyN_a611, pyN_s611, pyN_g59, pyN_a612, pyN_s612, pyN_g60, pyN_a613, pyN_s613, pyN_g74, pyN_a614, pyN_s614, pyN_g75, pyN_a615, pyN_s615, pyN_g76, pyN_a616, pyN_s616, pyN_g78, pyN_a617, pyN_s617, pyN_g79, pyN_a618, pyN_s618]
    exact ⟨pyV.rfl, fun _ => rfl, fun y o c z => (nomatch z)⟩
  | succ m ih =>
    intro N h one ho o1 hN M
    obtain ⟨N, rfl, hN⟩ := px_fu hN
    have H := M.1
    have e34 := M.2.2.2.2.2.1
    have sn := pyStn_0 (pxPtM s p).2.2.1
    have sn2 := K.n
    rw [u_X12_matches_b35]
    unfold g_X12_matches_b35 g_X12_matches_b56 pxDesc
    have ct : ∀ h1, pyMR h1 s r i p → pxW (f_X12_matches_b35 N h1 587 (pxJ i) (pxJ x) (pxJ (r.length - x)) (pxJ (one + -1))) fun v h' => pyV pyQf h1 h' ∧ pyMo h' r (pxPatK s p) x (pxDesc (fun one => pxDesc (fun other => (pyDet s r one other (pxPtM s p).2.2.1 px0 px0 x 0).bind (pyFin r (decide (pxP s (pxPtM s p).2.1 = 36)))) ((if 1 < pyStn (pxPtM s p).2.2.1 then r.length - x - one else 0) + 1).toNat (if 1 < pyStn (pxPtM s p).2.2.1 then r.length - x - one else 0)) m (one - 1)) v := by
      intro h1 M1
      rw [show one - 1 = one + -1 by omega]
      exact ih N h1 (one + -1) (by omega) (by omega) (by omega) M1
    by_cases c : 1 < pyStn (pxPtM s p).2.2.1
    · simp only [if_pos c] at ct ⊢
      have B := n_matches_b58 (sz := r.length - x) K i0 i1 okr x0 x1 (by omega) (by omega) ct (r.length - x - one + 1).toNat jw_FU h (r.length - x - one) (by omega) (by omega) (by unfold jw_FU; omega) M
      try simp (maxSteps := 4000000) (disch := first | assumption | omega | (simp only [pyS_I]; assumption)) only [pxL0, pxL1, pxL2, pxL3, pxL4, pxL5, pxL6, pxL7, pxL8, pxL9, pxL10, pxL11, pxL12, pxL13, pxL14, pxL15, pxL16, pxL17, pxL18, pxL19, pxL20, pxL21, pxL22, pxL23, pxL24, pxL25, pxL26, pxL27, pxL28, pxL29, pxL30, pxL31, pxL32, pxL33, pxL34, pxL35, pxL36, pxL37, pxL38, pxL39, pxL40, pxL41, pxL42, pxL43, pxL44, pxL45, pxL46, pxL47, pxL48, pxL49, pxL51, pxL57, pxL58, pxL59, pxL60, pxL61, pxL62, pxL63, pxL64, pxL65, pxL66, pxL67, pxL68, pxL69, pxL70, pxL71, pxL72, pxL73, pxL74, pxL75, pxL76, pxL77, pxL78, pxL79, pxL80, pxL81, pxL82, pxL83, pxL84, pxL85, pxL86, pxL87, pxL88, pxL89, pxL90, pxL91, pxL92, pxL93, pxL94, pxL95, pxL96, pxL97, pxL98, pxL99, pxL100, pxL101, pxL102, pxL103, pxL104, pxL105, pxL106, pxL107, pxL108, pxL109, pxL110, pxL111, pxL112, pxL113, pxL114, pxL115, pxL116, pxL117, pxL118, pxL119, pxL120, pxL121, pxL122, pxL123, pxL124, pxL125, pxL126, pxL200, pxL240, pxL287, pxL388, pxL400, pxL429, pxL431, pxL440, pxL1240, pxL1600, pxL1681, pxL12028, pxL13849, pxL14880, pxL25173, pxL26908, pxL49600, pxL65535, pxL65536, ↓reduceIte, reduceCtorEq, pxJ_add, pxJ_sub, pxJ_mul, pxJ_neg, pxD_lt_t, pxD_lt_f, pxD_le_t, pxD_le_f, pxD_eq_t, pxD_eq_f, pxJ_lt, pxJ_le, pxJ_eq, pxJ_div, px_b2, px_bs, px_rb0, px_rb1, pxW_some, Option.some.injEq, pxM_eq, pxM_ne, pyN_gI, pyN_pI, pyN_rc, pyN_g1, pyN_a588, pyN_s588, pyN_g3, pyN_a589, pyN_s589, pyN_g4, pyN_a590, pyN_s590, pyN_g5, pyN_a591, pyN_s591, pyN_g6, pyN_a592, pyN_s592, pyN_g7, pyN_a593, pyN_s593, pyN_g8, pyN_a594, pyN_s594, pyN_g9, pyN_a595, pyN_s595, pyN_g10, pyN_a596, pyN_s596, pyN_g11, pyN_a597, pyN_s597, pyN_g19, pyN_a598, pyN_s598, pyN_g21, pyN_a599, pyN_s599, pyN_g31, pyN_a600, pyN_s600, pyN_g32, pyN_a601, pyN_s601, pyN_g38, pyN_a602, pyN_s602, pyN_g39, pyN_a603, pyN_s603, pyN_g46, pyN_a604, pyN_s604, pyN_g47, pyN_a605, pyN_s605, pyN_g48, pyN_a606, pyN_s606, pyN_g49, pyN_a607, pyN_s607, pyN_g55, pyN_a608, pyN_s608, pyN_g56, pyN_a609, pyN_s609, pyN_g57, pyN_a610, pyN_s610, pyN_g58, pyN_a611, pyN_s611, pyN_g59, pyN_a612, pyN_s612, pyN_g60, pyN_a613, pyN_s613, pyN_g74, pyN_a614, pyN_s614, pyN_g75, pyN_a615, pyN_s615, pyN_g76, pyN_a616, pyN_s616, pyN_g78, pyN_a617, pyN_s617, pyN_g79, pyN_a618, pyN_s618, e34]
      exact B
    · simp only [if_neg c] at ct ⊢
      have B := n_matches_b58 (sz := r.length - x) K i0 i1 okr x0 x1 (by omega) (by omega) ct (0 + 1 : Int).toNat jw_FU h 0 (by omega) (by omega) (by unfold jw_FU; omega) M
      try simp (maxSteps := 4000000) (disch := first | assumption | omega | (simp only [pyS_I]; assumption)) only [pxL0, pxL1, pxL2, pxL3, pxL4, pxL5, pxL6, pxL7, pxL8, pxL9, pxL10, pxL11, pxL12, pxL13, pxL14, pxL15, pxL16, pxL17, pxL18, pxL19, pxL20, pxL21, pxL22, pxL23, pxL24, pxL25, pxL26, pxL27, pxL28, pxL29, pxL30, pxL31, pxL32, pxL33, pxL34, pxL35, pxL36, pxL37, pxL38, pxL39, pxL40, pxL41, pxL42, pxL43, pxL44, pxL45, pxL46, pxL47, pxL48, pxL49, pxL51, pxL57, pxL58, pxL59, pxL60, pxL61, pxL62, pxL63, pxL64, pxL65, pxL66, pxL67, pxL68, pxL69, pxL70, pxL71, pxL72, pxL73, pxL74, pxL75, pxL76, pxL77, pxL78, pxL79, pxL80, pxL81, pxL82, pxL83, pxL84, pxL85, pxL86, pxL87, pxL88, pxL89, pxL90, pxL91, pxL92, pxL93, pxL94, pxL95, pxL96, pxL97, pxL98, pxL99, pxL100, pxL101, pxL102, pxL103, pxL104, pxL105, pxL106, pxL107, pxL108, pxL109, pxL110, pxL111, pxL112, pxL113, pxL114, pxL115, pxL116, pxL117, pxL118, pxL119, pxL120, pxL121, pxL122, pxL123, pxL124, pxL125, pxL126, pxL200, pxL240, pxL287, pxL388, pxL400, pxL429, pxL431, pxL440, pxL1240, pxL1600, pxL1681, pxL12028, pxL13849, pxL14880, pxL25173, pxL26908, pxL49600, pxL65535, pxL65536, ↓reduceIte, reduceCtorEq, pxJ_add, pxJ_sub, pxJ_mul, pxJ_neg, pxD_lt_t, pxD_lt_f, pxD_le_t, pxD_le_f, pxD_eq_t, pxD_eq_f, pxJ_lt, pxJ_le, pxJ_eq, pxJ_div, px_b2, px_bs, px_rb0, px_rb1, pxW_some, Option.some.injEq, pxM_eq, pxM_ne, pyN_gI, pyN_pI, pyN_rc, pyN_g1, pyN_a588, pyN_s588, pyN_g3, pyN_a589, pyN_s589, pyN_g4, pyN_a590, pyN_s590, pyN_g5, pyN_a591, pyN_s591, pyN_g6, pyN_a592, pyN_s592, pyN_g7, pyN_a593, pyN_s593, pyN_g8, pyN_a594, pyN_s594, pyN_g9, pyN_a595, pyN_s595, pyN_g10, pyN_a596, pyN_s596, pyN_g11, pyN_a597, pyN_s597, pyN_g19, pyN_a598, pyN_s598, pyN_g21, pyN_a599, pyN_s599, pyN_g31, pyN_a600, pyN_s600, pyN_g32, pyN_a601, pyN_s601, pyN_g38, pyN_a602, pyN_s602, pyN_g39, pyN_a603, pyN_s603, pyN_g46, pyN_a604, pyN_s604, pyN_g47, pyN_a605, pyN_s605, pyN_g48, pyN_a606, pyN_s606, pyN_g49, pyN_a607, pyN_s607, pyN_g55, pyN_a608, pyN_s608, pyN_g56, pyN_a609, pyN_s609, pyN_g57, pyN_a610, pyN_s610, pyN_g58, pyN_a611, pyN_s611, pyN_g59, pyN_a612, pyN_s612, pyN_g60, pyN_a613, pyN_s613, pyN_g74, pyN_a614, pyN_s614, pyN_g75, pyN_a615, pyN_s615, pyN_g76, pyN_a616, pyN_s616, pyN_g78, pyN_a617, pyN_s617, pyN_g79, pyN_a618, pyN_s618, e34]
      exact B
set_option maxHeartbeats 8000000 in
theorem n_matches {h : jw_H} {s r : List Int} {i p x : Int} (K : pyPk s p) (M : pyMR h s r i p) (i0 : 0 ≤ i) (i1 : i < 868) (okr : pxOr r) (x0 : 0 ≤ x) (x1 : x ≤ r.length) :
    pxW (f_X12_matches h 587 (pxJ i) (pxJ x)) fun v h' => pyV pyQf h h' ∧ pyMo h' r (pxPatK s p) x (pxFit s r (pxFull s p) px0 px0 x) v := by
  have H := M.1
  have R := M.2.2.1
  have e34 := M.2.2.2.2.2.1
  have e35 := M.2.2.2.2.2.2.1
  have lr := okr.1
  have sn := pyStn_0 (pxPtM s p).2.2.1
  have sn2 := K.n
  have b13 : pxW (g_X12_matches_b13 h 587 (pxJ i) (pxJ x)) fun v h' => pyV pyQf h h' ∧ pyMo h' r (pxPatK s p) x (pxFit s r ((pxPtM s p).2.2.1 ++ pyTl (decide (pxP s (pxPtM s p).2.1 = 36))) px0 px0 x) v := by
    rw [← pyAll_e (fun y hy => (K.ok y hy).e7) sn2 (K.w pyTl_w.1 pyTl_w.2).1 x1]
    unfold g_X12_matches_b13 g_X12_matches_b33 pyAll
    by_cases c : 0 < pyStn (pxPtM s p).2.2.1
    · rw [if_pos c]
      have B := n_matches_b35 K i0 i1 okr x0 x1 (r.length - x + 1).toNat jw_FU h (r.length - x) (by omega) (by omega) (by unfold jw_FU; omega) M
      try simp (maxSteps := 4000000) (disch := first | assumption | omega | (simp only [pyS_I]; assumption)) only [pxL0, pxL1, pxL2, pxL3, pxL4, pxL5, pxL6, pxL7, pxL8, pxL9, pxL10, pxL11, pxL12, pxL13, pxL14, pxL15, pxL16, pxL17, pxL18, pxL19, pxL20, pxL21, pxL22, pxL23, pxL24, pxL25, pxL26, pxL27, pxL28, pxL29, pxL30, pxL31, pxL32, pxL33, pxL34, pxL35, pxL36, pxL37, pxL38, pxL39, pxL40, pxL41, pxL42, pxL43, pxL44, pxL45, pxL46, pxL47, pxL48, pxL49, pxL51, pxL57, pxL58, pxL59, pxL60, pxL61, pxL62, pxL63, pxL64, pxL65, pxL66, pxL67, pxL68, pxL69, pxL70, pxL71, pxL72, pxL73, pxL74, pxL75, pxL76, pxL77, pxL78, pxL79, pxL80, pxL81, pxL82, pxL83, pxL84, pxL85, pxL86, pxL87, pxL88, pxL89, pxL90, pxL91, pxL92, pxL93, pxL94, pxL95, pxL96, pxL97, pxL98, pxL99, pxL100, pxL101, pxL102, pxL103, pxL104, pxL105, pxL106, pxL107, pxL108, pxL109, pxL110, pxL111, pxL112, pxL113, pxL114, pxL115, pxL116, pxL117, pxL118, pxL119, pxL120, pxL121, pxL122, pxL123, pxL124, pxL125, pxL126, pxL200, pxL240, pxL287, pxL388, pxL400, pxL429, pxL431, pxL440, pxL1240, pxL1600, pxL1681, pxL12028, pxL13849, pxL14880, pxL25173, pxL26908, pxL49600, pxL65535, pxL65536, ↓reduceIte, reduceCtorEq, pxJ_add, pxJ_sub, pxJ_mul, pxJ_neg, pxD_lt_t, pxD_lt_f, pxD_le_t, pxD_le_f, pxD_eq_t, pxD_eq_f, pxJ_lt, pxJ_le, pxJ_eq, pxJ_div, px_b2, px_bs, px_rb0, px_rb1, pxW_some, Option.some.injEq, pxM_eq, pxM_ne, pyN_gI, pyN_pI, pyN_rc, pyN_g1, pyN_a588, pyN_s588, pyN_g3, pyN_a589, pyN_s589, pyN_g4, pyN_a590, pyN_s590, pyN_g5, pyN_a591, pyN_s591, pyN_g6, pyN_a592, pyN_s592, pyN_g7, pyN_a593, pyN_s593, pyN_g8, pyN_a594, pyN_s594, pyN_g9, pyN_a595, pyN_s595, pyN_g10, pyN_a596, pyN_s596, pyN_g11, pyN_a597, pyN_s597, pyN_g19, pyN_a598, pyN_s598, pyN_g21, pyN_a599, pyN_s599, pyN_g31, pyN_a600, pyN_s600, pyN_g32, pyN_a601, pyN_s601, pyN_g38, pyN_a602, pyN_s602, pyN_g39, pyN_a603, pyN_s603, pyN_g46, pyN_a604, pyN_s604, pyN_g47, pyN_a605, pyN_s605, pyN_g48, pyN_a606, pyN_s606, pyN_g49, pyN_a607, pyN_s607, pyN_g55, pyN_a608, pyN_s608, pyN_g56, pyN_a609, pyN_s609, pyN_g57, pyN_a610, pyN_s610, pyN_g58, pyN_a611, pyN_s611, pyN_g59, pyN_a612, pyN_s612, pyN_g60, pyN_a613, pyN_s613, pyN_g74, pyN_a614, pyN_s614, pyN_g75, pyN_a615, pyN_s615, pyN_g76, pyN_a616, pyN_s616, pyN_g78, pyN_a617, pyN_s617, pyN_g79, pyN_a618, pyN_s618, n_len H R i0 i1, e34]
      exact B
    · rw [if_neg c]
      have B := n_matches_b35 K i0 i1 okr x0 x1 (0 + 1 : Int).toNat jw_FU h 0 (by omega) (by omega) (by unfold jw_FU; omega) M
      try simp (maxSteps := 4000000) (disch := first | assumption | omega | (simp only [pyS_I]; assumption)) only [pxL0, pxL1, pxL2, pxL3, pxL4, pxL5, pxL6, pxL7, pxL8, pxL9, pxL10, pxL11, pxL12, pxL13, pxL14, pxL15, pxL16, pxL17, pxL18, pxL19, pxL20, pxL21, pxL22, pxL23, pxL24, pxL25, pxL26, pxL27, pxL28, pxL29, pxL30, pxL31, pxL32, pxL33, pxL34, pxL35, pxL36, pxL37, pxL38, pxL39, pxL40, pxL41, pxL42, pxL43, pxL44, pxL45, pxL46, pxL47, pxL48, pxL49, pxL51, pxL57, pxL58, pxL59, pxL60, pxL61, pxL62, pxL63, pxL64, pxL65, pxL66, pxL67, pxL68, pxL69, pxL70, pxL71, pxL72, pxL73, pxL74, pxL75, pxL76, pxL77, pxL78, pxL79, pxL80, pxL81, pxL82, pxL83, pxL84, pxL85, pxL86, pxL87, pxL88, pxL89, pxL90, pxL91, pxL92, pxL93, pxL94, pxL95, pxL96, pxL97, pxL98, pxL99, pxL100, pxL101, pxL102, pxL103, pxL104, pxL105, pxL106, pxL107, pxL108, pxL109, pxL110, pxL111, pxL112, pxL113, pxL114, pxL115, pxL116, pxL117, pxL118, pxL119, pxL120, pxL121, pxL122, pxL123, pxL124, pxL125, pxL126, pxL200, pxL240, pxL287, pxL388, pxL400, pxL429, pxL431, pxL440, pxL1240, pxL1600, pxL1681, pxL12028, pxL13849, pxL14880, pxL25173, pxL26908, pxL49600, pxL65535, pxL65536, ↓reduceIte, reduceCtorEq, pxJ_add, pxJ_sub, pxJ_mul, pxJ_neg, pxD_lt_t, pxD_lt_f, pxD_le_t, pxD_le_f, pxD_eq_t, pxD_eq_f, pxJ_lt, pxJ_le, pxJ_eq, pxJ_div, px_b2, px_bs, px_rb0, px_rb1, pxW_some, Option.some.injEq, pxM_eq, pxM_ne, pyN_gI, pyN_pI, pyN_rc, pyN_g1, pyN_a588, pyN_s588, pyN_g3, pyN_a589, pyN_s589, pyN_g4, pyN_a590, pyN_s590, pyN_g5, pyN_a591, pyN_s591, pyN_g6, pyN_a592, pyN_s592, pyN_g7, pyN_a593, pyN_s593, pyN_g8, pyN_a594, pyN_s594, pyN_g9, pyN_a595, pyN_s595, pyN_g10, pyN_a596, pyN_s596, pyN_g11, pyN_a597, pyN_s597, pyN_g19, pyN_a598, pyN_s598, pyN_g21, pyN_a599, pyN_s599, pyN_g31, pyN_a600, pyN_s600, pyN_g32, pyN_a601, pyN_s601, pyN_g38, pyN_a602, pyN_s602, pyN_g39, pyN_a603, pyN_s603, pyN_g46, pyN_a604, pyN_s604, pyN_g47, pyN_a605, pyN_s605, pyN_g48, pyN_a606, pyN_s606, pyN_g49, pyN_a607, pyN_s607, pyN_g55, pyN_a608, pyN_s608, pyN_g56, pyN_a609, pyN_s609, pyN_g57, pyN_a610, pyN_s610, pyN_g58, pyN_a611, pyN_s611, pyN_g59, pyN_a612, pyN_s612, pyN_g60, pyN_a613, pyN_s613, pyN_g74, pyN_a614, pyN_s614, pyN_g75, pyN_a615, pyN_s615, pyN_g76, pyN_a616, pyN_s616, pyN_g78, pyN_a617, pyN_s617, pyN_g79, pyN_a618, pyN_s618, n_len H R i0 i1, e34]
      exact B
  rw [pyFull_e]
  unfold f_X12_matches
  by_cases c : pxP s p = 94
  · rw [if_pos c] at e35 ⊢
    have ef : pxFit s r ([(8, 0)] ++ ((pxPtM s p).2.2.1 ++ pyTl (decide (pxP s (pxPtM s p).2.1 = 36)))) px0 px0 x = if x = 0 then pxFit s r ((pxPtM s p).2.2.1 ++ pyTl (decide (pxP s (pxPtM s p).2.1 = 36))) px0 px0 x else none := rfl
    rw [ef]
    by_cases d : x = 0
    · rw [if_pos d]
      try simp (maxSteps := 4000000) (disch := first | assumption | omega | (simp only [pyS_I]; assumption)) only [pxL0, pxL1, pxL2, pxL3, pxL4, pxL5, pxL6, pxL7, pxL8, pxL9, pxL10, pxL11, pxL12, pxL13, pxL14, pxL15, pxL16, pxL17, pxL18, pxL19, pxL20, pxL21, pxL22, pxL23, pxL24, pxL25, pxL26, pxL27, pxL28, pxL29, pxL30, pxL31, pxL32, pxL33, pxL34, pxL35, pxL36, pxL37, pxL38, pxL39, pxL40, pxL41, pxL42, pxL43, pxL44, pxL45, pxL46, pxL47, pxL48, pxL49, pxL51, pxL57, pxL58, pxL59, pxL60, pxL61, pxL62, pxL63, pxL64, pxL65, pxL66, pxL67, pxL68, pxL69, pxL70, pxL71, pxL72, pxL73, pxL74, pxL75, pxL76, pxL77, pxL78, pxL79, pxL80, pxL81, pxL82, pxL83, pxL84, pxL85, pxL86, pxL87, pxL88, pxL89, pxL90, pxL91, pxL92, pxL93, pxL94, pxL95, pxL96, pxL97, pxL98, pxL99, pxL100, pxL101, pxL102, pxL103, pxL104, pxL105, pxL106, pxL107, pxL108, pxL109, pxL110, pxL111, pxL112, pxL113, pxL114, pxL115, pxL116, pxL117, pxL118, pxL119, pxL120, pxL121, pxL122, pxL123, pxL124, pxL125, pxL126, pxL200, pxL240, pxL287, pxL388, pxL400, pxL429, pxL431, pxL440, pxL1240, pxL1600, pxL1681, pxL12028, pxL13849, pxL14880, pxL25173, pxL26908, pxL49600, pxL65535, pxL65536, ↓reduceIte, reduceCtorEq, pxJ_add, pxJ_sub, pxJ_mul, pxJ_neg, pxD_lt_t, pxD_lt_f, pxD_le_t, pxD_le_f, pxD_eq_t, pxD_eq_f, pxJ_lt, pxJ_le, pxJ_eq, pxJ_div, px_b2, px_bs, px_rb0, px_rb1, pxW_some, Option.some.injEq, pxM_eq, pxM_ne, pyN_gI, pyN_pI, pyN_rc, pyN_g1, pyN_a588, pyN_s588, pyN_g3, pyN_a589, pyN_s589, pyN_g4, pyN_a590, pyN_s590, pyN_g5, pyN_a591, pyN_s591, pyN_g6, pyN_a592, pyN_s592, pyN_g7, pyN_a593, pyN_s593, pyN_g8, pyN_a594, pyN_s594, pyN_g9, pyN_a595, pyN_s595, pyN_g10, pyN_a596, pyN_s596, pyN_g11, pyN_a597, pyN_s597, pyN_g19, pyN_a598, pyN_s598, pyN_g21, pyN_a599, pyN_s599, pyN_g31, pyN_a600, pyN_s600, pyN_g32, pyN_a601, pyN_s601, pyN_g38, pyN_a602, pyN_s602, pyN_g39, pyN_a603, pyN_s603, pyN_g46, pyN_a604, pyN_s604, pyN_g47, pyN_a605, pyN_s605, pyN_g48, pyN_a606, pyN_s606, pyN_g49, pyN_a607, pyN_s607, pyN_g55, pyN_a608, pyN_s608, pyN_g56, pyN_a609, pyN_s609, pyN_g57, pyN_a610, pyN_s610, pyN_g58, pyN_a611, pyN_s611, pyN_g59, pyN_a612, pyN_s612, pyN_g60, pyN_a613, pyN_s613, pyN_g74, pyN_a614, pyN_s614, pyN_g75, pyN_a615, pyN_s615, pyN_g76, pyN_a616, pyN_s616, pyN_g78, pyN_a617, pyN_s617, pyN_g79, pyN_a618, pyN_s618, e35]
      exact b13
    · rw [if_neg d]
      try simp (maxSteps := 4000000) (disch := first | assumption | omega | (simp only [pyS_I]; assumption)) only [pxL0, pxL1, pxL2, pxL3, pxL4, pxL5, pxL6, pxL7, pxL8, pxL9, pxL10, pxL11, pxL12, pxL13, pxL14, pxL15, pxL16, pxL17, pxL18, pxL19, pxL20, pxL21, pxL22, pxL23, pxL24, pxL25, pxL26, pxL27, pxL28, pxL29, pxL30, pxL31, pxL32, pxL33, pxL34, pxL35, pxL36, pxL37, pxL38, pxL39, pxL40, pxL41, pxL42, pxL43, pxL44, pxL45, pxL46, pxL47, pxL48, pxL49, pxL51, pxL57, pxL58, pxL59, pxL60, pxL61, pxL62, pxL63, pxL64, pxL65, pxL66, pxL67, pxL68, pxL69, pxL70, pxL71, pxL72, pxL73, pxL74, pxL75, pxL76, pxL77, pxL78, pxL79, pxL80, pxL81, pxL82, pxL83, pxL84, pxL85, pxL86, pxL87, pxL88, pxL89, pxL90, pxL91, pxL92, pxL93, pxL94, pxL95, pxL96, pxL97, pxL98, pxL99, pxL100, pxL101, pxL102, pxL103, pxL104, pxL105, pxL106, pxL107, pxL108, pxL109, pxL110, pxL111, pxL112, pxL113, pxL114, pxL115, pxL116, pxL117, pxL118, pxL119, pxL120, pxL121, pxL122, pxL123, pxL124, pxL125, pxL126, pxL200, pxL240, pxL287, pxL388, pxL400, pxL429, pxL431, pxL440, pxL1240, pxL1600, pxL1681, pxL12028, pxL13849, pxL14880, pxL25173, pxL26908, pxL49600, pxL65535, pxL65536, ↓reduceIte, reduceCtorEq, pxJ_add, pxJ_sub, pxJ_mul, pxJ_neg, pxD_lt_t, pxD_lt_f, pxD_le_t, pxD_le_f, pxD_eq_t, pxD_eq_f, pxJ_lt, pxJ_le, pxJ_eq, pxJ_div, px_b2, px_bs, px_rb0, px_rb1, pxW_some, Option.some.injEq, pxM_eq, pxM_ne, pyN_gI, pyN_pI, pyN_rc, pyN_g1, pyN_a588, pyN_s588, pyN_g3, pyN_a589, pyN_s589, pyN_g4, pyN_a590, pyN_s590, pyN_g5, pyN_a591, pyN_s591, pyN_g6, pyN_a592, pyN_s592, pyN_g7, pyN_a593, pyN_s593, pyN_g8, pyN_a594, pyN_s594, pyN_g9, pyN_a595, pyN_s595, pyN_g10, pyN_a596, pyN_s596, pyN_g11, pyN_a597, pyN_s597, pyN_g19, pyN_a598, pyN_s598, pyN_g21, pyN_a599, pyN_s599, pyN_g31, pyN_a600, pyN_s600, pyN_g32, pyN_a601, pyN_s601, pyN_g38, pyN_a602, pyN_s602, pyN_g39, pyN_a603, pyN_s603, pyN_g46, pyN_a604, pyN_s604, pyN_g47, pyN_a605, pyN_s605, pyN_g48, pyN_a606, pyN_s606, pyN_g49, pyN_a607, pyN_s607, pyN_g55, pyN_a608, pyN_s608, pyN_g56, pyN_a609, pyN_s609, pyN_g57, pyN_a610, pyN_s610, pyN_g58, pyN_a611, pyN_s611, pyN_g59, pyN_a612, pyN_s612, pyN_g60, pyN_a613, pyN_s613, pyN_g74, pyN_a614, pyN_s614, pyN_g75, pyN_a615, pyN_s615, pyN_g76, pyN_a616, pyN_s616, pyN_g78, pyN_a617, pyN_s617, pyN_g79, pyN_a618, pyN_s618, e35]
      exact ⟨pyV.rfl, fun _ => rfl, fun y o c z => (nomatch z)⟩
  · rw [if_neg c] at e35 ⊢
    rw [List.nil_append]
    try simp (maxSteps := 4000000) (disch := first | assumption | omega | (simp only [pyS_I]; assumption)) only [pxL0, pxL1, pxL2, pxL3, pxL4, pxL5, pxL6, pxL7, pxL8, pxL9, pxL10, pxL11, pxL12, pxL13, pxL14, pxL15, pxL16, pxL17, pxL18, pxL19, pxL20, pxL21, pxL22, pxL23, pxL24, pxL25, pxL26, pxL27, pxL28, pxL29, pxL30, pxL31, pxL32, pxL33, pxL34, pxL35, pxL36, pxL37, pxL38, pxL39, pxL40, pxL41, pxL42, pxL43, pxL44, pxL45, pxL46, pxL47, pxL48, pxL49, pxL51, pxL57, pxL58, pxL59, pxL60, pxL61, pxL62, pxL63, pxL64, pxL65, pxL66, pxL67, pxL68, pxL69, pxL70, pxL71, pxL72, pxL73, pxL74, pxL75, pxL76, pxL77, pxL78, pxL79, pxL80, pxL81, pxL82, pxL83, pxL84, pxL85, pxL86, pxL87, pxL88, pxL89, pxL90, pxL91, pxL92, pxL93, pxL94, pxL95, pxL96, pxL97, pxL98, pxL99, pxL100, pxL101, pxL102, pxL103, pxL104, pxL105, pxL106, pxL107, pxL108, pxL109, pxL110, pxL111, pxL112, pxL113, pxL114, pxL115, pxL116, pxL117, pxL118, pxL119, pxL120, pxL121, pxL122, pxL123, pxL124, pxL125, pxL126, pxL200, pxL240, pxL287, pxL388, pxL400, pxL429, pxL431, pxL440, pxL1240, pxL1600, pxL1681, pxL12028, pxL13849, pxL14880, pxL25173, pxL26908, pxL49600, pxL65535, pxL65536, ↓reduceIte, reduceCtorEq, pxJ_add, pxJ_sub, pxJ_mul, pxJ_neg, pxD_lt_t, pxD_lt_f, pxD_le_t, pxD_le_f, pxD_eq_t, pxD_eq_f, pxJ_lt, pxJ_le, pxJ_eq, pxJ_div, px_b2, px_bs, px_rb0, px_rb1, pxW_some, Option.some.injEq, pxM_eq, pxM_ne, pyN_gI, pyN_pI, pyN_rc, pyN_g1, pyN_a588, pyN_s588, pyN_g3, pyN_a589, pyN_s589, pyN_g4, pyN_a590, pyN_s590, pyN_g5, pyN_a591, pyN_s591, pyN_g6, pyN_a592, pyN_s592, pyN_g7, pyN_a593, pyN_s593, pyN_g8, pyN_a594, pyN_s594, pyN_g9, pyN_a595, pyN_s595, pyN_g10, pyN_a596, pyN_s596, pyN_g11, pyN_a597, pyN_s597, pyN_g19, pyN_a598, pyN_s598, pyN_g21, pyN_a599, pyN_s599, pyN_g31, pyN_a600, pyN_s600, pyN_g32, pyN_a601, pyN_s601, pyN_g38, pyN_a602, pyN_s602, pyN_g39, pyN_a603, pyN_s603, pyN_g46, pyN_a604, pyN_s604, pyN_g47, pyN_a605, pyN_s605, pyN_g48, pyN_a606, pyN_s606, pyN_g49, pyN_a607, pyN_s607, pyN_g55, pyN_a608, pyN_s608, pyN_g56, pyN_a609, pyN_s609, pyN_g57, pyN_a610, pyN_s610, pyN_g58, pyN_a611, pyN_s611, pyN_g59, pyN_a612, pyN_s612, pyN_g60, pyN_a613, pyN_s613, pyN_g74, pyN_a614, pyN_s614, pyN_g75, pyN_a615, pyN_s615, pyN_g76, pyN_a616, pyN_s616, pyN_g78, pyN_a617, pyN_s617, pyN_g79, pyN_a618, pyN_s618, e35]
    exact b13
def pyQn : Nat → Nat → Prop := fun k f => k = 602 ∨ k = 603 ∨ (k = 587 ∧ (f = 40 ∨ f = 41))
theorem pyQf.n {k f : Nat} (z : pyQf k f) : pyQn k f := by unfold pyQf at z; unfold pyQn; omega
theorem pyMR.n {h h1 : jw_H} {s r : List Int} {i p : Int} (M : pyMR h s r i p) (V : pyV pyQn h h1) (i0 : 0 ≤ i) (lr : r.length ≤ 30) : pyMR h1 s r i p := M.keep V i0 lr (fun k f z => by unfold pyQn; omega)
/-- the outcome of a find -/
def pySo (h' : jw_H) (r : List Int) (gc fr : Int) (D : Option (Int × Int × (Int → Int) × (Int → Int))) (v : Int32) : Prop :=
  (D = none → v = pxJ 0) ∧ ∀ x y o c, D = some (x, y, o, c) → v = pxJ 1 ∧ pxM h' 587 40 = x ∧ pxM h' 587 41 = y ∧ fr ≤ x ∧ x ≤ y ∧ y ≤ r.length ∧ ∀ k : Int, 1 ≤ k → k ≤ gc → pxM h' 602 k.toNat = o k ∧ pxM h' 603 k.toNat = c k ∧ 0 ≤ o k ∧ o k ≤ c k ∧ c k ≤ y
set_option maxHeartbeats 8000000 in
theorem n_finds_b2 {s r : List Int} {i p fr : Int} (K : pyPk s p) (i0 : 0 ≤ i) (i1 : i < 868) (okr : pxOr r) : ∀ (m N : Nat) (h : jw_H) (x : Int), (m : Int) = r.length - x + 1 → 0 ≤ x → fr ≤ x → m < N → pyMR h s r i p →
    pxW (f_X12_finds_b2 N h 587 (pxJ i) (pxJ x)) fun v h' => pyV pyQn h h' ∧ pySo h' r (pxPatK s p) fr (pxSeek s r (pxFull s p) fr false m x) v := by
  intro m
  have lr := okr.1
  induction m with
  | zero =>
    intro N h x hx x0 fx hN M
    obtain ⟨N, rfl, -⟩ := px_fu hN
    have H := M.1
    rw [u_X12_finds_b2]
    unfold g_X12_finds_b2 pxSeek
    try simp (maxSteps := 4000000) (disch := first | assumption | omega | (simp only [pyS_I]; assumption)) only [pxL0, pxL1, pxL2, pxL3, pxL4, pxL5, pxL6, pxL7, pxL8, pxL9, pxL10, pxL11, pxL12, pxL13, pxL14, pxL15, pxL16, pxL17, pxL18, pxL19, pxL20, pxL21, pxL22, pxL23, pxL24, pxL25, pxL26, pxL27, pxL28, pxL29, pxL30, pxL31, pxL32, pxL33, pxL34, pxL35, pxL36, pxL37, pxL38, pxL39, pxL40, pxL41, pxL42, pxL43, pxL44, pxL45, pxL46, pxL47, pxL48, pxL49, pxL51, pxL57, pxL58, pxL59, pxL60, pxL61, pxL62, pxL63, pxL64, pxL65, pxL66, pxL67, pxL68, pxL69, pxL70, pxL71, pxL72, pxL73, pxL74, pxL75, pxL76, pxL77, pxL78, pxL79, pxL80, pxL81, pxL82, pxL83, pxL84, pxL85, pxL86, pxL87, pxL88, pxL89, pxL90, pxL91, pxL92, pxL93, pxL94, pxL95, pxL96, pxL97, pxL98, pxL99, pxL100, pxL101, pxL102, pxL103, pxL104, pxL105, pxL106, pxL107, pxL108, pxL109, pxL110, pxL111, pxL112, pxL113, pxL114, pxL115, pxL116, pxL117, pxL118, pxL119, pxL120, pxL121, pxL122, pxL123, pxL124, pxL125, pxL126, pxL200, pxL240, pxL287, pxL388, pxL400, pxL429, pxL431, pxL440, pxL1240, pxL1600, pxL1681, pxL12028, pxL13849, pxL14880, pxL25173, pxL26908, pxL49600, pxL65535, pxL65536, ↓reduceIte, reduceCtorEq, pxJ_add, pxJ_sub, pxJ_mul, pxJ_neg, pxD_lt_t, pxD_lt_f, pxD_le_t, pxD_le_f, pxD_eq_t, pxD_eq_f, pxJ_lt, pxJ_le, pxJ_eq, pxJ_div, px_b2, px_bs, px_rb0, px_rb1, pxW_some, Option.some.injEq, pxM_eq, pxM_ne, pyN_gI, pyN_pI, pyN_rc, pyN_g1, pyN_a588, pyN_s588, pyN_g3, pyN_a589, pyN_s589, pyN_g4, pyN_a590, pyN_s590, pyN_g5, pyN_a591, pyN_s591, pyN_g6, pyN_a592, pyN_s592, pyN_g7, pyN_a593, pyN_s593, pyN_g8, pyN_a594, pyN_s594, pyN_g9, pyN_a595, pyN_s595, pyN_g10, pyN_a596, pyN_s596, pyN_g11, pyN_a597, pyN_s597, pyN_g19, pyN_a598, pyN_s598, pyN_g21, pyN_a599, pyN_s599, pyN_g31, pyN_a600, pyN_s600, pyN_g32, pyN_a601, pyN_s601, pyN_g38, pyN_a602, pyN_s602, pyN_g39, pyN_a603, pyN_s603, pyN_g46, pyN_a604, pyN_s604, pyN_g47, pyN_a605, pyN_s605, pyN_g48, pyN_a606, pyN_s606, pyN_g49, pyN_a607, pyN_s607, pyN_g55, pyN_a608, pyN_s608, pyN_g56, pyN_a609, pyN_s609, pyN_g57, pyN_a610, pyN_s610, pyN_g58, pyN_a611, pyN_s611, pyN_g59, pyN_a612, pyN_s612, pyN_g60, pyN_a613, pyN_s613, pyN_g74, pyN_a614, pyN_s614, pyN_g75, pyN_a615, pyN_s615, pyN_g76, pyN_a616, pyN_s616, pyN_g78, pyN_a617, pyN_s617, pyN_g79, pyN_a618, pyN_s618, n_len H M.2.2.1 i0 i1]
    exact ⟨pyV.rfl, fun _ => rfl, fun x y o c z => (nomatch z)⟩
  | succ m ih =>
    intro N h x hx x0 fx hN M
    obtain ⟨N, rfl, hN⟩ := px_fu hN
    have H := M.1
    rw [u_X12_finds_b2]
    unfold g_X12_finds_b2 pxSeek
    try simp (maxSteps := 4000000) (disch := first | assumption | omega | (simp only [pyS_I]; assumption)) only [pxL0, pxL1, pxL2, pxL3, pxL4, pxL5, pxL6, pxL7, pxL8, pxL9, pxL10, pxL11, pxL12, pxL13, pxL14, pxL15, pxL16, pxL17, pxL18, pxL19, pxL20, pxL21, pxL22, pxL23, pxL24, pxL25, pxL26, pxL27, pxL28, pxL29, pxL30, pxL31, pxL32, pxL33, pxL34, pxL35, pxL36, pxL37, pxL38, pxL39, pxL40, pxL41, pxL42, pxL43, pxL44, pxL45, pxL46, pxL47, pxL48, pxL49, pxL51, pxL57, pxL58, pxL59, pxL60, pxL61, pxL62, pxL63, pxL64, pxL65, pxL66, pxL67, pxL68, pxL69, pxL70, pxL71, pxL72, pxL73, pxL74, pxL75, pxL76, pxL77, pxL78, pxL79, pxL80, pxL81, pxL82, pxL83, pxL84, pxL85, pxL86, pxL87, pxL88, pxL89, pxL90, pxL91, pxL92, pxL93, pxL94, pxL95, pxL96, pxL97, pxL98, pxL99, pxL100, pxL101, pxL102, pxL103, pxL104, pxL105, pxL106, pxL107, pxL108, pxL109, pxL110, pxL111, pxL112, pxL113, pxL114, pxL115, pxL116, pxL117, pxL118, pxL119, pxL120, pxL121, pxL122, pxL123, pxL124, pxL125, pxL126, pxL200, pxL240, pxL287, pxL388, pxL400, pxL429, pxL431, pxL440, pxL1240, pxL1600, pxL1681, pxL12028, pxL13849, pxL14880, pxL25173, pxL26908, pxL49600, pxL65535, pxL65536, ↓reduceIte, reduceCtorEq, pxJ_add, pxJ_sub, pxJ_mul, pxJ_neg, pxD_lt_t, pxD_lt_f, pxD_le_t, pxD_le_f, pxD_eq_t, pxD_eq_f, pxJ_lt, pxJ_le, pxJ_eq, pxJ_div, px_b2, px_bs, px_rb0, px_rb1, pxW_some, Option.some.injEq, pxM_eq, pxM_ne, pyN_gI, pyN_pI, pyN_rc, pyN_g1, pyN_a588, pyN_s588, pyN_g3, pyN_a589, pyN_s589, pyN_g4, pyN_a590, pyN_s590, pyN_g5, pyN_a591, pyN_s591, pyN_g6, pyN_a592, pyN_s592, pyN_g7, pyN_a593, pyN_s593, pyN_g8, pyN_a594, pyN_s594, pyN_g9, pyN_a595, pyN_s595, pyN_g10, pyN_a596, pyN_s596, pyN_g11, pyN_a597, pyN_s597, pyN_g19, pyN_a598, pyN_s598, pyN_g21, pyN_a599, pyN_s599, pyN_g31, pyN_a600, pyN_s600, pyN_g32, pyN_a601, pyN_s601, pyN_g38, pyN_a602, pyN_s602, pyN_g39, pyN_a603, pyN_s603, pyN_g46, pyN_a604, pyN_s604, pyN_g47, pyN_a605, pyN_s605, pyN_g48, pyN_a606, pyN_s606, pyN_g49, pyN_a607, pyN_s607, pyN_g55, pyN_a608, pyN_s608, pyN_g56, pyN_a609, pyN_s609, pyN_g57, pyN_a610, pyN_s610, pyN_g58, pyN_a611, pyN_s611, pyN_g59, pyN_a612, pyN_s612, pyN_g60, pyN_a613, pyN_s613, pyN_g74, pyN_a614, pyN_s614, pyN_g75, pyN_a615, pyN_s615, pyN_g76, pyN_a616, pyN_s616, pyN_g78, pyN_a617, pyN_s617, pyN_g79, pyN_a618, pyN_s618, n_len H M.2.2.1 i0 i1]
    refine pxW_b2 (n_matches K M i0 i1 okr x0 (by omega)) fun v h1 q => ?_
    obtain ⟨V, Q⟩ := q
    have V' : pyV pyQn h h1 := V.mono (fun k f z => z.n)
    have M1 := M.f V i0 lr
    have H1 := M1.1
    cases z : pxFit s r (pxFull s p) px0 px0 x with
    | none =>
      rw [z] at Q
      rw [Q.1 rfl]
      try simp (maxSteps := 4000000) (disch := first | assumption | omega | (simp only [pyS_I]; assumption)) only [pxL0, pxL1, pxL2, pxL3, pxL4, pxL5, pxL6, pxL7, pxL8, pxL9, pxL10, pxL11, pxL12, pxL13, pxL14, pxL15, pxL16, pxL17, pxL18, pxL19, pxL20, pxL21, pxL22, pxL23, pxL24, pxL25, pxL26, pxL27, pxL28, pxL29, pxL30, pxL31, pxL32, pxL33, pxL34, pxL35, pxL36, pxL37, pxL38, pxL39, pxL40, pxL41, pxL42, pxL43, pxL44, pxL45, pxL46, pxL47, pxL48, pxL49, pxL51, pxL57, pxL58, pxL59, pxL60, pxL61, pxL62, pxL63, pxL64, pxL65, pxL66, pxL67, pxL68, pxL69, pxL70, pxL71, pxL72, pxL73, pxL74, pxL75, pxL76, pxL77, pxL78, pxL79, pxL80, pxL81, pxL82, pxL83, pxL84, pxL85, pxL86, pxL87, pxL88, pxL89, pxL90, pxL91, pxL92, pxL93, pxL94, pxL95, pxL96, pxL97, pxL98, pxL99, pxL100, pxL101, pxL102, pxL103, pxL104, pxL105, pxL106, pxL107, pxL108, pxL109, pxL110, pxL111, pxL112, pxL113, pxL114, pxL115, pxL116, pxL117, pxL118, pxL119, pxL120, pxL121, pxL122, pxL123, pxL124, pxL125, pxL126, pxL200, pxL240, pxL287, pxL388, pxL400, pxL429, pxL431, pxL440, pxL1240, pxL1600, pxL1681, pxL12028, pxL13849, pxL14880, pxL25173, pxL26908, pxL49600, pxL65535, pxL65536, ↓reduceIte, reduceCtorEq, pxJ_add, pxJ_sub, pxJ_mul, pxJ_neg, pxD_lt_t, pxD_lt_f, pxD_le_t, pxD_le_f, pxD_eq_t, pxD_eq_f, pxJ_lt, pxJ_le, pxJ_eq, pxJ_div, px_b2, px_bs, px_rb0, px_rb1, pxW_some, Option.some.injEq, pxM_eq, pxM_ne, pyN_gI, pyN_pI, pyN_rc, pyN_g1, pyN_a588, pyN_s588, pyN_g3, pyN_a589, pyN_s589, pyN_g4, pyN_a590, pyN_s590, pyN_g5, pyN_a591, pyN_s591, pyN_g6, pyN_a592, pyN_s592, pyN_g7, pyN_a593, pyN_s593, pyN_g8, pyN_a594, pyN_s594, pyN_g9, pyN_a595, pyN_s595, pyN_g10, pyN_a596, pyN_s596, pyN_g11, pyN_a597, pyN_s597, pyN_g19, pyN_a598, pyN_s598, pyN_g21, pyN_a599, pyN_s599, pyN_g31, pyN_a600, pyN_s600, pyN_g32, pyN_a601, pyN_s601, pyN_g38, pyN_a602, pyN_s602, pyN_g39, pyN_a603, pyN_s603, pyN_g46, pyN_a604, pyN_s604, pyN_g47, pyN_a605, pyN_s605, pyN_g48, pyN_a606, pyN_s606, pyN_g49, pyN_a607, pyN_s607, pyN_g55, pyN_a608, pyN_s608, pyN_g56, pyN_a609, pyN_s609, pyN_g57, pyN_a610, pyN_s610, pyN_g58, pyN_a611, pyN_s611, pyN_g59, pyN_a612, pyN_s612, pyN_g60, pyN_a613, pyN_s613, pyN_g74, pyN_a614, pyN_s614, pyN_g75, pyN_a615, pyN_s615, pyN_g76, pyN_a616, pyN_s616, pyN_g78, pyN_a617, pyN_s617, pyN_g79, pyN_a618, pyN_s618]
      refine pxW.mono (ih N h1 (x + 1) (by omega) (by omega) (by omega) (by omega) M1) fun v h' w => ⟨V'.trans w.1, w.2⟩
    | some w =>
      rw [z] at Q
      obtain ⟨y, o, c⟩ := w
      obtain ⟨a1, a2, a3, a4, a5⟩ := Q.2 y o c rfl
      rw [a1]
      try simp (maxSteps := 4000000) (disch := first | assumption | omega | (simp only [pyS_I]; assumption)) only [pxL0, pxL1, pxL2, pxL3, pxL4, pxL5, pxL6, pxL7, pxL8, pxL9, pxL10, pxL11, pxL12, pxL13, pxL14, pxL15, pxL16, pxL17, pxL18, pxL19, pxL20, pxL21, pxL22, pxL23, pxL24, pxL25, pxL26, pxL27, pxL28, pxL29, pxL30, pxL31, pxL32, pxL33, pxL34, pxL35, pxL36, pxL37, pxL38, pxL39, pxL40, pxL41, pxL42, pxL43, pxL44, pxL45, pxL46, pxL47, pxL48, pxL49, pxL51, pxL57, pxL58, pxL59, pxL60, pxL61, pxL62, pxL63, pxL64, pxL65, pxL66, pxL67, pxL68, pxL69, pxL70, pxL71, pxL72, pxL73, pxL74, pxL75, pxL76, pxL77, pxL78, pxL79, pxL80, pxL81, pxL82, pxL83, pxL84, pxL85, pxL86, pxL87, pxL88, pxL89, pxL90, pxL91, pxL92, pxL93, pxL94, pxL95, pxL96, pxL97, pxL98, pxL99, pxL100, pxL101, pxL102, pxL103, pxL104, pxL105, pxL106, pxL107, pxL108, pxL109, pxL110, pxL111, pxL112, pxL113, pxL114, pxL115, pxL116, pxL117, pxL118, pxL119, pxL120, pxL121, pxL122, pxL123, pxL124, pxL125, pxL126, pxL200, pxL240, pxL287, pxL388, pxL400, pxL429, pxL431, pxL440, pxL1240, pxL1600, pxL1681, pxL12028, pxL13849, pxL14880, pxL25173, pxL26908, pxL49600, pxL65535, pxL65536, ↓reduceIte, reduceCtorEq, pxJ_add, pxJ_sub, pxJ_mul, pxJ_neg, pxD_lt_t, pxD_lt_f, pxD_le_t, pxD_le_f, pxD_eq_t, pxD_eq_f, pxJ_lt, pxJ_le, pxJ_eq, pxJ_div, px_b2, px_bs, px_rb0, px_rb1, pxW_some, Option.some.injEq, pxM_eq, pxM_ne, pyN_gI, pyN_pI, pyN_rc, pyN_g1, pyN_a588, pyN_s588, pyN_g3, pyN_a589, pyN_s589, pyN_g4, pyN_a590, pyN_s590, pyN_g5, pyN_a591, pyN_s591, pyN_g6, pyN_a592, pyN_s592, pyN_g7, pyN_a593, pyN_s593, pyN_g8, pyN_a594, pyN_s594, pyN_g9, pyN_a595, pyN_s595, pyN_g10, pyN_a596, pyN_s596, pyN_g11, pyN_a597, pyN_s597, pyN_g19, pyN_a598, pyN_s598, pyN_g21, pyN_a599, pyN_s599, pyN_g31, pyN_a600, pyN_s600, pyN_g32, pyN_a601, pyN_s601, pyN_g38, pyN_a602, pyN_s602, pyN_g39, pyN_a603, pyN_s603, pyN_g46, pyN_a604, pyN_s604, pyN_g47, pyN_a605, pyN_s605, pyN_g48, pyN_a606, pyN_s606, pyN_g49, pyN_a607, pyN_s607, pyN_g55, pyN_a608, pyN_s608, pyN_g56, pyN_a609, pyN_s609, pyN_g57, pyN_a610, pyN_s610, pyN_g58, pyN_a611, pyN_s611, pyN_g59, pyN_a612, pyN_s612, pyN_g60, pyN_a613, pyN_s613, pyN_g74, pyN_a614, pyN_s614, pyN_g75, pyN_a615, pyN_s615, pyN_g76, pyN_a616, pyN_s616, pyN_g78, pyN_a617, pyN_s617, pyN_g79, pyN_a618, pyN_s618]
      show _ ∧ pySo _ _ _ _ (if false = true ∧ x = fr ∧ y = fr then pxSeek s r (pxFull s p) fr false m (x + 1) else some (x, (y, o, c))) _
      rw [if_neg (fun z => by cases z.1)]
      refine ⟨V'.set (by unfold pyQn; omega), fun z => (nomatch z), fun x' y' o' c' zz => ?_⟩
      cases Option.some.inj zz
      refine ⟨rfl, by (first | omega | (simp (disch := omega) only [pxM_eq, pxM_ne]; done) | (simp (disch := omega) only [pxM_eq, pxM_ne]; omega)), by (first | omega | (simp (disch := omega) only [pxM_eq, pxM_ne, a2]; done) | (simp (disch := omega) only [pxM_eq, pxM_ne, a2]; omega)), fx, a3, a4, fun k k1 k2 => ?_⟩
      rw [pxM_ne (by omega), pxM_ne (by omega)]
      exact a5 k k1 k2
set_option maxHeartbeats 8000000 in
theorem n_finds {h : jw_H} {s r : List Int} {i p fr : Int} (K : pyPk s p) (M : pyMR h s r i p) (i0 : 0 ≤ i) (i1 : i < 868) (okr : pxOr r) (f0 : 0 ≤ fr) (f1 : fr ≤ r.length + 1) :
    pxW (f_X12_finds h 587 (pxJ i) (pxJ fr)) fun v h' => pyV pyQn h h' ∧ pySo h' r (pxPatK s p) fr (pxFind s r (pxFull s p) fr false) v := by
  have lr := okr.1
  have H := M.1
  unfold f_X12_finds
  exact n_finds_b2 K i0 i1 okr (r.length - fr + 1).toNat jw_FU h fr (by omega) f0 (Int.le_refl _) (by unfold jw_FU; omega) M
theorem pySeek_on {s r : List Int} {l : List (Int × Int)} {fr fr' : Int} : ∀ (m : Nat) (x : Int), fr < x → pxSeek s r l fr true m x = pxSeek s r l fr' false m x
  | 0, _, _ => rfl
  | m + 1, x, h => by
    unfold pxSeek
    rw [pySeek_on m (x + 1) (by omega)]
    congr 1
    funext v
    rw [if_neg (fun z => by omega), if_neg (fun z => by cases z.1)]
set_option maxHeartbeats 8000000 in
theorem n_findsNext {h : jw_H} {s r : List Int} {i p e : Int} (K : pyPk s p) (M : pyMR h s r i p) (i0 : 0 ≤ i) (i1 : i < 868) (okr : pxOr r) (e41 : pxM h 587 41 = e) (f0 : 0 ≤ e) (f1 : e ≤ r.length) :
    pxW (f_X12_findsNext h 587 (pxJ i)) fun v h' => pyV pyQn h h' ∧ pySo h' r (pxPatK s p) e (pxFind s r (pxFull s p) e true) v := by
  have lr := okr.1
  have H := M.1
  unfold f_X12_findsNext
  try simp (maxSteps := 4000000) (disch := first | assumption | omega | (simp only [pyS_I]; assumption)) only [pxL0, pxL1, pxL2, pxL3, pxL4, pxL5, pxL6, pxL7, pxL8, pxL9, pxL10, pxL11, pxL12, pxL13, pxL14, pxL15, pxL16, pxL17, pxL18, pxL19, pxL20, pxL21, pxL22, pxL23, pxL24, pxL25, pxL26, pxL27, pxL28, pxL29, pxL30, pxL31, pxL32, pxL33, pxL34, pxL35, pxL36, pxL37, pxL38, pxL39, pxL40, pxL41, pxL42, pxL43, pxL44, pxL45, pxL46, pxL47, pxL48, pxL49, pxL51, pxL57, pxL58, pxL59, pxL60, pxL61, pxL62, pxL63, pxL64, pxL65, pxL66, pxL67, pxL68, pxL69, pxL70, pxL71, pxL72, pxL73, pxL74, pxL75, pxL76, pxL77, pxL78, pxL79, pxL80, pxL81, pxL82, pxL83, pxL84, pxL85, pxL86, pxL87, pxL88, pxL89, pxL90, pxL91, pxL92, pxL93, pxL94, pxL95, pxL96, pxL97, pxL98, pxL99, pxL100, pxL101, pxL102, pxL103, pxL104, pxL105, pxL106, pxL107, pxL108, pxL109, pxL110, pxL111, pxL112, pxL113, pxL114, pxL115, pxL116, pxL117, pxL118, pxL119, pxL120, pxL121, pxL122, pxL123, pxL124, pxL125, pxL126, pxL200, pxL240, pxL287, pxL388, pxL400, pxL429, pxL431, pxL440, pxL1240, pxL1600, pxL1681, pxL12028, pxL13849, pxL14880, pxL25173, pxL26908, pxL49600, pxL65535, pxL65536, ↓reduceIte, reduceCtorEq, pxJ_add, pxJ_sub, pxJ_mul, pxJ_neg, pxD_lt_t, pxD_lt_f, pxD_le_t, pxD_le_f, pxD_eq_t, pxD_eq_f, pxJ_lt, pxJ_le, pxJ_eq, pxJ_div, px_b2, px_bs, px_rb0, px_rb1, pxW_some, Option.some.injEq, pxM_eq, pxM_ne, pyN_gI, pyN_pI, pyN_rc, pyN_g1, pyN_a588, pyN_s588, pyN_g3, pyN_a589, pyN_s589, pyN_g4, pyN_a590, pyN_s590, pyN_g5, pyN_a591, pyN_s591, pyN_g6, pyN_a592, pyN_s592, pyN_g7, pyN_a593, pyN_s593, pyN_g8, pyN_a594, pyN_s594, pyN_g9, pyN_a595, pyN_s595, pyN_g10, pyN_a596, pyN_s596, pyN_g11, pyN_a597, pyN_s597, pyN_g19, pyN_a598, pyN_s598, pyN_g21, pyN_a599, pyN_s599, pyN_g31, pyN_a600, pyN_s600, pyN_g32, pyN_a601, pyN_s601, pyN_g38, pyN_a602, pyN_s602, pyN_g39, pyN_a603, pyN_s603, pyN_g46, pyN_a604, pyN_s604, pyN_g47, pyN_a605, pyN_s605, pyN_g48, pyN_a606, pyN_s606, pyN_g49, pyN_a607, pyN_s607, pyN_g55, pyN_a608, pyN_s608, pyN_g56, pyN_a609, pyN_s609, pyN_g57, pyN_a610, pyN_s610, pyN_g58, pyN_a611, pyN_s611, pyN_g59, pyN_a612, pyN_s612, pyN_g60, pyN_a613, pyN_s613, pyN_g74, pyN_a614, pyN_s614, pyN_g75, pyN_a615, pyN_s615, pyN_g76, pyN_a616, pyN_s616, pyN_g78, pyN_a617, pyN_s617, pyN_g79, pyN_a618, pyN_s618, e41]
  refine pxW_b2 (n_matches K M i0 i1 okr f0 f1) fun v h1 q => ?_
  obtain ⟨V, Q⟩ := q
  have V' : pyV pyQn h h1 := V.mono (fun k f z => z.n)
  have M1 := M.f V i0 lr
  have H1 := M1.1
  have eF : pxFind s r (pxFull s p) e true = (pxFit s r (pxFull s p) px0 px0 e).elim (pxFind s r (pxFull s p) (e + 1) false) (fun v => if true = true ∧ e = e ∧ v.1 = e then pxFind s r (pxFull s p) (e + 1) false else some (e, v)) := by
    have e0 : (r.length - e + 1 : Int).toNat = (r.length - (e + 1) + 1 : Int).toNat + 1 := by omega
    show pxSeek s r (pxFull s p) e true (r.length - e + 1 : Int).toNat e = _
    rw [e0]
    show (pxFit s r (pxFull s p) px0 px0 e).elim (pxSeek s r (pxFull s p) e true (r.length - (e + 1) + 1 : Int).toNat (e + 1)) _ = _
    rw [pySeek_on (fr' := e + 1) _ _ (by omega)]
    rfl
  have b29 : pxW (g_X12_findsNext_b29 h1 587 (pxJ i) (pxJ e)) fun v h' => pyV pyQn h h' ∧ pySo h' r (pxPatK s p) e (pxFind s r (pxFull s p) (e + 1) false) v := by
    unfold g_X12_findsNext_b29
    try simp (maxSteps := 4000000) (disch := first | assumption | omega | (simp only [pyS_I]; assumption)) only [pxL0, pxL1, pxL2, pxL3, pxL4, pxL5, pxL6, pxL7, pxL8, pxL9, pxL10, pxL11, pxL12, pxL13, pxL14, pxL15, pxL16, pxL17, pxL18, pxL19, pxL20, pxL21, pxL22, pxL23, pxL24, pxL25, pxL26, pxL27, pxL28, pxL29, pxL30, pxL31, pxL32, pxL33, pxL34, pxL35, pxL36, pxL37, pxL38, pxL39, pxL40, pxL41, pxL42, pxL43, pxL44, pxL45, pxL46, pxL47, pxL48, pxL49, pxL51, pxL57, pxL58, pxL59, pxL60, pxL61, pxL62, pxL63, pxL64, pxL65, pxL66, pxL67, pxL68, pxL69, pxL70, pxL71, pxL72, pxL73, pxL74, pxL75, pxL76, pxL77, pxL78, pxL79, pxL80, pxL81, pxL82, pxL83, pxL84, pxL85, pxL86, pxL87, pxL88, pxL89, pxL90, pxL91, pxL92, pxL93, pxL94, pxL95, pxL96, pxL97, pxL98, pxL99, pxL100, pxL101, pxL102, pxL103, pxL104, pxL105, pxL106, pxL107, pxL108, pxL109, pxL110, pxL111, pxL112, pxL113, pxL114, pxL115, pxL116, pxL117, pxL118, pxL119, pxL120, pxL121, pxL122, pxL123, pxL124, pxL125, pxL126, pxL200, pxL240, pxL287, pxL388, pxL400, pxL429, pxL431, pxL440, pxL1240, pxL1600, pxL1681, pxL12028, pxL13849, pxL14880, pxL25173, pxL26908, pxL49600, pxL65535, pxL65536, ↓reduceIte, reduceCtorEq, pxJ_add, pxJ_sub, pxJ_mul, pxJ_neg, pxD_lt_t, pxD_lt_f, pxD_le_t, pxD_le_f, pxD_eq_t, pxD_eq_f, pxJ_lt, pxJ_le, pxJ_eq, pxJ_div, px_b2, px_bs, px_rb0, px_rb1, pxW_some, Option.some.injEq, pxM_eq, pxM_ne, pyN_gI, pyN_pI, pyN_rc, pyN_g1, pyN_a588, pyN_s588, pyN_g3, pyN_a589, pyN_s589, pyN_g4, pyN_a590, pyN_s590, pyN_g5, pyN_a591, pyN_s591, pyN_g6, pyN_a592, pyN_s592, pyN_g7, pyN_a593, pyN_s593, pyN_g8, pyN_a594, pyN_s594, pyN_g9, pyN_a595, pyN_s595, pyN_g10, pyN_a596, pyN_s596, pyN_g11, pyN_a597, pyN_s597, pyN_g19, pyN_a598, pyN_s598, pyN_g21, pyN_a599, pyN_s599, pyN_g31, pyN_a600, pyN_s600, pyN_g32, pyN_a601, pyN_s601, pyN_g38, pyN_a602, pyN_s602, pyN_g39, pyN_a603, pyN_s603, pyN_g46, pyN_a604, pyN_s604, pyN_g47, pyN_a605, pyN_s605, pyN_g48, pyN_a606, pyN_s606, pyN_g49, pyN_a607, pyN_s607, pyN_g55, pyN_a608, pyN_s608, pyN_g56, pyN_a609, pyN_s609, pyN_g57, pyN_a610, pyN_s610, pyN_g58, pyN_a611, pyN_s611, pyN_g59, pyN_a612, pyN_s612, pyN_g60, pyN_a613, pyN_s613, pyN_g74, pyN_a614, pyN_s614, pyN_g75, pyN_a615, pyN_s615, pyN_g76, pyN_a616, pyN_s616, pyN_g78, pyN_a617, pyN_s617, pyN_g79, pyN_a618, pyN_s618]
    refine pxW_b2 (n_finds K M1 i0 i1 okr (fr := e + 1) (by omega) (by omega)) fun v h2 q => ?_
    have fin : pySo h2 r (pxPatK s p) e (pxFind s r (pxFull s p) (e + 1) false) v := ⟨q.2.1, fun x y o c z => by
      obtain ⟨a1, a2, a3, a4, a5, a6⟩ := q.2.2 x y o c z
      exact ⟨a1, a2, a3, by omega, a5, a6⟩⟩
    have hv : v = pxJ 0 ∨ v = pxJ 1 := by
      cases z : pxFind s r (pxFull s p) (e + 1) false with
      | none => exact Or.inl (q.2.1 z)
      | some w => exact Or.inr (q.2.2 w.1 w.2.1 w.2.2.1 w.2.2.2 z).1
    rcases hv with z | z
    · rw [z] at fin ⊢
      rw [px_rb0, px_bs]
      exact pxW_some.mpr ⟨V'.trans q.1, fin⟩
    · rw [z] at fin ⊢
      rw [px_rb1, px_bs]
      exact pxW_some.mpr ⟨V'.trans q.1, fin⟩
  rw [eF]
  cases z : pxFit s r (pxFull s p) px0 px0 e with
  | none =>
    rw [z] at Q
    rw [Q.1 rfl]
    try simp (maxSteps := 4000000) (disch := first | assumption | omega | (simp only [pyS_I]; assumption)) only [pxL0, pxL1, pxL2, pxL3, pxL4, pxL5, pxL6, pxL7, pxL8, pxL9, pxL10, pxL11, pxL12, pxL13, pxL14, pxL15, pxL16, pxL17, pxL18, pxL19, pxL20, pxL21, pxL22, pxL23, pxL24, pxL25, pxL26, pxL27, pxL28, pxL29, pxL30, pxL31, pxL32, pxL33, pxL34, pxL35, pxL36, pxL37, pxL38, pxL39, pxL40, pxL41, pxL42, pxL43, pxL44, pxL45, pxL46, pxL47, pxL48, pxL49, pxL51, pxL57, pxL58, pxL59, pxL60, pxL61, pxL62, pxL63, pxL64, pxL65, pxL66, pxL67, pxL68, pxL69, pxL70, pxL71, pxL72, pxL73, pxL74, pxL75, pxL76, pxL77, pxL78, pxL79, pxL80, pxL81, pxL82, pxL83, pxL84, pxL85, pxL86, pxL87, pxL88, pxL89, pxL90, pxL91, pxL92, pxL93, pxL94, pxL95, pxL96, pxL97, pxL98, pxL99, pxL100, pxL101, pxL102, pxL103, pxL104, pxL105, pxL106, pxL107, pxL108, pxL109, pxL110, pxL111, pxL112, pxL113, pxL114, pxL115, pxL116, pxL117, pxL118, pxL119, pxL120, pxL121, pxL122, pxL123, pxL124, pxL125, pxL126, pxL200, pxL240, pxL287, pxL388, pxL400, pxL429, pxL431, pxL440, pxL1240, pxL1600, pxL1681, pxL12028, pxL13849, pxL14880, pxL25173, pxL26908, pxL49600, pxL65535, pxL65536, ↓reduceIte, reduceCtorEq, pxJ_add, pxJ_sub, pxJ_mul, pxJ_neg, pxD_lt_t, pxD_lt_f, pxD_le_t, pxD_le_f, pxD_eq_t, pxD_eq_f, pxJ_lt, pxJ_le, pxJ_eq, pxJ_div, px_b2, px_bs, px_rb0, px_rb1, pxW_some, Option.some.injEq, pxM_eq, pxM_ne, pyN_gI, pyN_pI, pyN_rc, pyN_g1, pyN_a588, pyN_s588, pyN_g3, pyN_a589, pyN_s589, pyN_g4, pyN_a590, pyN_s590, pyN_g5, pyN_a591, pyN_s591, pyN_g6, pyN_a592, pyN_s592, pyN_g7, pyN_a593, pyN_s593, pyN_g8, pyN_a594, pyN_s594, pyN_g9, pyN_a595, pyN_s595, pyN_g10, pyN_a596, pyN_s596, pyN_g11, pyN_a597, pyN_s597, pyN_g19, pyN_a598, pyN_s598, pyN_g21, pyN_a599, pyN_s599, pyN_g31, pyN_a600, pyN_s600, pyN_g32, pyN_a601, pyN_s601, pyN_g38, pyN_a602, pyN_s602, pyN_g39, pyN_a603, pyN_s603, pyN_g46, pyN_a604, pyN_s604, pyN_g47, pyN_a605, pyN_s605, pyN_g48, pyN_a606, pyN_s606, pyN_g49, pyN_a607, pyN_s607, pyN_g55, pyN_a608, pyN_s608, pyN_g56, pyN_a609, pyN_s609, pyN_g57, pyN_a610, pyN_s610, pyN_g58, pyN_a611, pyN_s611, pyN_g59, pyN_a612, pyN_s612, pyN_g60, pyN_a613, pyN_s613, pyN_g74, pyN_a614, pyN_s614, pyN_g75, pyN_a615, pyN_s615, pyN_g76, pyN_a616, pyN_s616, pyN_g78, pyN_a617, pyN_s617, pyN_g79, pyN_a618, pyN_s618]
    exact b29
  | some w =>
    rw [z] at Q
    obtain ⟨y, o, c⟩ := w
    obtain ⟨a1, a2, a3, a4, a5⟩ := Q.2 y o c rfl
    rw [a1]
    show pxW _ fun v h' => _ ∧ pySo _ _ _ _ (if true = true ∧ e = e ∧ y = e then _ else some (e, (y, o, c))) _
    by_cases d : y = e
    · rw [if_pos ⟨rfl, rfl, d⟩]
      try simp (maxSteps := 4000000) (disch := first | assumption | omega | (simp only [pyS_I]; assumption)) only [pxL0, pxL1, pxL2, pxL3, pxL4, pxL5, pxL6, pxL7, pxL8, pxL9, pxL10, pxL11, pxL12, pxL13, pxL14, pxL15, pxL16, pxL17, pxL18, pxL19, pxL20, pxL21, pxL22, pxL23, pxL24, pxL25, pxL26, pxL27, pxL28, pxL29, pxL30, pxL31, pxL32, pxL33, pxL34, pxL35, pxL36, pxL37, pxL38, pxL39, pxL40, pxL41, pxL42, pxL43, pxL44, pxL45, pxL46, pxL47, pxL48, pxL49, pxL51, pxL57, pxL58, pxL59, pxL60, pxL61, pxL62, pxL63, pxL64, pxL65, pxL66, pxL67, pxL68, pxL69, pxL70, pxL71, pxL72, pxL73, pxL74, pxL75, pxL76, pxL77, pxL78, pxL79, pxL80, pxL81, pxL82, pxL83, pxL84, pxL85, pxL86, pxL87, pxL88, pxL89, pxL90, pxL91, pxL92, pxL93, pxL94, pxL95, pxL96, pxL97, pxL98, pxL99, pxL100, pxL101, pxL102, pxL103, pxL104, pxL105, pxL106, pxL107, pxL108, pxL109, pxL110, pxL111, pxL112, pxL113, pxL114, pxL115, pxL116, pxL117, pxL118, pxL119, pxL120, pxL121, pxL122, pxL123, pxL124, pxL125, pxL126, pxL200, pxL240, pxL287, pxL388, pxL400, pxL429, pxL431, pxL440, pxL1240, pxL1600, pxL1681, pxL12028, pxL13849, pxL14880, pxL25173, pxL26908, pxL49600, pxL65535, pxL65536, ↓reduceIte, reduceCtorEq, pxJ_add, pxJ_sub, pxJ_mul, pxJ_neg, pxD_lt_t, pxD_lt_f, pxD_le_t, pxD_le_f, pxD_eq_t, pxD_eq_f, pxJ_lt, pxJ_le, pxJ_eq, pxJ_div, px_b2, px_bs, px_rb0, px_rb1, pxW_some, Option.some.injEq, pxM_eq, pxM_ne, pyN_gI, pyN_pI, pyN_rc, pyN_g1, pyN_a588, pyN_s588, pyN_g3, pyN_a589, pyN_s589, pyN_g4, pyN_a590, pyN_s590, pyN_g5, pyN_a591, pyN_s591, pyN_g6, pyN_a592, pyN_s592, pyN_g7, pyN_a593, pyN_s593, pyN_g8, pyN_a594, pyN_s594, pyN_g9, pyN_a595, pyN_s595, pyN_g10, pyN_a596, pyN_s596, pyN_g11, pyN_a597, pyN_s597, pyN_g19, pyN_a598, pyN_s598, pyN_g21, pyN_a599, pyN_s599, pyN_g31, pyN_a600, pyN_s600, pyN_g32, pyN_a601, pyN_s601, pyN_g38, pyN_a602, pyN_s602, pyN_g39, pyN_a603, pyN_s603, pyN_g46, pyN_a604, pyN_s604, pyN_g47, pyN_a605, pyN_s605, pyN_g48, pyN_a606, pyN_s606, pyN_g49, pyN_a607, pyN_s607, pyN_g55, pyN_a608, pyN_s608, pyN_g56, pyN_a609, pyN_s609, pyN_g57, pyN_a610, pyN_s610, pyN_g58, pyN_a611, pyN_s611, pyN_g59, pyN_a612, pyN_s612, pyN_g60, pyN_a613, pyN_s613, pyN_g74, pyN_a614, pyN_s614, pyN_g75, pyN_a615, pyN_s615, pyN_g76, pyN_a616, pyN_s616, pyN_g78, pyN_a617, pyN_s617, pyN_g79, pyN_a618, pyN_s618, a2]
      exact b29
    · rw [if_neg (fun z => d z.2.2)]
      try simp (maxSteps := 4000000) (disch := first | assumption | omega | (simp only [pyS_I]; assumption)) only [pxL0, pxL1, pxL2, pxL3, pxL4, pxL5, pxL6, pxL7, pxL8, pxL9, pxL10, pxL11, pxL12, pxL13, pxL14, pxL15, pxL16, pxL17, pxL18, pxL19, pxL20, pxL21, pxL22, pxL23, pxL24, pxL25, pxL26, pxL27, pxL28, pxL29, pxL30, pxL31, pxL32, pxL33, pxL34, pxL35, pxL36, pxL37, pxL38, pxL39, pxL40, pxL41, pxL42, pxL43, pxL44, pxL45, pxL46, pxL47, pxL48, pxL49, pxL51, pxL57, pxL58, pxL59, pxL60, pxL61, pxL62, pxL63, pxL64, pxL65, pxL66, pxL67, pxL68, pxL69, pxL70, pxL71, pxL72, pxL73, pxL74, pxL75, pxL76, pxL77, pxL78, pxL79, pxL80, pxL81, pxL82, pxL83, pxL84, pxL85, pxL86, pxL87, pxL88, pxL89, pxL90, pxL91, pxL92, pxL93, pxL94, pxL95, pxL96, pxL97, pxL98, pxL99, pxL100, pxL101, pxL102, pxL103, pxL104, pxL105, pxL106, pxL107, pxL108, pxL109, pxL110, pxL111, pxL112, pxL113, pxL114, pxL115, pxL116, pxL117, pxL118, pxL119, pxL120, pxL121, pxL122, pxL123, pxL124, pxL125, pxL126, pxL200, pxL240, pxL287, pxL388, pxL400, pxL429, pxL431, pxL440, pxL1240, pxL1600, pxL1681, pxL12028, pxL13849, pxL14880, pxL25173, pxL26908, pxL49600, pxL65535, pxL65536, ↓reduceIte, reduceCtorEq, pxJ_add, pxJ_sub, pxJ_mul, pxJ_neg, pxD_lt_t, pxD_lt_f, pxD_le_t, pxD_le_f, pxD_eq_t, pxD_eq_f, pxJ_lt, pxJ_le, pxJ_eq, pxJ_div, px_b2, px_bs, px_rb0, px_rb1, pxW_some, Option.some.injEq, pxM_eq, pxM_ne, pyN_gI, pyN_pI, pyN_rc, pyN_g1, pyN_a588, pyN_s588, pyN_g3, pyN_a589, pyN_s589, pyN_g4, pyN_a590, pyN_s590, pyN_g5, pyN_a591, pyN_s591, pyN_g6, pyN_a592, pyN_s592, pyN_g7, pyN_a593, pyN_s593, pyN_g8, pyN_a594, pyN_s594, pyN_g9, pyN_a595, pyN_s595, pyN_g10, pyN_a596, pyN_s596, pyN_g11, pyN_a597, pyN_s597, pyN_g19, pyN_a598, pyN_s598, pyN_g21, pyN_a599, pyN_s599, pyN_g31, pyN_a600, pyN_s600, pyN_g32, pyN_a601, pyN_s601, pyN_g38, pyN_a602, pyN_s602, pyN_g39, pyN_a603, pyN_s603, pyN_g46, pyN_a604, pyN_s604, pyN_g47, pyN_a605, pyN_s605, pyN_g48, pyN_a606, pyN_s606, pyN_g49, pyN_a607, pyN_s607, pyN_g55, pyN_a608, pyN_s608, pyN_g56, pyN_a609, pyN_s609, pyN_g57, pyN_a610, pyN_s610, pyN_g58, pyN_a611, pyN_s611, pyN_g59, pyN_a612, pyN_s612, pyN_g60, pyN_a613, pyN_s613, pyN_g74, pyN_a614, pyN_s614, pyN_g75, pyN_a615, pyN_s615, pyN_g76, pyN_a616, pyN_s616, pyN_g78, pyN_a617, pyN_s617, pyN_g79, pyN_a618, pyN_s618, a2]
      refine ⟨V'.set (by unfold pyQn; omega), fun z => (nomatch z), fun x' y' o' c' zz => ?_⟩
      cases Option.some.inj zz
      refine ⟨rfl, by (first | omega | (simp (disch := omega) only [pxM_eq, pxM_ne]; done) | (simp (disch := omega) only [pxM_eq, pxM_ne]; omega)), by (first | omega | (simp (disch := omega) only [pxM_eq, pxM_ne, a2]; done) | (simp (disch := omega) only [pxM_eq, pxM_ne, a2]; omega)), Int.le_refl _, by omega, a4, fun k k1 k2 => ?_⟩
      rw [pxM_ne (by omega), pxM_ne (by omega)]
      exact a5 k k1 k2
theorem pyDiv {a n d : Int} (n0 : 0 < n) (h1 : d * n ≤ a) (h2 : a < (d + 1) * n) : a / n = d :=
  Int.le_antisymm (Int.le_of_lt_add_one (Int.ediv_lt_of_lt_mul n0 h2)) (Int.le_ediv_of_mul_le n0 h1)
/-- the place that is looked at as number k from here -/
def pyAt (back : Bool) (n now k : Int) : Int := if back = true then (if now - k < 1 then now - k + n else now - k) else if n < now + k then now + k - n else now + k
set_option maxHeartbeats 8000000 in
theorem n_seek_b2 {s : List Int} {ls : pxLs} {p now : Int} {back : Bool} (K : pyPk s p) (n0 : 1 ≤ now ∨ ls.length = 0) (n1 : now ≤ ls.length) (n2 : 0 ≤ now) : ∀ (m N : Nat) (h : jw_H) (k x : Int), k + m = ls.length + 1 → 1 ≤ k → x = (if k = 1 then now else pyAt back ls.length now (k - 1)) → m < N → pyS h → pyG h s → pyL h ls → pyPt' h s p → pxM h 587 16 = now →
    pxW (f_X12_seek_b2 N h 587 (pxJ (if back = true then 1 else 0)) (pxJ k)) fun v h' => pyV pyQn h h' ∧ v = pxJ (if pxLW s (pxFull s p) (pxRs ls) back m x = -1 then 0 else pxLW s (pxFull s p) (pxRs ls) back m x) := by
  intro m
  induction m with
  | zero =>
    intro N h k x hk k1 hx hN H G L C e16
    obtain ⟨N, rfl, -⟩ := px_fu hN
    have l40 := L.2.1
    rw [u_X12_seek_b2]
    unfold g_X12_seek_b2 pxLW
    try simp (maxSteps := 4000000) (disch := first | assumption | omega | (simp only [pyS_I]; assumption)) only [pxL0, pxL1, pxL2, pxL3, pxL4, pxL5, pxL6, pxL7, pxL8, pxL9, pxL10, pxL11, pxL12, pxL13, pxL14, pxL15, pxL16, pxL17, pxL18, pxL19, pxL20, pxL21, pxL22, pxL23, pxL24, pxL25, pxL26, pxL27, pxL28, pxL29, pxL30, pxL31, pxL32, pxL33, pxL34, pxL35, pxL36, pxL37, pxL38, pxL39, pxL40, pxL41, pxL42, pxL43, pxL44, pxL45, pxL46, pxL47, pxL48, pxL49, pxL51, pxL57, pxL58, pxL59, pxL60, pxL61, pxL62, pxL63, pxL64, pxL65, pxL66, pxL67, pxL68, pxL69, pxL70, pxL71, pxL72, pxL73, pxL74, pxL75, pxL76, pxL77, pxL78, pxL79, pxL80, pxL81, pxL82, pxL83, pxL84, pxL85, pxL86, pxL87, pxL88, pxL89, pxL90, pxL91, pxL92, pxL93, pxL94, pxL95, pxL96, pxL97, pxL98, pxL99, pxL100, pxL101, pxL102, pxL103, pxL104, pxL105, pxL106, pxL107, pxL108, pxL109, pxL110, pxL111, pxL112, pxL113, pxL114, pxL115, pxL116, pxL117, pxL118, pxL119, pxL120, pxL121, pxL122, pxL123, pxL124, pxL125, pxL126, pxL200, pxL240, pxL287, pxL388, pxL400, pxL429, pxL431, pxL440, pxL1240, pxL1600, pxL1681, pxL12028, pxL13849, pxL14880, pxL25173, pxL26908, pxL49600, pxL65535, pxL65536, ↓reduceIte, reduceCtorEq, pxJ_add, pxJ_sub, pxJ_mul, pxJ_neg, pxD_lt_t, pxD_lt_f, pxD_le_t, pxD_le_f, pxD_eq_t, pxD_eq_f, pxJ_lt, pxJ_le, pxJ_eq, pxJ_div, px_b2, px_bs, px_rb0, px_rb1, pxW_some, Option.some.injEq, pxM_eq, pxM_ne, pyN_gI, pyN_pI, pyN_rc, pyN_g1, pyN_a588, pyN_s588, pyN_g3, pyN_a589, pyN_s589, pyN_g4, pyN_a590, pyN_s590, pyN_g5, pyN_a591, pyN_s591, pyN_g6, pyN_a592, pyN_s592, pyN_g7, pyN_a593, pyN_s593, pyN_g8, pyN_a594, pyN_s594, pyN_g9, pyN_a595, pyN_s595, pyN_g10, pyN_a596, pyN_s596, pyN_g11, pyN_a597, pyN_s597, pyN_g19, pyN_a598, pyN_s598, pyN_g21, pyN_a599, pyN_s599, pyN_g31, pyN_a600, pyN_s600, pyN_g32, pyN_a601, pyN_s601, pyN_g38, pyN_a602, pyN_s602, pyN_g39, pyN_a603, pyN_s603, pyN_g46, pyN_a604, pyN_s604, pyN_g47, pyN_a605, pyN_s605, pyN_g48, pyN_a606, pyN_s606, pyN_g49, pyN_a607, pyN_s607, pyN_g55, pyN_a608, pyN_s608, pyN_g56, pyN_a609, pyN_s609, pyN_g57, pyN_a610, pyN_s610, pyN_g58, pyN_a611, pyN_s611, pyN_g59, pyN_a612, pyN_s612, pyN_g60, pyN_a613, pyN_s613, pyN_g74, pyN_a614, pyN_s614, pyN_g75, pyN_a615, pyN_s615, pyN_g76, pyN_a616, pyN_s616, pyN_g78, pyN_a617, pyN_s617, pyN_g79, pyN_a618, pyN_s618, L.1]
    exact ⟨pyV.rfl, trivial⟩
  | succ m ih =>
    intro N h k x hk k1 hx hN H G L C e16
    obtain ⟨N, rfl, hN⟩ := px_fu hN
    have l40 := L.2.1
    have nn : 1 ≤ (ls.length : Int) := by omega
    have ny : pxNx back (pxRs ls).length x = pyAt back ls.length now k := by
      rw [pxRs_len, hx]
      unfold pxNx pyAt
      cases back
      · simp only [Bool.false_eq_true, if_false]
        split <;> split <;> (try split) <;> omega
      · simp only [if_true]
        split <;> split <;> (try split) <;> omega
    have yb : 1 ≤ pyAt back ls.length now k ∧ pyAt back ls.length now k ≤ ls.length := by
      unfold pyAt
      split <;> split <;> omega
    rw [u_X12_seek_b2]
    unfold g_X12_seek_b2 pxLW
    rw [ny]
    have nz : jw_nz (pxJ (ls.length : Int)) = some () := by
      unfold jw_nz
      rw [if_neg (by rw [show (0 : Int32) = pxJ 0 from rfl, pxJ_eq (by omega) (by omega) (by omega) (by omega)]; omega)]
    have key : pxW (g_X12_seek_b54 (f_X12_seek_b2 N) h 587 (pxJ (if back = true then 1 else 0)) (pxJ k) (pxJ (pyAt back ls.length now k))) fun v h' => pyV pyQn h h' ∧ v = pxJ (if (if pxHolds s (pxFull s p) (pxRw (pxRs ls) (pyAt back ls.length now k)) = true then pyAt back ls.length now k else pxLW s (pxFull s p) (pxRs ls) back m (pyAt back ls.length now k)) = -1 then 0 else (if pxHolds s (pxFull s p) (pxRw (pxRs ls) (pyAt back ls.length now k)) = true then pyAt back ls.length now k else pxLW s (pxFull s p) (pxRs ls) back m (pyAt back ls.length now k))) := by
      generalize hy : pyAt back ls.length now k = y at *
      have R := (L.2.2.2 y yb.1 yb.2).1
      unfold g_X12_seek_b54
      rw [n_textRow (by omega) (by omega), px_b2, pyN_rc H, px_bs]
      refine pxW_b2 (n_finds K (i := y - 1) (fr := 0) ⟨H, G, R, C⟩ (by omega) (by omega) (pyAt_or L.2.2.1 y) (by omega) (by omega)) fun v h1 q => ?_
      obtain ⟨V, Q⟩ := q
      have L1 := L.keep V (fun f _ => by unfold pyQn; omega) (fun f _ => by unfold pyQn; omega) (by unfold pyQn; omega)
      have G1 := G.keep V (by unfold pyQn; omega) (fun f _ => by unfold pyQn; omega)
      have C1 := C.keep V (fun f _ _ => by unfold pyQn; omega) (fun f => ⟨by unfold pyQn; omega, by unfold pyQn; omega⟩)
      have eh : pxHolds s (pxFull s p) (pxRw (pxRs ls) y) = (pxFind s (pxAt ls y).2 (pxFull s p) 0 false).isSome := by rw [pxRs_at]; rfl
      cases z : pxFind s (pxAt ls y).2 (pxFull s p) 0 false with
      | none =>
        rw [z] at Q eh
        rw [Q.1 rfl, eh]
        simp only [Option.isSome_none, Bool.false_eq_true, if_false]
        try simp (maxSteps := 4000000) (disch := first | assumption | omega | (simp only [pyS_I]; assumption)) only [pxL0, pxL1, pxL2, pxL3, pxL4, pxL5, pxL6, pxL7, pxL8, pxL9, pxL10, pxL11, pxL12, pxL13, pxL14, pxL15, pxL16, pxL17, pxL18, pxL19, pxL20, pxL21, pxL22, pxL23, pxL24, pxL25, pxL26, pxL27, pxL28, pxL29, pxL30, pxL31, pxL32, pxL33, pxL34, pxL35, pxL36, pxL37, pxL38, pxL39, pxL40, pxL41, pxL42, pxL43, pxL44, pxL45, pxL46, pxL47, pxL48, pxL49, pxL51, pxL57, pxL58, pxL59, pxL60, pxL61, pxL62, pxL63, pxL64, pxL65, pxL66, pxL67, pxL68, pxL69, pxL70, pxL71, pxL72, pxL73, pxL74, pxL75, pxL76, pxL77, pxL78, pxL79, pxL80, pxL81, pxL82, pxL83, pxL84, pxL85, pxL86, pxL87, pxL88, pxL89, pxL90, pxL91, pxL92, pxL93, pxL94, pxL95, pxL96, pxL97, pxL98, pxL99, pxL100, pxL101, pxL102, pxL103, pxL104, pxL105, pxL106, pxL107, pxL108, pxL109, pxL110, pxL111, pxL112, pxL113, pxL114, pxL115, pxL116, pxL117, pxL118, pxL119, pxL120, pxL121, pxL122, pxL123, pxL124, pxL125, pxL126, pxL200, pxL240, pxL287, pxL388, pxL400, pxL429, pxL431, pxL440, pxL1240, pxL1600, pxL1681, pxL12028, pxL13849, pxL14880, pxL25173, pxL26908, pxL49600, pxL65535, pxL65536, ↓reduceIte, reduceCtorEq, pxJ_add, pxJ_sub, pxJ_mul, pxJ_neg, pxD_lt_t, pxD_lt_f, pxD_le_t, pxD_le_f, pxD_eq_t, pxD_eq_f, pxJ_lt, pxJ_le, pxJ_eq, pxJ_div, px_b2, px_bs, px_rb0, px_rb1, pxW_some, Option.some.injEq, pxM_eq, pxM_ne, pyN_gI, pyN_pI, pyN_rc, pyN_g1, pyN_a588, pyN_s588, pyN_g3, pyN_a589, pyN_s589, pyN_g4, pyN_a590, pyN_s590, pyN_g5, pyN_a591, pyN_s591, pyN_g6, pyN_a592, pyN_s592, pyN_g7, pyN_a593, pyN_s593, pyN_g8, pyN_a594, pyN_s594, pyN_g9, pyN_a595, pyN_s595, pyN_g10, pyN_a596, pyN_s596, pyN_g11, pyN_a597, pyN_s597, pyN_g19, pyN_a598, pyN_s598, pyN_g21, pyN_a599, pyN_s599, pyN_g31, pyN_a600, pyN_s600, pyN_g32, pyN_a601, pyN_s601, pyN_g38, pyN_a602, pyN_s602, pyN_g39, pyN_a603, pyN_s603, pyN_g46, pyN_a604, pyN_s604, pyN_g47, pyN_a605, pyN_s605, pyN_g48, pyN_a606, pyN_s606, pyN_g49, pyN_a607, pyN_s607, pyN_g55, pyN_a608, pyN_s608, pyN_g56, pyN_a609, pyN_s609, pyN_g57, pyN_a610, pyN_s610, pyN_g58, pyN_a611, pyN_s611, pyN_g59, pyN_a612, pyN_s612, pyN_g60, pyN_a613, pyN_s613, pyN_g74, pyN_a614, pyN_s614, pyN_g75, pyN_a615, pyN_s615, pyN_g76, pyN_a616, pyN_s616, pyN_g78, pyN_a617, pyN_s617, pyN_g79, pyN_a618, pyN_s618]
        exact pxW.mono (ih N h1 (k + 1) y (by omega) (by omega) (by rw [if_neg (by omega), show k + 1 - 1 = k by omega, hy]) (by omega) (V.s H) G1 L1 C1 (by rw [V.m (by unfold pyQn; omega)]; exact e16)) fun v h' w => ⟨V.trans w.1, w.2⟩
      | some w =>
        rw [z] at Q eh
        rw [(Q.2 w.1 w.2.1 w.2.2.1 w.2.2.2 rfl).1, eh]
        simp only [Option.isSome_some, if_true]
        rw [if_neg (show ¬ y = -1 by omega)]
        try simp (maxSteps := 4000000) (disch := first | assumption | omega | (simp only [pyS_I]; assumption)) only [pxL0, pxL1, pxL2, pxL3, pxL4, pxL5, pxL6, pxL7, pxL8, pxL9, pxL10, pxL11, pxL12, pxL13, pxL14, pxL15, pxL16, pxL17, pxL18, pxL19, pxL20, pxL21, pxL22, pxL23, pxL24, pxL25, pxL26, pxL27, pxL28, pxL29, pxL30, pxL31, pxL32, pxL33, pxL34, pxL35, pxL36, pxL37, pxL38, pxL39, pxL40, pxL41, pxL42, pxL43, pxL44, pxL45, pxL46, pxL47, pxL48, pxL49, pxL51, pxL57, pxL58, pxL59, pxL60, pxL61, pxL62, pxL63, pxL64, pxL65, pxL66, pxL67, pxL68, pxL69, pxL70, pxL71, pxL72, pxL73, pxL74, pxL75, pxL76, pxL77, pxL78, pxL79, pxL80, pxL81, pxL82, pxL83, pxL84, pxL85, pxL86, pxL87, pxL88, pxL89, pxL90, pxL91, pxL92, pxL93, pxL94, pxL95, pxL96, pxL97, pxL98, pxL99, pxL100, pxL101, pxL102, pxL103, pxL104, pxL105, pxL106, pxL107, pxL108, pxL109, pxL110, pxL111, pxL112, pxL113, pxL114, pxL115, pxL116, pxL117, pxL118, pxL119, pxL120, pxL121, pxL122, pxL123, pxL124, pxL125, pxL126, pxL200, pxL240, pxL287, pxL388, pxL400, pxL429, pxL431, pxL440, pxL1240, pxL1600, pxL1681, pxL12028, pxL13849, pxL14880, pxL25173, pxL26908, pxL49600, pxL65535, pxL65536, ↓reduceIte, reduceCtorEq, pxJ_add, pxJ_sub, pxJ_mul, pxJ_neg, pxD_lt_t, pxD_lt_f, pxD_le_t, pxD_le_f, pxD_eq_t, pxD_eq_f, pxJ_lt, pxJ_le, pxJ_eq, pxJ_div, px_b2, px_bs, px_rb0, px_rb1, pxW_some, Option.some.injEq, pxM_eq, pxM_ne, pyN_gI, pyN_pI, pyN_rc, pyN_g1, pyN_a588, pyN_s588, pyN_g3, pyN_a589, pyN_s589, pyN_g4, pyN_a590, pyN_s590, pyN_g5, pyN_a591, pyN_s591, pyN_g6, pyN_a592, pyN_s592, pyN_g7, pyN_a593, pyN_s593, pyN_g8, pyN_a594, pyN_s594, pyN_g9, pyN_a595, pyN_s595, pyN_g10, pyN_a596, pyN_s596, pyN_g11, pyN_a597, pyN_s597, pyN_g19, pyN_a598, pyN_s598, pyN_g21, pyN_a599, pyN_s599, pyN_g31, pyN_a600, pyN_s600, pyN_g32, pyN_a601, pyN_s601, pyN_g38, pyN_a602, pyN_s602, pyN_g39, pyN_a603, pyN_s603, pyN_g46, pyN_a604, pyN_s604, pyN_g47, pyN_a605, pyN_s605, pyN_g48, pyN_a606, pyN_s606, pyN_g49, pyN_a607, pyN_s607, pyN_g55, pyN_a608, pyN_s608, pyN_g56, pyN_a609, pyN_s609, pyN_g57, pyN_a610, pyN_s610, pyN_g58, pyN_a611, pyN_s611, pyN_g59, pyN_a612, pyN_s612, pyN_g60, pyN_a613, pyN_s613, pyN_g74, pyN_a614, pyN_s614, pyN_g75, pyN_a615, pyN_s615, pyN_g76, pyN_a616, pyN_s616, pyN_g78, pyN_a617, pyN_s617, pyN_g79, pyN_a618, pyN_s618]
        exact ⟨V, trivial⟩
    cases back
    · simp only [Bool.false_eq_true, if_false] at key ⊢
      have ed : now - 1 + k - (now - 1 + k) / (ls.length : Int) * (ls.length : Int) + 1 = pyAt false ls.length now k := by
        unfold pyAt
        rw [if_neg (by decide)]
        by_cases c : (ls.length : Int) < now + k
        · rw [if_pos c, pyDiv (d := 1) (by omega) (by omega) (by omega)]; omega
        · rw [if_neg c, pyDiv (d := 0) (by omega) (by omega) (by omega)]; omega
      try simp (maxSteps := 4000000) (disch := first | assumption | omega | (simp only [pyS_I]; assumption)) only [pxL0, pxL1, pxL2, pxL3, pxL4, pxL5, pxL6, pxL7, pxL8, pxL9, pxL10, pxL11, pxL12, pxL13, pxL14, pxL15, pxL16, pxL17, pxL18, pxL19, pxL20, pxL21, pxL22, pxL23, pxL24, pxL25, pxL26, pxL27, pxL28, pxL29, pxL30, pxL31, pxL32, pxL33, pxL34, pxL35, pxL36, pxL37, pxL38, pxL39, pxL40, pxL41, pxL42, pxL43, pxL44, pxL45, pxL46, pxL47, pxL48, pxL49, pxL51, pxL57, pxL58, pxL59, pxL60, pxL61, pxL62, pxL63, pxL64, pxL65, pxL66, pxL67, pxL68, pxL69, pxL70, pxL71, pxL72, pxL73, pxL74, pxL75, pxL76, pxL77, pxL78, pxL79, pxL80, pxL81, pxL82, pxL83, pxL84, pxL85, pxL86, pxL87, pxL88, pxL89, pxL90, pxL91, pxL92, pxL93, pxL94, pxL95, pxL96, pxL97, pxL98, pxL99, pxL100, pxL101, pxL102, pxL103, pxL104, pxL105, pxL106, pxL107, pxL108, pxL109, pxL110, pxL111, pxL112, pxL113, pxL114, pxL115, pxL116, pxL117, pxL118, pxL119, pxL120, pxL121, pxL122, pxL123, pxL124, pxL125, pxL126, pxL200, pxL240, pxL287, pxL388, pxL400, pxL429, pxL431, pxL440, pxL1240, pxL1600, pxL1681, pxL12028, pxL13849, pxL14880, pxL25173, pxL26908, pxL49600, pxL65535, pxL65536, ↓reduceIte, reduceCtorEq, pxJ_add, pxJ_sub, pxJ_mul, pxJ_neg, pxD_lt_t, pxD_lt_f, pxD_le_t, pxD_le_f, pxD_eq_t, pxD_eq_f, pxJ_lt, pxJ_le, pxJ_eq, pxJ_div, px_b2, px_bs, px_rb0, px_rb1, pxW_some, Option.some.injEq, pxM_eq, pxM_ne, pyN_gI, pyN_pI, pyN_rc, pyN_g1, pyN_a588, pyN_s588, pyN_g3, pyN_a589, pyN_s589, pyN_g4, pyN_a590, pyN_s590, pyN_g5, pyN_a591, pyN_s591, pyN_g6, pyN_a592, pyN_s592, pyN_g7, pyN_a593, pyN_s593, pyN_g8, pyN_a594, pyN_s594, pyN_g9, pyN_a595, pyN_s595, pyN_g10, pyN_a596, pyN_s596, pyN_g11, pyN_a597, pyN_s597, pyN_g19, pyN_a598, pyN_s598, pyN_g21, pyN_a599, pyN_s599, pyN_g31, pyN_a600, pyN_s600, pyN_g32, pyN_a601, pyN_s601, pyN_g38, pyN_a602, pyN_s602, pyN_g39, pyN_a603, pyN_s603, pyN_g46, pyN_a604, pyN_s604, pyN_g47, pyN_a605, pyN_s605, pyN_g48, pyN_a606, pyN_s606, pyN_g49, pyN_a607, pyN_s607, pyN_g55, pyN_a608, pyN_s608, pyN_g56, pyN_a609, pyN_s609, pyN_g57, pyN_a610, pyN_s610, pyN_g58, pyN_a611, pyN_s611, pyN_g59, pyN_a612, pyN_s612, pyN_g60, pyN_a613, pyN_s613, pyN_g74, pyN_a614, pyN_s614, pyN_g75, pyN_a615, pyN_s615, pyN_g76, pyN_a616, pyN_s616, pyN_g78, pyN_a617, pyN_s617, pyN_g79, pyN_a618, pyN_s618, L.1, e16, nz]
      rw [ed]
      exact key
    · simp only [if_true] at key ⊢
      have ed : now - 1 - k + 2 * (ls.length : Int) - (now - 1 - k + 2 * (ls.length : Int)) / (ls.length : Int) * (ls.length : Int) + 1 = pyAt true ls.length now k := by
        unfold pyAt
        rw [if_pos rfl]
        by_cases c : now - k < 1
        · rw [if_pos c, pyDiv (d := 1) (by omega) (by omega) (by omega)]; omega
        · rw [if_neg c, pyDiv (d := 2) (by omega) (by omega) (by omega)]; omega
      try simp (maxSteps := 4000000) (disch := first | assumption | omega | (simp only [pyS_I]; assumption)) only [pxL0, pxL1, pxL2, pxL3, pxL4, pxL5, pxL6, pxL7, pxL8, pxL9, pxL10, pxL11, pxL12, pxL13, pxL14, pxL15, pxL16, pxL17, pxL18, pxL19, pxL20, pxL21, pxL22, pxL23, pxL24, pxL25, pxL26, pxL27, pxL28, pxL29, pxL30, pxL31, pxL32, pxL33, pxL34, pxL35, pxL36, pxL37, pxL38, pxL39, pxL40, pxL41, pxL42, pxL43, pxL44, pxL45, pxL46, pxL47, pxL48, pxL49, pxL51, pxL57, pxL58, pxL59, pxL60, pxL61, pxL62, pxL63, pxL64, pxL65, pxL66, pxL67, pxL68, pxL69, pxL70, pxL71, pxL72, pxL73, pxL74, pxL75, pxL76, pxL77, pxL78, pxL79, pxL80, pxL81, pxL82, pxL83, pxL84, pxL85, pxL86, pxL87, pxL88, pxL89, pxL90, pxL91, pxL92, pxL93, pxL94, pxL95, pxL96, pxL97, pxL98, pxL99, pxL100, pxL101, pxL102, pxL103, pxL104, pxL105, pxL106, pxL107, pxL108, pxL109, pxL110, pxL111, pxL112, pxL113, pxL114, pxL115, pxL116, pxL117, pxL118, pxL119, pxL120, pxL121, pxL122, pxL123, pxL124, pxL125, pxL126, pxL200, pxL240, pxL287, pxL388, pxL400, pxL429, pxL431, pxL440, pxL1240, pxL1600, pxL1681, pxL12028, pxL13849, pxL14880, pxL25173, pxL26908, pxL49600, pxL65535, pxL65536, ↓reduceIte, reduceCtorEq, pxJ_add, pxJ_sub, pxJ_mul, pxJ_neg, pxD_lt_t, pxD_lt_f, pxD_le_t, pxD_le_f, pxD_eq_t, pxD_eq_f, pxJ_lt, pxJ_le, pxJ_eq, pxJ_div, px_b2, px_bs, px_rb0, px_rb1, pxW_some, Option.some.injEq, pxM_eq, pxM_ne, pyN_gI, pyN_pI, pyN_rc, pyN_g1, pyN_a588, pyN_s588, pyN_g3, pyN_a589, pyN_s589, pyN_g4, pyN_a590, pyN_s590, pyN_g5, pyN_a591, pyN_s591, pyN_g6, pyN_a592, pyN_s592, pyN_g7, pyN_a593, pyN_s593, pyN_g8, pyN_a594, pyN_s594, pyN_g9, pyN_a595, pyN_s595, pyN_g10, pyN_a596, pyN_s596, pyN_g11, pyN_a597, pyN_s597, pyN_g19, pyN_a598, pyN_s598, pyN_g21, pyN_a599, pyN_s599, pyN_g31, pyN_a600, pyN_s600, pyN_g32, pyN_a601, pyN_s601, pyN_g38, pyN_a602, pyN_s602, pyN_g39, pyN_a603, pyN_s603, pyN_g46, pyN_a604, pyN_s604, pyN_g47, pyN_a605, pyN_s605, pyN_g48, pyN_a606, pyN_s606, pyN_g49, pyN_a607, pyN_s607, pyN_g55, pyN_a608, pyN_s608, pyN_g56, pyN_a609, pyN_s609, pyN_g57, pyN_a610, pyN_s610, pyN_g58, pyN_a611, pyN_s611, pyN_g59, pyN_a612, pyN_s612, pyN_g60, pyN_a613, pyN_s613, pyN_g74, pyN_a614, pyN_s614, pyN_g75, pyN_a615, pyN_s615, pyN_g76, pyN_a616, pyN_s616, pyN_g78, pyN_a617, pyN_s617, pyN_g79, pyN_a618, pyN_s618, L.1, e16, nz]
      rw [ed]
      exact key
set_option maxHeartbeats 8000000 in
theorem n_seek {h : jw_H} {s : List Int} {ls : pxLs} {p now : Int} {back : Bool} (K : pyPk s p) (n0 : 1 ≤ now ∨ ls.length = 0) (n1 : now ≤ ls.length) (n2 : 0 ≤ now) (H : pyS h) (G : pyG h s) (L : pyL h ls) (C : pyPt' h s p) (e16 : pxM h 587 16 = now) :
    pxW (f_X12_seek h 587 (pxJ (if back = true then 1 else 0))) fun v h' => pyV pyQn h h' ∧ v = pxJ (if pxLW s (pxFull s p) (pxRs ls) back ls.length now = -1 then 0 else pxLW s (pxFull s p) (pxRs ls) back ls.length now) := by
  have l40 := L.2.1
  unfold f_X12_seek
  exact n_seek_b2 K n0 n1 n2 ls.length jw_FU h 1 now (by omega) (by omega) (by rw [if_pos rfl]) (by unfold jw_FU; omega) H G L C e16
