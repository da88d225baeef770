/-! the reference: inner orders -/
theorem py_0 : (0 : Int) ≤ 0 ∧ (0 : Int) ≤ 10 := by decide
theorem py_1 : (0 : Int) ≤ 1 ∧ (1 : Int) ≤ 10 := by decide
theorem py_4 : (0 : Int) ≤ 4 ∧ (4 : Int) ≤ 10 := by decide
theorem py_5 : (0 : Int) ≤ 5 ∧ (5 : Int) ≤ 10 := by decide
theorem py_7 : (0 : Int) ≤ 7 ∧ (7 : Int) ≤ 10 := by decide
theorem pyBring_b {g : Bool} {x f l : Int} {rs : List (List Int)} {T : pxTx} : 0 ≤ (pxSpBring g x f l rs T).1 ∧ (pxSpBring g x f l rs T).1 ≤ 10 := by
  unfold pxSpBring
  by_cases c : 40 < (T.1.length : Int) - (if g = true then l - f + 1 else 0) + rs.length
  · rw [if_pos c]; first | exact py_0 | exact py_4 | exact py_1 | exact py_5
  · rw [if_neg c]; first | exact py_0 | exact py_4 | exact py_1 | exact py_5
theorem pyPr_b {pre : Int → List Int} {f l : Int} {T : pxTx} {S : pxSto} : 0 ≤ (pxSpPr pre f l T S).1 ∧ (pxSpPr pre f l T S).1 ≤ 10 := by
  unfold pxSpPr
  cases pxPrint pre (pxRs T.1) (l - f + 1).toNat f S.2.1 with
  | none => first | exact py_0 | exact py_4 | exact py_1 | exact py_5
  | some w => first | exact py_0 | exact py_4 | exact py_1 | exact py_5
/-- no answer of an act is below 0 -/
theorem pyDo_b {s : List Int} {p f l : Int} {T : pxTx} {S : pxSto} {rep : Bool} (I : pxInv T) : 0 ≤ (pxDo s p f l T S rep).1.1 ∧ (pxDo s p f l T S rep).1.1 ≤ 10 := by
  have lb := pyLoc_lb (s := s) (q := p + 1) I
  unfold pxDo
  by_cases c : pxP s p = 62 ∨ pxP s p = 115 ∨ pxP s p = 122 ∨ pxP s p = 60
  · rw [if_pos c]
    unfold pxDoC
    show 0 ≤ (if (pxChgs s p (l + 1 - f).toNat f (pxRs T.1) rep).1 = true then (0 : Int) else 4) ∧ (if (pxChgs s p (l + 1 - f).toNat f (pxRs T.1) rep).1 = true then (0 : Int) else 4) ≤ 10
    split <;> omega
  rw [if_neg c]
  show 0 ≤ (pxDo1 s p f l T S).1 ∧ (pxDo1 s p f l T S).1 ≤ 10
  unfold pxDo1
  by_cases c1 : pxP s p = 97
  · rw [if_pos c1]; exact pyBring_b
  rw [if_neg c1]
  by_cases c2 : pxP s p = 105
  · rw [if_pos c2]; exact pyBring_b
  rw [if_neg c2]
  by_cases c3 : pxP s p = 99
  · rw [if_pos c3]; exact pyBring_b
  rw [if_neg c3]
  by_cases c4 : pxP s p = 117
  · rw [if_pos c4]
    by_cases d : S.1 = []
    · rw [if_pos d]; first | exact py_0 | exact py_4 | exact py_1 | exact py_5
    · rw [if_neg d]; exact pyBring_b
  rw [if_neg c4]
  by_cases c5 : pxP s p = 114
  · rw [if_pos c5]
    unfold pxSpRead
    by_cases d : S.2.2 (pxP s (p + 1) - 48) = []
    · rw [if_pos d]; first | exact py_0 | exact py_4 | exact py_1 | exact py_5
    · rw [if_neg d]; exact pyBring_b
  rw [if_neg c5]
  by_cases c6 : pxP s p = 101
  · rw [if_pos c6]
    unfold pxSpExch
    by_cases d : S.1 = []
    · rw [if_pos d]; first | exact py_0 | exact py_4 | exact py_1 | exact py_5
    · rw [if_neg d]; exact pyBring_b
  rw [if_neg c6]
  by_cases c7 : pxP s p = 100
  · rw [if_pos c7]; first | exact py_0 | exact py_4 | exact py_1 | exact py_5
  rw [if_neg c7]
  by_cases c8 : pxP s p = 106
  · rw [if_pos c8]
    show 0 ≤ (pxSpJoin f l T).1 ∧ (pxSpJoin f l T).1 ≤ 10
    unfold pxSpJoin
    by_cases d : (T.1.length : Int) < pxJoE f l
    · rw [if_pos d]; first | exact py_0 | exact py_4 | exact py_1 | exact py_5
    rw [if_neg d]
    by_cases d2 : 30 < (pxJoW f l T.1).length
    · rw [if_pos d2]; first | exact py_0 | exact py_4 | exact py_1 | exact py_5
    · rw [if_neg d2]; first | exact py_0 | exact py_4 | exact py_1 | exact py_5
  rw [if_neg c8]
  by_cases c9 : pxP s p = 118
  · rw [if_pos c9]
    show 0 ≤ (pxSpPart (pxNumV s (p + 1)) f l T).1 ∧ (pxSpPart (pxNumV s (p + 1)) f l T).1 ≤ 10
    unfold pxSpPart
    cases pxPart (pxNumV s (p + 1)) (l - f + 1).toNat f T.1 T.2.2.2 with
    | none => first | exact py_0 | exact py_4 | exact py_1 | exact py_5
    | some w => first | exact py_0 | exact py_4 | exact py_1 | exact py_5
  rw [if_neg c9]
  by_cases c10 : pxP s p = 108
  · rw [if_pos c10]; first | exact py_0 | exact py_4 | exact py_1 | exact py_5
  rw [if_neg c10]
  by_cases c11 : pxP s p = 109
  · rw [if_pos c11]
    show 0 ≤ (pxSpMove f l (pxLoc s (p + 1) T) T).1 ∧ (pxSpMove f l (pxLoc s (p + 1) T) T).1 ≤ 10
    unfold pxSpMove
    by_cases d : pxLoc s (p + 1) T < 0
    · rw [if_pos d]; show 0 ≤ -pxLoc s (p + 1) T ∧ -pxLoc s (p + 1) T ≤ 10; omega
    rw [if_neg d]
    by_cases d2 : f ≤ pxLoc s (p + 1) T ∧ pxLoc s (p + 1) T < l
    · rw [if_pos d2]; first | exact py_0 | exact py_4 | exact py_1 | exact py_5
    · rw [if_neg d2]; first | exact py_0 | exact py_4 | exact py_1 | exact py_5
  rw [if_neg c11]
  by_cases c12 : pxP s p = 116
  · rw [if_pos c12]
    show 0 ≤ (pxSpCopy f l (pxLoc s (p + 1) T) T).1 ∧ (pxSpCopy f l (pxLoc s (p + 1) T) T).1 ≤ 10
    unfold pxSpCopy
    by_cases d : pxLoc s (p + 1) T < 0
    · rw [if_pos d]; show 0 ≤ -pxLoc s (p + 1) T ∧ -pxLoc s (p + 1) T ≤ 10; omega
    rw [if_neg d]
    by_cases d2 : 40 < (T.1.length : Int) + (l - f + 1)
    · rw [if_pos d2]; first | exact py_0 | exact py_4 | exact py_1 | exact py_5
    · rw [if_neg d2]; first | exact py_0 | exact py_4 | exact py_1 | exact py_5
  rw [if_neg c12]
  by_cases c13 : pxP s p = 111
  · rw [if_pos c13]; first | exact py_0 | exact py_4 | exact py_1 | exact py_5
  rw [if_neg c13]
  by_cases c14 : pxP s p = 79
  · rw [if_pos c14]; first | exact py_0 | exact py_4 | exact py_1 | exact py_5
  rw [if_neg c14]
  unfold pxSpTell
  by_cases e1 : pxP s p = 112
  · rw [if_pos e1]; exact pyPr_b
  rw [if_neg e1]
  by_cases e2 : pxP s p = 110
  · rw [if_pos e2]; exact pyPr_b
  rw [if_neg e2]
  by_cases e3 : pxP s p = 61
  · rw [if_pos e3]
    unfold pxSpEq
    by_cases d : S.2.1.length < 100
    · rw [if_pos d]; first | exact py_0 | exact py_4 | exact py_1 | exact py_5
    · rw [if_neg d]; first | exact py_0 | exact py_4 | exact py_1 | exact py_5
  rw [if_neg e3]
  by_cases e4 : pxP s p = 104
  · rw [if_pos e4]; first | exact py_0 | exact py_4 | exact py_1 | exact py_5
  rw [if_neg e4]
  by_cases e5 : pxP s p = 72
  · rw [if_pos e5]
    unfold pxSpMore
    by_cases d : (S.1.length : Int) + (l - f + 1) ≤ 40
    · rw [if_pos d]; first | exact py_0 | exact py_4 | exact py_1 | exact py_5
    · rw [if_neg d]; first | exact py_0 | exact py_4 | exact py_1 | exact py_5
  rw [if_neg e5]
  by_cases e6 : pxP s p = 107
  · rw [if_pos e6]; first | exact py_0 | exact py_4 | exact py_1 | exact py_5
  · rw [if_neg e6]; first | exact py_0 | exact py_4 | exact py_1 | exact py_5
theorem pyRngE_b {c w f l : Int} (f0 : -3 ≤ f) (l0 : -3 ≤ l) : 0 ≤ (pxRngE c w f l).1 ∧ (pxRngE c w f l).1 ≤ 3 := by
  unfold pxRngE
  by_cases d : f < 0 ∨ l < 0
  · rw [if_pos d]
    show 0 ≤ -(min f l) ∧ -(min f l) ≤ 3
    omega
  · rw [if_neg d]
    show 0 ≤ (if l < f ∨ (f = 0 ∧ ¬ ((c = 97 ∨ c = 114 ∨ c = 117) ∧ (w = 2 ∨ w = 0))) then (1 : Int) else 0) ∧ (if l < f ∨ (f = 0 ∧ ¬ ((c = 97 ∨ c = 114 ∨ c = 117) ∧ (w = 2 ∨ w = 0))) then (1 : Int) else 0) ≤ 3
    split <;> omega
theorem pyRng_b {s : List Int} {p : Int} {T : pxTx} (I : pxInv T) : 0 ≤ (pxRng s p T).1 ∧ (pxRng s p T).1 ≤ 3 := by
  have lb := fun q => pyLoc_lb (s := s) (q := q) I
  have now0 := I.2.2.1
  unfold pxRng
  by_cases c1 : (pxWh s p).2.2.1 = 1 ∨ ((pxWh s p).2.2.1 = 0 ∧ (pxAc s p = 103 ∨ pxAc s p = 71 ∨ pxAc s p = 119))
  · rw [if_pos c1]
    show 0 ≤ (if 0 < (T.1.length : Int) ∨ (pxAc s p = 103 ∨ pxAc s p = 71 ∨ pxAc s p = 119) then (0 : Int) else 1) ∧ (if 0 < (T.1.length : Int) ∨ (pxAc s p = 103 ∨ pxAc s p = 71 ∨ pxAc s p = 119) then (0 : Int) else 1) ≤ 3
    split <;> omega
  rw [if_neg c1]
  by_cases c2 : (pxWh s p).2.2.1 = 0
  · rw [if_pos c2]; exact pyRngE_b (by omega) (by omega)
  rw [if_neg c2]
  by_cases c3 : (pxWh s p).2.2.1 = 3 ∧ 0 ≤ pxLoc s p T
  · rw [if_pos c3]; exact pyRngE_b (lb _) (lb _)
  · rw [if_neg c3]; exact pyRngE_b (lb _) (lb _)
def pyQI : Nat → Nat → Prop := fun k f => pyQA4 k f ∨ pyQg2 k f ∨ (k = 587 ∧ ((23 ≤ f ∧ f ≤ 30) ∨ f = 45))
/-- the state in which an order is done -/
def pyGs (nB : Int) (h : jw_H) (s : List Int) (T : pxTx) (S : pxSto) (rep : Bool) (came : Int) : Prop :=
  pyS h ∧ pyG h s ∧ pyX h T ∧ pyY h S ∧ pxInv T ∧ pxM h 587 44 = pyB rep ∧ pxM h 587 45 = came ∧ 0 ≤ came ∧ came ≤ 60 ∧ T.2.2.2 + 40 * (60 - came) ≤ nB ∧ nB ≤ 2000000000
def pyIR (nB : Int) (s : List Int) (r : pxRes) (v : Int32) (h' : jw_H) : Prop :=
  v = pxJ r.1 ∧ 0 ≤ r.1 ∧ r.1 ≤ 10 ∧ (r.1 = 0 → pyGs nB h' s r.2.2.1 r.2.2.2.1 r.2.2.2.2 r.2.1)
theorem pyG.i {h h1 : jw_H} {s : List Int} (G : pyG h s) (V : pyV pyQI h h1) : pyG h1 s := G.keep V (by unfold pyQI pyQA4 pyQA pyQg2 pyQl; omega) (fun f _ => by unfold pyQI pyQA4 pyQA pyQg2 pyQl; omega)
theorem pyInn_a {s : List Int} {q : Int} (ok : (pxInn s q).1 = true) : (pxWh s q).1 = true ∧ ¬ pxSteer (pxP s (pxWh s q).2.1) = true ∧ (pxAct s (pxWh s q).2.1).1 = true ∧ (pxInn s q).2 = (pxAct s (pxWh s q).2.1).2 := by
  unfold pxInn at ok ⊢
  by_cases a : (pxWh s q).1 = true
  · rw [if_pos a] at ok ⊢
    by_cases b : pxSteer (pxP s (pxWh s q).2.1) = true
    · rw [if_pos b] at ok; cases ok
    · rw [if_neg b] at ok ⊢
      exact ⟨a, b, ok, rfl⟩
  · rw [if_neg a] at ok; cases ok
theorem pyAct_3 {s : List Int} {p : Int} (ok : (pxAct s p).1 = true) : ¬ (pxP s p = 103 ∨ pxP s p = 71 ∨ pxP s p = 123) := by
  rintro (z | z | z)
  all_goals
    unfold pxAct at ok
    rw [z] at ok
    have ok' : (false, p).1 = true := ok
    cases ok'
theorem pyAct_115 {s : List Int} {p : Int} (z : pxP s p = 115) : pxAct s p = pxRep s (p + 1) := by
  unfold pxAct
  rw [z]; rfl
set_option maxHeartbeats 8000000 in
theorem n_doInner {nB : Int} {h : jw_H} {s : List Int} {q came : Int} {T : pxTx} {S : pxSto} {rep : Bool} (W : pyGs nB h s T S rep came) (q0 : 0 ≤ q) (q1 : q ≤ s.length) (ok : (pxInn s q).1 = true) (n48 : pxP s (pxInn s q).2 ≠ 48) :
    pxW (f_X12_doInner h 587 (pxJ q)) fun v h' => pyV pyQI h h' ∧ pyIR nB s (pxInnr s [q] came T S rep) v h' := by
  obtain ⟨H, G, X, Y, I, e44, e45, ca0, ca1, nb, nB1⟩ := W
  obtain ⟨wok, ns, aok, ea⟩ := pyInn_a ok
  have l60 := G.2.1.1
  have wb := pxWh_b q0 q1
  unfold f_X12_doInner g_X12_doInner_b50 pxInnr
  by_cases c : 60 ≤ came
  · rw [if_pos c]
    have c60 : came = 60 := by omega
    rw [c60] at e45
    try simp (maxSteps := 4000000) (disch := first | assumption | omega | (simp only [pyS_I]; assumption)) only [pxL0, pxL1, pxL2, pxL3, pxL4, pxL5, pxL6, pxL7, pxL8, pxL9, pxL10, pxL11, pxL12, pxL13, pxL14, pxL15, pxL16, pxL17, pxL18, pxL19, pxL20, pxL21, pxL22, pxL23, pxL24, pxL25, pxL26, pxL27, pxL28, pxL29, pxL30, pxL31, pxL32, pxL33, pxL34, pxL35, pxL36, pxL37, pxL38, pxL39, pxL40, pxL41, pxL42, pxL43, pxL44, pxL45, pxL46, pxL47, pxL48, pxL49, pxL51, pxL57, pxL58, pxL59, pxL60, pxL61, pxL62, pxL63, pxL64, pxL65, pxL66, pxL67, pxL68, pxL69, pxL70, pxL71, pxL72, pxL73, pxL74, pxL75, pxL76, pxL77, pxL78, pxL79, pxL80, pxL81, pxL82, pxL83, pxL84, pxL85, pxL86, pxL87, pxL88, pxL89, pxL90, pxL91, pxL92, pxL93, pxL94, pxL95, pxL96, pxL97, pxL98, pxL99, pxL100, pxL101, pxL102, pxL103, pxL104, pxL105, pxL106, pxL107, pxL108, pxL109, pxL110, pxL111, pxL112, pxL113, pxL114, pxL115, pxL116, pxL117, pxL118, pxL119, pxL120, pxL121, pxL122, pxL123, pxL124, pxL125, pxL126, pxL200, pxL240, pxL287, pxL388, pxL400, pxL429, pxL431, pxL440, pxL1240, pxL1600, pxL1681, pxL12028, pxL13849, pxL14880, pxL25173, pxL26908, pxL49600, pxL65535, pxL65536, ↓reduceIte, reduceCtorEq, pxJ_add, pxJ_sub, pxJ_mul, pxJ_neg, pxD_lt_t, pxD_lt_f, pxD_le_t, pxD_le_f, pxD_eq_t, pxD_eq_f, pxJ_lt, pxJ_le, pxJ_eq, pxJ_div, px_b2, px_bs, px_rb0, px_rb1, pxW_some, Option.some.injEq, pxM_eq, pxM_ne, pyN_gI, pyN_pI, pyN_rc, pyN_g1, pyN_a588, pyN_s588, pyN_g3, pyN_a589, pyN_s589, pyN_g4, pyN_a590, pyN_s590, pyN_g5, pyN_a591, pyN_s591, pyN_g6, pyN_a592, pyN_s592, pyN_g7, pyN_a593, pyN_s593, pyN_g8, pyN_a594, pyN_s594, pyN_g9, pyN_a595, pyN_s595, pyN_g10, pyN_a596, pyN_s596, pyN_g11, pyN_a597, pyN_s597, pyN_g19, pyN_a598, pyN_s598, pyN_g21, pyN_a599, pyN_s599, pyN_g31, pyN_a600, pyN_s600, pyN_g32, pyN_a601, pyN_s601, pyN_g38, pyN_a602, pyN_s602, pyN_g39, pyN_a603, pyN_s603, pyN_g46, pyN_a604, pyN_s604, pyN_g47, pyN_a605, pyN_s605, pyN_g48, pyN_a606, pyN_s606, pyN_g49, pyN_a607, pyN_s607, pyN_g55, pyN_a608, pyN_s608, pyN_g56, pyN_a609, pyN_s609, pyN_g57, pyN_a610, pyN_s610, pyN_g58, pyN_a611, pyN_s611, pyN_g59, pyN_a612, pyN_s612, pyN_g60, pyN_a613, pyN_s613, pyN_g74, pyN_a614, pyN_s614, pyN_g75, pyN_a615, pyN_s615, pyN_g76, pyN_a616, pyN_s616, pyN_g78, pyN_a617, pyN_s617, pyN_g79, pyN_a618, pyN_s618, e45]
    exact ⟨pyV.rfl, (by first | exact True.intro | rfl), py_7.1, py_7.2, fun z => absurd z (by show ¬ (7 : Int) = 0; decide)⟩
  rw [if_neg c]
  rw [pyN_gI H, px_bs, e45, if_neg (show ¬ (pxJ came = (60 : Int32)) from fun z => by have := (pxJ_eq (a := came) (b := 60) (by omega) (by omega) (by omega) (by omega)).mp z; omega), px_bs, show pxJ came + (1 : Int32) = pxJ (came + 1) from pxJ_add came 1, pyN_pI H, px_bs]
  have H0 : pyS (jw_setI h 587 45 (pxJ (came + 1))) := H
  have V0 : pyV pyQI h (jw_setI h 587 45 (pxJ (came + 1))) := pyV.rfl.set (by unfold pyQI; omega)
  have G0 := G.i V0
  rw [pyN_rc H0, px_bs]
  refine pxW_b2 (n_readWhere H0 G0 q0 q1 wok) fun _ h1 w => ?_
  obtain ⟨V1, Wh⟩ := w
  have H1 := V1.s H0
  have V1' : pyV pyQI h h1 := V0.trans (V1.mono (fun k f z => by unfold pyQp at z; unfold pyQI; omega))
  have G1 := G.i V1'
  have V01 : pyV (fun k f => k = 587 ∧ ((23 ≤ f ∧ f ≤ 30) ∨ f = 45)) h h1 := (pyV.rfl.set (P := fun k f => k = 587 ∧ ((23 ≤ f ∧ f ≤ 30) ∨ f = 45)) ⟨rfl, Or.inr rfl⟩).trans (V1.mono (fun k f z => by unfold pyQp at z; omega))
  have X1 : pyX h1 T := X.keep V01 (fun k f z => by omega)
  have Y1 : pyY h1 S := Y.keep V01 (fun k f z => by omega)
  have pc : -1 ≠ pxAc s q := by
    intro z
    have cs := pyAct_cs aok (fun z => ns (by rw [pxSteer_i]; exact z))
    unfold pxAc at z
    rw [← z] at cs
    exact absurd cs (by decide)
  rw [pyN_gI H1, px_bs, pyN_rc H1, px_bs]
  refine pxW_b2 (n_range H1 G1 X1 I (by omega) q0 q1 wok Wh (fun z => pc z.symm)) fun v h2 w => ?_
  obtain ⟨V2, rfl, w2⟩ := w
  have rb := pyRng_b (s := s) (p := q) I
  have H2 := V2.s H1
  have G2 := G1.g2 V2
  have X2 := X1.g2 V2
  have Y2 : pyY h2 S := Y1.keep V2 (fun k f z => by unfold pyQg2 pyQl; omega)
  have V2' : pyV pyQI h h2 := V1'.trans (V2.mono (fun k f z => Or.inr (Or.inl z)))
  have f44 : pxM h2 587 44 = pyB rep := by rw [V2.m (by unfold pyQg2 pyQl; omega), V01.m (by omega)]; exact e44
  have f45 : pxM h2 587 45 = came + 1 := by rw [V2.m (by unfold pyQg2 pyQl; omega), V1.m (by unfold pyQp; omega), pxM_eq (by omega) (by omega)]
  have e30 := Wh.2.2.2
  by_cases d : (pxRng s q T).1 = 0
  · obtain ⟨f42, f43⟩ := w2 d
    have rg := pxRng_ok (s := s) (p := q) ⟨I.2.2.1, I.2.2.2.1⟩ I.1 d ⟨by omega, by omega⟩
    have gd := pxGood_do (rep := rep) I Y.1 (show 0 ≤ (pxWh s q).2.1 by omega) (by omega) l60 aok (fun z => ns (by rw [pxSteer_i]; exact z)) (pyAct_3 aok) rg
    have eo : pxOne s q T S rep = pxDo s (pxWh s q).2.1 (pxRng s q T).2.1 (pxRng s q T).2.2 T S rep := by unfold pxOne; rw [if_neg (fun z => z d)]
    rw [eo]
    have db := pyDo_b (s := s) (p := (pxWh s q).2.1) (f := (pxRng s q T).2.1) (l := (pxRng s q T).2.2) (S := S) (rep := rep) I
    have A := n_act H2 G2 X2 Y2 I (by omega) f42 f43 f44 rg (by omega) aok (fun z => ns (by rw [pxSteer_i]; exact z)) (fun z => by rw [← pyAct_115 z, ← ea]; exact n48)
    rw [d, e30]
    try simp (maxSteps := 4000000) (disch := first | assumption | omega | (simp only [pyS_I]; assumption)) only [pxL0, pxL1, pxL2, pxL3, pxL4, pxL5, pxL6, pxL7, pxL8, pxL9, pxL10, pxL11, pxL12, pxL13, pxL14, pxL15, pxL16, pxL17, pxL18, pxL19, pxL20, pxL21, pxL22, pxL23, pxL24, pxL25, pxL26, pxL27, pxL28, pxL29, pxL30, pxL31, pxL32, pxL33, pxL34, pxL35, pxL36, pxL37, pxL38, pxL39, pxL40, pxL41, pxL42, pxL43, pxL44, pxL45, pxL46, pxL47, pxL48, pxL49, pxL51, pxL57, pxL58, pxL59, pxL60, pxL61, pxL62, pxL63, pxL64, pxL65, pxL66, pxL67, pxL68, pxL69, pxL70, pxL71, pxL72, pxL73, pxL74, pxL75, pxL76, pxL77, pxL78, pxL79, pxL80, pxL81, pxL82, pxL83, pxL84, pxL85, pxL86, pxL87, pxL88, pxL89, pxL90, pxL91, pxL92, pxL93, pxL94, pxL95, pxL96, pxL97, pxL98, pxL99, pxL100, pxL101, pxL102, pxL103, pxL104, pxL105, pxL106, pxL107, pxL108, pxL109, pxL110, pxL111, pxL112, pxL113, pxL114, pxL115, pxL116, pxL117, pxL118, pxL119, pxL120, pxL121, pxL122, pxL123, pxL124, pxL125, pxL126, pxL200, pxL240, pxL287, pxL388, pxL400, pxL429, pxL431, pxL440, pxL1240, pxL1600, pxL1681, pxL12028, pxL13849, pxL14880, pxL25173, pxL26908, pxL49600, pxL65535, pxL65536, ↓reduceIte, reduceCtorEq, pxJ_add, pxJ_sub, pxJ_mul, pxJ_neg, pxD_lt_t, pxD_lt_f, pxD_le_t, pxD_le_f, pxD_eq_t, pxD_eq_f, pxJ_lt, pxJ_le, pxJ_eq, pxJ_div, px_b2, px_bs, px_rb0, px_rb1, pxW_some, Option.some.injEq, pxM_eq, pxM_ne, pyN_gI, pyN_pI, pyN_rc, pyN_g1, pyN_a588, pyN_s588, pyN_g3, pyN_a589, pyN_s589, pyN_g4, pyN_a590, pyN_s590, pyN_g5, pyN_a591, pyN_s591, pyN_g6, pyN_a592, pyN_s592, pyN_g7, pyN_a593, pyN_s593, pyN_g8, pyN_a594, pyN_s594, pyN_g9, pyN_a595, pyN_s595, pyN_g10, pyN_a596, pyN_s596, pyN_g11, pyN_a597, pyN_s597, pyN_g19, pyN_a598, pyN_s598, pyN_g21, pyN_a599, pyN_s599, pyN_g31, pyN_a600, pyN_s600, pyN_g32, pyN_a601, pyN_s601, pyN_g38, pyN_a602, pyN_s602, pyN_g39, pyN_a603, pyN_s603, pyN_g46, pyN_a604, pyN_s604, pyN_g47, pyN_a605, pyN_s605, pyN_g48, pyN_a606, pyN_s606, pyN_g49, pyN_a607, pyN_s607, pyN_g55, pyN_a608, pyN_s608, pyN_g56, pyN_a609, pyN_s609, pyN_g57, pyN_a610, pyN_s610, pyN_g58, pyN_a611, pyN_s611, pyN_g59, pyN_a612, pyN_s612, pyN_g60, pyN_a613, pyN_s613, pyN_g74, pyN_a614, pyN_s614, pyN_g75, pyN_a615, pyN_s615, pyN_g76, pyN_a616, pyN_s616, pyN_g78, pyN_a617, pyN_s617, pyN_g79, pyN_a618, pyN_s618, G.1]
    refine pxW_b2 (A) fun v h3 q => pxW_some.mpr ?_
    obtain ⟨⟨V3, v3, x3⟩, r3⟩ := q
    have V3' : pyV pyQI h h3 := V2'.trans (V3.mono (fun k f z => Or.inl z))
    generalize pxDo s (pxWh s _).2.1 (pxRng s _ T).2.1 (pxRng s _ T).2.2 T S rep = R at *
    refine ⟨V3', ?_⟩
    by_cases z : R.1.1 = 0
    · rw [if_neg (fun y => y z)]
      show pyIR nB s (0, came + 1, R.1.2.1, R.1.2.2, R.2) v h3
      obtain ⟨g1, g2, g3⟩ := gd z
      refine ⟨by rw [v3, z], py_0.1, py_0.2, fun _ => ⟨V3.s H2, G.i V3', (x3 z).1, (x3 z).2, g1, r3 z, ?_, show (0 : Int) ≤ came + 1 by omega, show came + 1 ≤ 60 by omega, ?_, nB1⟩⟩
      · rw [V3.m (by unfold pyQA4 pyQA; omega)]; exact f45
      · show R.1.2.1.2.2.2 + 40 * (60 - (came + 1)) ≤ nB
        omega
    · rw [if_pos z]
      exact ⟨v3, db.1, db.2, fun y => absurd y z⟩
  · have eo : pxOne s q T S rep = (((pxRng s q T).1, T, S), rep) := by unfold pxOne; rw [if_pos d]
    rw [eo, if_pos (show ((((pxRng s q T).1, T, S), rep) : (Int × pxTx × pxSto) × Bool).1.1 ≠ 0 from d)]
    try simp (maxSteps := 4000000) (disch := first | assumption | omega | (simp only [pyS_I]; assumption)) only [pxL0, pxL1, pxL2, pxL3, pxL4, pxL5, pxL6, pxL7, pxL8, pxL9, pxL10, pxL11, pxL12, pxL13, pxL14, pxL15, pxL16, pxL17, pxL18, pxL19, pxL20, pxL21, pxL22, pxL23, pxL24, pxL25, pxL26, pxL27, pxL28, pxL29, pxL30, pxL31, pxL32, pxL33, pxL34, pxL35, pxL36, pxL37, pxL38, pxL39, pxL40, pxL41, pxL42, pxL43, pxL44, pxL45, pxL46, pxL47, pxL48, pxL49, pxL51, pxL57, pxL58, pxL59, pxL60, pxL61, pxL62, pxL63, pxL64, pxL65, pxL66, pxL67, pxL68, pxL69, pxL70, pxL71, pxL72, pxL73, pxL74, pxL75, pxL76, pxL77, pxL78, pxL79, pxL80, pxL81, pxL82, pxL83, pxL84, pxL85, pxL86, pxL87, pxL88, pxL89, pxL90, pxL91, pxL92, pxL93, pxL94, pxL95, pxL96, pxL97, pxL98, pxL99, pxL100, pxL101, pxL102, pxL103, pxL104, pxL105, pxL106, pxL107, pxL108, pxL109, pxL110, pxL111, pxL112, pxL113, pxL114, pxL115, pxL116, pxL117, pxL118, pxL119, pxL120, pxL121, pxL122, pxL123, pxL124, pxL125, pxL126, pxL200, pxL240, pxL287, pxL388, pxL400, pxL429, pxL431, pxL440, pxL1240, pxL1600, pxL1681, pxL12028, pxL13849, pxL14880, pxL25173, pxL26908, pxL49600, pxL65535, pxL65536, ↓reduceIte, reduceCtorEq, pxJ_add, pxJ_sub, pxJ_mul, pxJ_neg, pxD_lt_t, pxD_lt_f, pxD_le_t, pxD_le_f, pxD_eq_t, pxD_eq_f, pxJ_lt, pxJ_le, pxJ_eq, pxJ_div, px_b2, px_bs, px_rb0, px_rb1, pxW_some, Option.some.injEq, pxM_eq, pxM_ne, pyN_gI, pyN_pI, pyN_rc, pyN_g1, pyN_a588, pyN_s588, pyN_g3, pyN_a589, pyN_s589, pyN_g4, pyN_a590, pyN_s590, pyN_g5, pyN_a591, pyN_s591, pyN_g6, pyN_a592, pyN_s592, pyN_g7, pyN_a593, pyN_s593, pyN_g8, pyN_a594, pyN_s594, pyN_g9, pyN_a595, pyN_s595, pyN_g10, pyN_a596, pyN_s596, pyN_g11, pyN_a597, pyN_s597, pyN_g19, pyN_a598, pyN_s598, pyN_g21, pyN_a599, pyN_s599, pyN_g31, pyN_a600, pyN_s600, pyN_g32, pyN_a601, pyN_s601, pyN_g38, pyN_a602, pyN_s602, pyN_g39, pyN_a603, pyN_s603, pyN_g46, pyN_a604, pyN_s604, pyN_g47, pyN_a605, pyN_s605, pyN_g48, pyN_a606, pyN_s606, pyN_g49, pyN_a607, pyN_s607, pyN_g55, pyN_a608, pyN_s608, pyN_g56, pyN_a609, pyN_s609, pyN_g57, pyN_a610, pyN_s610, pyN_g58, pyN_a611, pyN_s611, pyN_g59, pyN_a612, pyN_s612, pyN_g60, pyN_a613, pyN_s613, pyN_g74, pyN_a614, pyN_s614, pyN_g75, pyN_a615, pyN_s615, pyN_g76, pyN_a616, pyN_s616, pyN_g78, pyN_a617, pyN_s617, pyN_g79, pyN_a618, pyN_s618, G.1]
    exact ⟨V2', (by first | exact True.intro | rfl), rb.1, by show (pxRng s q T).1 ≤ 10; omega, fun y => absurd y d⟩
theorem pyInnr_cons {s : List Int} {q came : Int} {r : List Int} {T : pxTx} {S : pxSto} {rep : Bool} : pxInnr s (q :: r) came T S rep = if (pxInnr s [q] came T S rep).1 ≠ 0 then pxInnr s [q] came T S rep else pxInnr s r (pxInnr s [q] came T S rep).2.1 (pxInnr s [q] came T S rep).2.2.1 (pxInnr s [q] came T S rep).2.2.2.1 (pxInnr s [q] came T S rep).2.2.2.2 := by
  have e1 : pxInnr s [q] came T S rep = if 60 ≤ came then (7, came + 1, T, S, rep) else if (pxOne s q T S rep).1.1 ≠ 0 then ((pxOne s q T S rep).1.1, came + 1, (pxOne s q T S rep).1.2.1, (pxOne s q T S rep).1.2.2, (pxOne s q T S rep).2) else (0, came + 1, (pxOne s q T S rep).1.2.1, (pxOne s q T S rep).1.2.2, (pxOne s q T S rep).2) := rfl
  have e2 : pxInnr s (q :: r) came T S rep = if 60 ≤ came then (7, came + 1, T, S, rep) else if (pxOne s q T S rep).1.1 ≠ 0 then ((pxOne s q T S rep).1.1, came + 1, (pxOne s q T S rep).1.2.1, (pxOne s q T S rep).1.2.2, (pxOne s q T S rep).2) else pxInnr s r (came + 1) (pxOne s q T S rep).1.2.1 (pxOne s q T S rep).1.2.2 (pxOne s q T S rep).2 := rfl
  rw [e1, e2]
  by_cases c : 60 ≤ came
  · rw [if_pos c, if_pos c, if_pos (show ¬ ((7, came + 1, T, S, rep) : pxRes).1 = 0 from fun z => absurd z (by show ¬ (7 : Int) = 0; decide))]
  rw [if_neg c, if_neg c]
  by_cases d : (pxOne s q T S rep).1.1 ≠ 0
  · rw [if_pos d, if_pos d, if_pos (show ((pxOne s q T S rep).1.1, came + 1, (pxOne s q T S rep).1.2.1, (pxOne s q T S rep).1.2.2, (pxOne s q T S rep).2).1 ≠ 0 from d)]
  · rw [if_neg d, if_neg d, if_neg (show ¬ ¬ ((0, came + 1, (pxOne s q T S rep).1.2.1, (pxOne s q T S rep).1.2.2, (pxOne s q T S rep).2) : pxRes).1 = 0 from fun z => z rfl)]
set_option maxHeartbeats 8000000 in
theorem n_doParts_b23 {nB : Int} {s : List Int} : ∀ (m N : Nat) (h : jw_H) (p came : Int) (T : pxTx) (S : pxSto) (rep : Bool), m < N → m ≤ 61 → pyGs nB h s T S rep came → 0 ≤ p → p ≤ s.length → (pxBlk s m p).1 = true →
    pxW (f_X12_doParts_b23 N h 587 (pxJ p) (pxJ 1)) fun v h' => pyV pyQI h h' ∧ pyIR nB s (pxInnr s (pxBlk s m p).2.2 came T S rep) v h' := by
  intro m
  induction m with
  | zero => intro N h p came T S rep hN m61 W p0 p1 ok; cases ok
  | succ m ih =>
    intro N h p came T S rep hN m61 W p0 p1 ok
    obtain ⟨N, rfl, hN⟩ := px_fu hN
    have W0 := W
    obtain ⟨H, G, -⟩ := W
    have l60 := G.2.1.1
    have ib := pxInn_b (s := s) p0 p1
    have eB : pxBlk s (m + 1) p = (if (pxInn s p).1 = true then (if pxP s (pxInn s p).2 = 59 then ((pxBlk s m ((pxInn s p).2 + 1)).1, (pxBlk s m ((pxInn s p).2 + 1)).2.1, p :: (pxBlk s m ((pxInn s p).2 + 1)).2.2) else if pxP s (pxInn s p).2 = 125 then (true, (pxInn s p).2 + 1, [p]) else (false, (pxInn s p).2, [])) else (false, (pxInn s p).2, [])) := rfl
    have iok : (pxInn s p).1 = true := by
      by_cases z : (pxInn s p).1 = true
      · exact z
      · rw [eB, if_neg z] at ok; cases ok
    rw [eB, if_pos iok] at ok ⊢
    have ib2 := ib.2.2 iok
    rw [u_X12_doParts_b23]
    unfold g_X12_doParts_b23 g_X12_doParts_b65
    rw [if_neg (show ¬ (pxJ 1 = (0 : Int32)) by decide), pyN_rc H, px_bs]
    have n48 : pxP s (pxInn s p).2 ≠ 48 := by
      intro z
      rw [z, if_neg (by decide), if_neg (by decide)] at ok
      cases ok
    refine pxW_b2 (n_doInner W0 p0 p1 iok n48) fun v h1 q => ?_
    obtain ⟨V1, rfl, r0, r1, R1⟩ := q
    by_cases d : (pxInnr s [p] came T S rep).1 = 0
    · have W1 := R1 d
      have H1 := V1.s H
      have G1 := G.i V1
      rw [d]
      have pl := (pxP_lt (s := s) (p := (pxInn s p).2) (by
        intro z
        rw [z, if_neg (by decide), if_neg (by decide)] at ok
        cases ok)).2
      rw [if_pos (show pxJ 0 ≤ (0 : Int32) by decide), pyN_rc H1, px_bs]
      refine pxW_b2 (n_endOf1 H1 G1 p0 p1 iok) fun v h2 q => ?_
      obtain ⟨rfl, V2⟩ := q
      have H2 := V2.s H1
      have V2' : pyV pyQI h h2 := V1.trans (V2.mono (fun k f z => by unfold pyQp at z; unfold pyQI; omega))
      have G2 := G.i V2'
      have m2 := G2.2.2 (pxInn s p).2 (by omega) pl
      rw [← pxP_E (by omega) pl] at m2
      obtain ⟨-, -, X1, Y1, I1, f44, f45, ca0, ca1, nb1, nB1⟩ := W1
      have W2 : pyGs nB h2 s (pxInnr s [p] came T S rep).2.2.1 (pxInnr s [p] came T S rep).2.2.2.1 (pxInnr s [p] came T S rep).2.2.2.2 (pxInnr s [p] came T S rep).2.1 :=
        ⟨H2, G2, X1.keep V2 (fun k f z => by unfold pyQp; omega), Y1.keep V2 (fun k f z => by unfold pyQp; omega), I1, by rw [V2.m (by unfold pyQp; omega)]; exact f44, by rw [V2.m (by unfold pyQp; omega)]; exact f45, ca0, ca1, nb1, nB1⟩
      rw [pyN_g21 H2, px_bs, pyN_a599 H2 (by omega) (by omega), px_bs, m2]
      by_cases c59 : pxP s (pxInn s p).2 = 59
      · rw [if_pos c59] at ok ⊢
        have B := ih N h2 ((pxInn s p).2 + 1) _ _ _ _ (by omega) (by omega) W2 (by omega) (by omega) ok
        rw [c59]
        try simp (maxSteps := 4000000) (disch := first | assumption | omega | (simp only [pyS_I]; assumption)) only [pxL0, pxL1, pxL2, pxL3, pxL4, pxL5, pxL6, pxL7, pxL8, pxL9, pxL10, pxL11, pxL12, pxL13, pxL14, pxL15, pxL16, pxL17, pxL18, pxL19, pxL20, pxL21, pxL22, pxL23, pxL24, pxL25, pxL26, pxL27, pxL28, pxL29, pxL30, pxL31, pxL32, pxL33, pxL34, pxL35, pxL36, pxL37, pxL38, pxL39, pxL40, pxL41, pxL42, pxL43, pxL44, pxL45, pxL46, pxL47, pxL48, pxL49, pxL51, pxL57, pxL58, pxL59, pxL60, pxL61, pxL62, pxL63, pxL64, pxL65, pxL66, pxL67, pxL68, pxL69, pxL70, pxL71, pxL72, pxL73, pxL74, pxL75, pxL76, pxL77, pxL78, pxL79, pxL80, pxL81, pxL82, pxL83, pxL84, pxL85, pxL86, pxL87, pxL88, pxL89, pxL90, pxL91, pxL92, pxL93, pxL94, pxL95, pxL96, pxL97, pxL98, pxL99, pxL100, pxL101, pxL102, pxL103, pxL104, pxL105, pxL106, pxL107, pxL108, pxL109, pxL110, pxL111, pxL112, pxL113, pxL114, pxL115, pxL116, pxL117, pxL118, pxL119, pxL120, pxL121, pxL122, pxL123, pxL124, pxL125, pxL126, pxL200, pxL240, pxL287, pxL388, pxL400, pxL429, pxL431, pxL440, pxL1240, pxL1600, pxL1681, pxL12028, pxL13849, pxL14880, pxL25173, pxL26908, pxL49600, pxL65535, pxL65536, ↓reduceIte, reduceCtorEq, pxJ_add, pxJ_sub, pxJ_mul, pxJ_neg, pxD_lt_t, pxD_lt_f, pxD_le_t, pxD_le_f, pxD_eq_t, pxD_eq_f, pxJ_lt, pxJ_le, pxJ_eq, pxJ_div, px_b2, px_bs, px_rb0, px_rb1, pxW_some, Option.some.injEq, pxM_eq, pxM_ne, pyN_gI, pyN_pI, pyN_rc, pyN_g1, pyN_a588, pyN_s588, pyN_g3, pyN_a589, pyN_s589, pyN_g4, pyN_a590, pyN_s590, pyN_g5, pyN_a591, pyN_s591, pyN_g6, pyN_a592, pyN_s592, pyN_g7, pyN_a593, pyN_s593, pyN_g8, pyN_a594, pyN_s594, pyN_g9, pyN_a595, pyN_s595, pyN_g10, pyN_a596, pyN_s596, pyN_g11, pyN_a597, pyN_s597, pyN_g19, pyN_a598, pyN_s598, pyN_g21, pyN_a599, pyN_s599, pyN_g31, pyN_a600, pyN_s600, pyN_g32, pyN_a601, pyN_s601, pyN_g38, pyN_a602, pyN_s602, pyN_g39, pyN_a603, pyN_s603, pyN_g46, pyN_a604, pyN_s604, pyN_g47, pyN_a605, pyN_s605, pyN_g48, pyN_a606, pyN_s606, pyN_g49, pyN_a607, pyN_s607, pyN_g55, pyN_a608, pyN_s608, pyN_g56, pyN_a609, pyN_s609, pyN_g57, pyN_a610, pyN_s610, pyN_g58, pyN_a611, pyN_s611, pyN_g59, pyN_a612, pyN_s612, pyN_g60, pyN_a613, pyN_s613, pyN_g74, pyN_a614, pyN_s614, pyN_g75, pyN_a615, pyN_s615, pyN_g76, pyN_a616, pyN_s616, pyN_g78, pyN_a617, pyN_s617, pyN_g79, pyN_a618, pyN_s618, G.1]
        refine pxW.mono (B) fun v h' q => ?_
        rw [pyInnr_cons, if_neg (fun z => z d)]
        exact ⟨V2'.trans q.1, q.2⟩
      · rw [if_neg c59] at ok ⊢
        by_cases c125 : pxP s (pxInn s p).2 = 125
        · rw [if_pos c125, c125]
          obtain ⟨N, rfl⟩ : ∃ N', N = N' + 1 := ⟨N - 1, by omega⟩
          rw [u_X12_doParts_b23]
          unfold g_X12_doParts_b23
          try simp (maxSteps := 4000000) (disch := first | assumption | omega | (simp only [pyS_I]; assumption)) only [pxL0, pxL1, pxL2, pxL3, pxL4, pxL5, pxL6, pxL7, pxL8, pxL9, pxL10, pxL11, pxL12, pxL13, pxL14, pxL15, pxL16, pxL17, pxL18, pxL19, pxL20, pxL21, pxL22, pxL23, pxL24, pxL25, pxL26, pxL27, pxL28, pxL29, pxL30, pxL31, pxL32, pxL33, pxL34, pxL35, pxL36, pxL37, pxL38, pxL39, pxL40, pxL41, pxL42, pxL43, pxL44, pxL45, pxL46, pxL47, pxL48, pxL49, pxL51, pxL57, pxL58, pxL59, pxL60, pxL61, pxL62, pxL63, pxL64, pxL65, pxL66, pxL67, pxL68, pxL69, pxL70, pxL71, pxL72, pxL73, pxL74, pxL75, pxL76, pxL77, pxL78, pxL79, pxL80, pxL81, pxL82, pxL83, pxL84, pxL85, pxL86, pxL87, pxL88, pxL89, pxL90, pxL91, pxL92, pxL93, pxL94, pxL95, pxL96, pxL97, pxL98, pxL99, pxL100, pxL101, pxL102, pxL103, pxL104, pxL105, pxL106, pxL107, pxL108, pxL109, pxL110, pxL111, pxL112, pxL113, pxL114, pxL115, pxL116, pxL117, pxL118, pxL119, pxL120, pxL121, pxL122, pxL123, pxL124, pxL125, pxL126, pxL200, pxL240, pxL287, pxL388, pxL400, pxL429, pxL431, pxL440, pxL1240, pxL1600, pxL1681, pxL12028, pxL13849, pxL14880, pxL25173, pxL26908, pxL49600, pxL65535, pxL65536, ↓reduceIte, reduceCtorEq, pxJ_add, pxJ_sub, pxJ_mul, pxJ_neg, pxD_lt_t, pxD_lt_f, pxD_le_t, pxD_le_f, pxD_eq_t, pxD_eq_f, pxJ_lt, pxJ_le, pxJ_eq, pxJ_div, px_b2, px_bs, px_rb0, px_rb1, pxW_some, Option.some.injEq, pxM_eq, pxM_ne, pyN_gI, pyN_pI, pyN_rc, pyN_g1, pyN_a588, pyN_s588, pyN_g3, pyN_a589, pyN_s589, pyN_g4, pyN_a590, pyN_s590, pyN_g5, pyN_a591, pyN_s591, pyN_g6, pyN_a592, pyN_s592, pyN_g7, pyN_a593, pyN_s593, pyN_g8, pyN_a594, pyN_s594, pyN_g9, pyN_a595, pyN_s595, pyN_g10, pyN_a596, pyN_s596, pyN_g11, pyN_a597, pyN_s597, pyN_g19, pyN_a598, pyN_s598, pyN_g21, pyN_a599, pyN_s599, pyN_g31, pyN_a600, pyN_s600, pyN_g32, pyN_a601, pyN_s601, pyN_g38, pyN_a602, pyN_s602, pyN_g39, pyN_a603, pyN_s603, pyN_g46, pyN_a604, pyN_s604, pyN_g47, pyN_a605, pyN_s605, pyN_g48, pyN_a606, pyN_s606, pyN_g49, pyN_a607, pyN_s607, pyN_g55, pyN_a608, pyN_s608, pyN_g56, pyN_a609, pyN_s609, pyN_g57, pyN_a610, pyN_s610, pyN_g58, pyN_a611, pyN_s611, pyN_g59, pyN_a612, pyN_s612, pyN_g60, pyN_a613, pyN_s613, pyN_g74, pyN_a614, pyN_s614, pyN_g75, pyN_a615, pyN_s615, pyN_g76, pyN_a616, pyN_s616, pyN_g78, pyN_a617, pyN_s617, pyN_g79, pyN_a618, pyN_s618, G.1]
          exact ⟨V2', by rw [d], r0, r1, fun _ => W2⟩
        · rw [if_neg c125] at ok; cases ok
    · have nl : ¬ (pxJ (pxInnr s [p] came T S rep).1 ≤ (0 : Int32)) := by
        intro z
        have := (pxJ_le (a := (pxInnr s [p] came T S rep).1) (b := 0) (by omega) (by omega) (by omega) (by omega)).mp z
        omega
      rw [if_neg nl]
      refine pxW_some.mpr ⟨V1, ?_⟩
      by_cases c59 : pxP s (pxInn s p).2 = 59
      · rw [if_pos c59, pyInnr_cons, if_pos d]
        exact ⟨rfl, r0, r1, fun y => absurd y d⟩
      · rw [if_neg c59] at ok ⊢
        by_cases c125 : pxP s (pxInn s p).2 = 125
        · rw [if_pos c125]
          exact ⟨rfl, r0, r1, fun y => absurd y d⟩
        · rw [if_neg c125] at ok; cases ok
/-- the places of the orders that stand at p, a block's or a single one -/
def pyPs (s : List Int) (p : Int) : Bool × Int × List Int := if pxP s p = 123 then pxBlk s 61 (p + 1) else ((pxInn s p).1, (pxInn s p).2, [p])
theorem n_doParts {nB : Int} {h : jw_H} {s : List Int} {p came : Int} {T : pxTx} {S : pxSto} {rep : Bool} (W : pyGs nB h s T S rep came) (p0 : 0 ≤ p) (p1 : p < s.length) (ok : (pyPs s p).1 = true) (n48 : pxP s (pyPs s p).2.1 ≠ 48) :
    pxW (f_X12_doParts h 587 (pxJ p)) fun v h' => pyV pyQI h h' ∧ pyIR nB s (pxInnr s (pyPs s p).2.2 came T S rep) v h' := by
  have W0 := W
  obtain ⟨H, G, -⟩ := W
  have l60 := G.2.1.1
  have m := G.2.2 p p0 p1
  rw [← pxP_E p0 p1] at m
  have i0 := pxP_in G.2.1 p
  unfold f_X12_doParts
  rw [pyN_g21 H, px_bs, pyN_a599 H p0 (by omega), px_bs, m]
  unfold pyPs at ok n48 ⊢
  by_cases c : pxP s p = 123
  · rw [if_pos c] at ok n48 ⊢
    rw [c]
    have B := n_doParts_b23 (nB := nB) 61 jw_FU h (p + 1) came T S rep (by unfold jw_FU; omega) (by omega) W0 (by omega) (by omega) ok
    try simp (maxSteps := 4000000) (disch := first | assumption | omega | (simp only [pyS_I]; assumption)) only [pxL0, pxL1, pxL2, pxL3, pxL4, pxL5, pxL6, pxL7, pxL8, pxL9, pxL10, pxL11, pxL12, pxL13, pxL14, pxL15, pxL16, pxL17, pxL18, pxL19, pxL20, pxL21, pxL22, pxL23, pxL24, pxL25, pxL26, pxL27, pxL28, pxL29, pxL30, pxL31, pxL32, pxL33, pxL34, pxL35, pxL36, pxL37, pxL38, pxL39, pxL40, pxL41, pxL42, pxL43, pxL44, pxL45, pxL46, pxL47, pxL48, pxL49, pxL51, pxL57, pxL58, pxL59, pxL60, pxL61, pxL62, pxL63, pxL64, pxL65, pxL66, pxL67, pxL68, pxL69, pxL70, pxL71, pxL72, pxL73, pxL74, pxL75, pxL76, pxL77, pxL78, pxL79, pxL80, pxL81, pxL82, pxL83, pxL84, pxL85, pxL86, pxL87, pxL88, pxL89, pxL90, pxL91, pxL92, pxL93, pxL94, pxL95, pxL96, pxL97, pxL98, pxL99, pxL100, pxL101, pxL102, pxL103, pxL104, pxL105, pxL106, pxL107, pxL108, pxL109, pxL110, pxL111, pxL112, pxL113, pxL114, pxL115, pxL116, pxL117, pxL118, pxL119, pxL120, pxL121, pxL122, pxL123, pxL124, pxL125, pxL126, pxL200, pxL240, pxL287, pxL388, pxL400, pxL429, pxL431, pxL440, pxL1240, pxL1600, pxL1681, pxL12028, pxL13849, pxL14880, pxL25173, pxL26908, pxL49600, pxL65535, pxL65536, ↓reduceIte, reduceCtorEq, pxJ_add, pxJ_sub, pxJ_mul, pxJ_neg, pxD_lt_t, pxD_lt_f, pxD_le_t, pxD_le_f, pxD_eq_t, pxD_eq_f, pxJ_lt, pxJ_le, pxJ_eq, pxJ_div, px_b2, px_bs, px_rb0, px_rb1, pxW_some, Option.some.injEq, pxM_eq, pxM_ne, pyN_gI, pyN_pI, pyN_rc, pyN_g1, pyN_a588, pyN_s588, pyN_g3, pyN_a589, pyN_s589, pyN_g4, pyN_a590, pyN_s590, pyN_g5, pyN_a591, pyN_s591, pyN_g6, pyN_a592, pyN_s592, pyN_g7, pyN_a593, pyN_s593, pyN_g8, pyN_a594, pyN_s594, pyN_g9, pyN_a595, pyN_s595, pyN_g10, pyN_a596, pyN_s596, pyN_g11, pyN_a597, pyN_s597, pyN_g19, pyN_a598, pyN_s598, pyN_g21, pyN_a599, pyN_s599, pyN_g31, pyN_a600, pyN_s600, pyN_g32, pyN_a601, pyN_s601, pyN_g38, pyN_a602, pyN_s602, pyN_g39, pyN_a603, pyN_s603, pyN_g46, pyN_a604, pyN_s604, pyN_g47, pyN_a605, pyN_s605, pyN_g48, pyN_a606, pyN_s606, pyN_g49, pyN_a607, pyN_s607, pyN_g55, pyN_a608, pyN_s608, pyN_g56, pyN_a609, pyN_s609, pyN_g57, pyN_a610, pyN_s610, pyN_g58, pyN_a611, pyN_s611, pyN_g59, pyN_a612, pyN_s612, pyN_g60, pyN_a613, pyN_s613, pyN_g74, pyN_a614, pyN_s614, pyN_g75, pyN_a615, pyN_s615, pyN_g76, pyN_a616, pyN_s616, pyN_g78, pyN_a617, pyN_s617, pyN_g79, pyN_a618, pyN_s618, G.1]
    exact B
  · rw [if_neg c] at ok n48 ⊢
    have nc : ¬ (pxJ (pxP s p) = (123 : Int32)) := fun z => by
      have := (pxJ_eq (a := pxP s p) (b := 123) (by omega) (by omega) (by omega) (by omega)).mp z
      exact c this
    rw [if_neg nc, pyN_rc H, px_bs]
    exact pxW_b2 (n_doInner W0 p0 (by omega) ok n48) fun v h1 q => pxW_some.mpr q
