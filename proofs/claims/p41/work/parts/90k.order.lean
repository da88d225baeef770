/-! orders line by line: an order -/
/-- the next place, whether the line is left, whether it ends, what is noted with orders, the state -/
abbrev pxBq := Nat × Bool × Bool × (Nat → pxFg) × pxBe
def pxBSet (G : Nat → pxFg) (k : Nat) (g : pxFg) : Nat → pxFg := fun j => if j = k then g else G j
/-- an order at place k that stands at q -/
def pxBOrd (s : List Int) (L : List (Int × List Int)) (T : pxTx) (k : Nat) (q : Int) (nx : Nat) (came : Int) (G : Nat → pxFg) (W : pxWk) (Fr : pxFh) (S : pxSto) (rep : Bool) : Int × pxBq :=
  if 400 < came + 1 then (7, k, false, false, G, W, Fr, S, rep)
  else if pxBar s q = true then (8, k, false, false, G, W, Fr, S, rep)
  else if (pxBHold s q T.1.length W Fr (G k)).1 = false then (0, nx, false, false, pxBSet G k (pxBHold s q T.1.length W Fr (G k)).2, W, Fr, S, rep)
  else if pxAc s q = 103 ∨ pxAc s q = 71 ∨ pxAc s q = 123 then
    (0, if pxAc s q = 123 ∨ (pxHolds s (pxFull s ((pxWh s q).2.1 + 2)) W.2.2.2.2.2.1 = decide (pxAc s q = 103)) then k + 1 else nx, false, false, pxBSet G k (pxBHold s q T.1.length W Fr (G k)).2, W, Fr, S, rep)
  else if pxSteer (pxAc s q) = true then
    ((pxBStr s L q nx rep).1, (pxBStr s L q nx rep).2.1, (pxBStr s L q nx rep).2.2.1, (pxBStr s L q nx rep).2.2.2.1, pxBSet G k (pxBHold s q T.1.length W Fr (G k)).2, W, Fr, S, (pxBStr s L q nx rep).2.2.2.2)
  else ((pxBAct s (pxWh s q).2.1 (pxWh s q).2.2.1 (pxBHold s q T.1.length W Fr (G k)).2.2.2.1 T W Fr S rep).1, if (pxBAct s (pxWh s q).2.1 (pxWh s q).2.2.1 (pxBHold s q T.1.length W Fr (G k)).2.2.2.1 T W Fr S rep).2.1.2.2.2.2.1 = true then pxCnt L else nx, false, false, pxBSet G k (pxBHold s q T.1.length W Fr (G k)).2, (pxBAct s (pxWh s q).2.1 (pxWh s q).2.2.1 (pxBHold s q T.1.length W Fr (G k)).2.2.2.1 T W Fr S rep).2)
def pxQD : Nat → Nat → Prop := fun k f => pxQB k f ∨ (k = 571 ∧ (f = 14 ∨ f = 18 ∨ f = 19)) ∨ (12 ≤ k ∧ k ≤ 251 ∧ k % 4 = 0 ∧ 10 ≤ f)
def pxBG (h : jw_H) (n : Nat) (G : Nat → pxFg) : Prop := ∀ k, k < n → pxGM h k (G k)
theorem pxBG.set {P : Nat → Nat → Prop} {h h' : jw_H} {n k : Nat} {G : Nat → pxFg} {g : pxFg} (H : pxBG h n G) (F : pxF P h h') (hP : ∀ j f, j ≠ k → j < n → ¬ P (12 + 4 * j) f) (M : pxGM h' k g) : pxBG h' n (pxBSet G k g) := by
  intro j jn
  unfold pxBSet
  by_cases c : j = k
  · rw [if_pos c, c]; exact M
  · rw [if_neg c]
    obtain ⟨g1, g2, g3, g4⟩ := H j jn
    exact ⟨by rw [F.m (hP j _ c jn)]; exact g1, by rw [F.m (hP j _ c jn)]; exact g2, by rw [F.m (hP j _ c jn)]; exact g3, by rw [F.m (hP j _ c jn)]; exact g4⟩
theorem pxBG.fr {P : Nat → Nat → Prop} {h h' : jw_H} {n : Nat} {G : Nat → pxFg} (H : pxBG h n G) (F : pxF P h h') (hP : ∀ j f, j < n → ¬ P (12 + 4 * j) f) : pxBG h' n G := by
  intro j jn
  obtain ⟨g1, g2, g3, g4⟩ := H j jn
  exact ⟨by rw [F.m (hP j _ jn)]; exact g1, by rw [F.m (hP j _ jn)]; exact g2, by rw [F.m (hP j _ jn)]; exact g3, by rw [F.m (hP j _ jn)]; exact g4⟩
/-- what an order leaves -/
def pxBQ (h : jw_H) (T : pxTx) (n : Nat) (came : Int) (R : Int × pxBq) (v : Int32) (h' : jw_H) : Prop :=
  pxF pxQD h h' ∧ pxM h' 571 14 = came + 1 ∧ pxM h' 571 15 = R.1 ∧ (∃ β', pxBS h' T β') ∧
  (R.1 = 0 → v = pxJ ((R.2.1 : Nat) : Int) ∧ pxBS h' T R.2.2.2.2.2 ∧ pxBG h' n R.2.2.2.2.1 ∧ (pxM h' 571 18 = if R.2.2.1 = true then 1 else 0) ∧ (pxM h' 571 19 = if R.2.2.2.1 = true then 1 else 0))
section
variable {T : pxTx} {W : pxWk} {Fr : pxFh} {S : pxSto} {rep : Bool} {h : jw_H} {s : List Int} {b k nx : Nat} {q came : Int} {L : List (Int × List Int)} {G : Nat → pxFg}
set_option maxHeartbeats 4000000 in
theorem s_X1_doOrder (PR : pxPr h b s L) (e : (pxFl L 0)[k]? = some (q, nx)) (H : pxBS h T (W, Fr, S, rep)) (BG : pxBG h (pxCnt L) G) (m14 : pxM h 571 14 = came) (ca0 : 0 ≤ came) (ca1 : came ≤ 400) (m15 : pxM h 571 15 = 0) (m18 : pxM h 571 18 = 0) (m19 : pxM h 571 19 = 0) :
    pxW (f_X1_doOrder h 571 (pxJ ((k : Nat) : Int))) (pxBQ h T (pxCnt L) came (pxBOrd s L T k q nx came G W Fr S rep)) := by
  obtain ⟨OC, m9, kn, nc⟩ := PR.fl e
  have m6 := PR.2.2.2.1
  have c60 := PR.2.2.2.2.1
  have PS := OC.2.2.1.1
  have tg := PS.1
  have hi := OC.2.1
  have t5 := (PS.2.2.2.2.2.2.2 k hi).2.1
  have oa := s_X6_orderAt PS m6 (by omega) (x := ((k : Nat) : Int)) (by omega) (by omega)
  rw [if_pos (by omega), show (((k : Nat) : Int)).toNat = k by omega] at oa
  have t1 := H.1.1
  have r0 := H.1.2.1
  -- it is come to
  have F1 : pxF (fun k f => k = 571 ∧ f = 14) h (jw_setI h 571 14 (pxJ (came + 1))) := pxF.setI ⟨rfl, rfl⟩
  have F1' : pxF pxQD h (jw_setI h 571 14 (pxJ (came + 1))) := F1.mono (fun k f z => by unfold pxQD; omega)
  have m141 : pxM (jw_setI h 571 14 (pxJ (came + 1))) 571 14 = came + 1 := pxM_eq (by omega) (by omega)
  have H1 : pxBS (jw_setI h 571 14 (pxJ (came + 1))) T (W, Fr, S, rep) := H.fr F1 (fun k f z => by omega)
  have OC1 := OC.fb F1 (fun k f z => by omega)
  have GM1 : pxGM (jw_setI h 571 14 (pxJ (came + 1))) k (G k) := by
    obtain ⟨g1, g2, g3, g4⟩ := BG k (by omega)
    exact ⟨by rw [F1.m (by omega)]; exact g1, by rw [F1.m (by omega)]; exact g2, by rw [F1.m (by omega)]; exact g3, by rw [F1.m (by omega)]; exact g4⟩
  have bad : ∀ r : Int, 0 ≤ r → r ≤ 8 → r ≠ 0 → f_X1_doOrder h 571 (pxJ ((k : Nat) : Int)) = some (pxJ ((k : Nat) : Int), jw_setI (jw_setI h 571 14 (pxJ (came + 1))) 571 15 (pxJ r)) → pxW (f_X1_doOrder h 571 (pxJ ((k : Nat) : Int))) (pxBQ h T (pxCnt L) came (r, k, false, false, G, W, Fr, S, rep)) := by
    intro r r0 r1 r2 e2
    have F2 : pxF (fun k f => k = 571 ∧ f = 15) (jw_setI h 571 14 (pxJ (came + 1))) (jw_setI (jw_setI h 571 14 (pxJ (came + 1))) 571 15 (pxJ r)) := pxF.setI ⟨rfl, rfl⟩
    exact ⟨_, _, e2, F1'.trans (F2.mono (fun k f z => by unfold pxQD pxQB; omega)), by rw [F2.m (by omega)]; exact m141, pxM_eq (by omega) (by omega), ⟨_, H1.fr F2 (fun k f z => by omega)⟩, fun z => absurd z r2⟩
  unfold pxBOrd
  by_cases c400 : 400 < came + 1
  · rw [if_pos c400]
    refine bad 7 (by omega) (by omega) (by omega) ?_
    unfold f_X1_doOrder g_X1_doOrder_b48 g_X1_doOrder_b66
    clear PR OC PS BG H H1 OC1 GM1 bad F1 F1' e
    simp (maxSteps := 4000000) (disch := first | assumption | omega | (simp only [jw_t_I, px_cpt]; done) | (simp only [jw_t_I, px_cpt]; omega)) only [pxL0, pxL1, pxL2, pxL3, pxL4, pxL5, pxL6, pxL7, pxL8, pxL9, pxL10, pxL11, pxL12, pxL13, pxL14, pxL15, pxL16, pxL17, pxL18, pxL19, pxL20, pxL21, pxL22, pxL23, pxL24, pxL25, pxL26, pxL27, pxL28, pxL29, pxL30, pxL31, pxL32, pxL33, pxL34, pxL35, pxL36, pxL37, pxL38, pxL39, pxL40, pxL41, pxL42, pxL43, pxL44, pxL45, pxL46, pxL47, pxL48, pxL49, pxL51, pxL57, pxL58, pxL59, pxL60, pxL61, pxL62, pxL63, pxL64, pxL65, pxL66, pxL67, pxL68, pxL69, pxL70, pxL71, pxL72, pxL73, pxL74, pxL75, pxL76, pxL77, pxL78, pxL79, pxL80, pxL81, pxL82, pxL83, pxL84, pxL85, pxL86, pxL87, pxL88, pxL89, pxL90, pxL91, pxL92, pxL93, pxL94, pxL95, pxL96, pxL97, pxL98, pxL99, pxL100, pxL101, pxL102, pxL103, pxL104, pxL105, pxL106, pxL107, pxL108, pxL109, pxL110, pxL111, pxL112, pxL113, pxL114, pxL115, pxL116, pxL117, pxL118, pxL119, pxL120, pxL121, pxL122, pxL123, pxL124, pxL125, pxL126, pxL200, pxL240, pxL287, pxL388, pxL400, pxL429, pxL431, pxL440, pxL1240, pxL1600, pxL1681, pxL12028, pxL13849, pxL14880, pxL25173, pxL26908, pxL49600, pxL65535, pxL65536, ↓reduceIte, reduceCtorEq, pxJ_add, pxJ_sub, pxJ_mul, pxJ_neg, pxD_lt_t, pxD_lt_f, pxD_le_t, pxD_le_f, pxD_eq_t, pxD_eq_f, pxJ_lt, pxJ_le, pxJ_eq, px_gI, px_gR, px_pI, px_rc, px_ai, px_ar, px_si, px_ln, px_cp, pxJ_div, pxJ_b8, pxJ_byte, px_b2, px_bs, px_rb0, px_rb1, px_min, px_max, px_compare, pxW_some, jw_t_I, px_cpt, jw_r_I, px_cpr, jw_l_I, px_cpl, Option.some.injEq, t1, r0, tg, oa, m14, m141]
  rw [if_neg c400]
  have nb := s_X5_isNotByLine OC1
  by_cases cb : pxBar s q = true
  · rw [if_pos cb] at nb ⊢
    refine bad 8 (by omega) (by omega) (by omega) ?_
    unfold f_X1_doOrder g_X1_doOrder_b48 g_X1_doOrder_b66
    clear PR OC PS BG H H1 OC1 GM1 bad F1 F1' e
    simp (maxSteps := 4000000) (disch := first | assumption | omega | (simp only [jw_t_I, px_cpt, t5]; done) | (simp only [jw_t_I, px_cpt, t5]; omega)) only [pxL0, pxL1, pxL2, pxL3, pxL4, pxL5, pxL6, pxL7, pxL8, pxL9, pxL10, pxL11, pxL12, pxL13, pxL14, pxL15, pxL16, pxL17, pxL18, pxL19, pxL20, pxL21, pxL22, pxL23, pxL24, pxL25, pxL26, pxL27, pxL28, pxL29, pxL30, pxL31, pxL32, pxL33, pxL34, pxL35, pxL36, pxL37, pxL38, pxL39, pxL40, pxL41, pxL42, pxL43, pxL44, pxL45, pxL46, pxL47, pxL48, pxL49, pxL51, pxL57, pxL58, pxL59, pxL60, pxL61, pxL62, pxL63, pxL64, pxL65, pxL66, pxL67, pxL68, pxL69, pxL70, pxL71, pxL72, pxL73, pxL74, pxL75, pxL76, pxL77, pxL78, pxL79, pxL80, pxL81, pxL82, pxL83, pxL84, pxL85, pxL86, pxL87, pxL88, pxL89, pxL90, pxL91, pxL92, pxL93, pxL94, pxL95, pxL96, pxL97, pxL98, pxL99, pxL100, pxL101, pxL102, pxL103, pxL104, pxL105, pxL106, pxL107, pxL108, pxL109, pxL110, pxL111, pxL112, pxL113, pxL114, pxL115, pxL116, pxL117, pxL118, pxL119, pxL120, pxL121, pxL122, pxL123, pxL124, pxL125, pxL126, pxL200, pxL240, pxL287, pxL388, pxL400, pxL429, pxL431, pxL440, pxL1240, pxL1600, pxL1681, pxL12028, pxL13849, pxL14880, pxL25173, pxL26908, pxL49600, pxL65535, pxL65536, ↓reduceIte, reduceCtorEq, pxJ_add, pxJ_sub, pxJ_mul, pxJ_neg, pxD_lt_t, pxD_lt_f, pxD_le_t, pxD_le_f, pxD_eq_t, pxD_eq_f, pxJ_lt, pxJ_le, pxJ_eq, px_gI, px_gR, px_pI, px_rc, px_ai, px_ar, px_si, px_ln, px_cp, pxJ_div, pxJ_b8, pxJ_byte, px_b2, px_bs, px_rb0, px_rb1, px_min, px_max, px_compare, pxW_some, jw_t_I, px_cpt, jw_r_I, px_cpr, jw_l_I, px_cpl, Option.some.injEq, t5, t1, r0, tg, oa, m14, m141, nb]
  rw [if_neg cb] at nb ⊢
  obtain ⟨h2, e2, F2, GM2⟩ := s_X1_holds H1 OC1 GM1
  have F12 : pxF pxQD h h2 := F1'.trans (F2.mono (fun k' f z => by unfold pxQo2 pxQx at z; unfold pxQD pxQB; omega))
  have BG2 : pxBG h2 (pxCnt L) (pxBSet G k (pxBHold s q T.1.length W Fr (G k)).2) := (BG.fr F1 (fun j f jn => by omega)).set F2 (fun j f jk jn => by unfold pxQo2 pxQx; omega) GM2
  have H2 := H1.fr F2 (fun k' f z => by unfold pxQo2 pxQx; omega)
  have PR2 := PR.fo F12 (fun k' f y z => by unfold pxQD pxQB at z; omega)
  obtain ⟨OC2, m92, -, -⟩ := PR2.fl e
  have m142 : pxM h2 571 14 = came + 1 := by rw [F2.m (by unfold pxQo2 pxQx; omega)]; exact m141
  have m152 : pxM h2 571 15 = 0 := by rw [F2.m (by unfold pxQo2 pxQx; omega), F1.m (by omega)]; exact m15
  have m182 : pxM h2 571 18 = 0 := by rw [F2.m (by unfold pxQo2 pxQx; omega), F1.m (by omega)]; exact m18
  have m192 : pxM h2 571 19 = 0 := by rw [F2.m (by unfold pxQo2 pxQx; omega), F1.m (by omega)]; exact m19
  have t52 : (jw_t h2 (12 + 4 * k)).1 = 5 := by rw [F12.t]; exact t5
  have t12 := H2.1.1
  have f32 : pxM h2 (12 + 4 * k) 3 = pxAc s q := OC2.2.2.2.1.2.2.2.1
  have ho := s_X5_holdsOthers t52 f32
  have sq := s_X5_steers t52 f32
  by_cases ch : (pxBHold s q T.1.length W Fr (G k)).1 = false
  · rw [if_pos ch]
    rw [ch, if_neg (by decide)] at e2
    refine ⟨pxJ ((nx : Nat) : Int), h2, ?_, F12, m142, m152, ⟨_, H2⟩, fun _ => ⟨rfl, H2, BG2, m182, m192⟩⟩
    unfold f_X1_doOrder
    clear PR OC PS BG H H1 OC1 GM1 bad F1 F1' e OC2 PR2 H2 BG2 F12 F2 GM2 ho sq
    simp (maxSteps := 4000000) (disch := first | assumption | omega | (simp only [jw_t_I, px_cpt, t5]; done) | (simp only [jw_t_I, px_cpt, t5]; omega)) only [pxL0, pxL1, pxL2, pxL3, pxL4, pxL5, pxL6, pxL7, pxL8, pxL9, pxL10, pxL11, pxL12, pxL13, pxL14, pxL15, pxL16, pxL17, pxL18, pxL19, pxL20, pxL21, pxL22, pxL23, pxL24, pxL25, pxL26, pxL27, pxL28, pxL29, pxL30, pxL31, pxL32, pxL33, pxL34, pxL35, pxL36, pxL37, pxL38, pxL39, pxL40, pxL41, pxL42, pxL43, pxL44, pxL45, pxL46, pxL47, pxL48, pxL49, pxL51, pxL57, pxL58, pxL59, pxL60, pxL61, pxL62, pxL63, pxL64, pxL65, pxL66, pxL67, pxL68, pxL69, pxL70, pxL71, pxL72, pxL73, pxL74, pxL75, pxL76, pxL77, pxL78, pxL79, pxL80, pxL81, pxL82, pxL83, pxL84, pxL85, pxL86, pxL87, pxL88, pxL89, pxL90, pxL91, pxL92, pxL93, pxL94, pxL95, pxL96, pxL97, pxL98, pxL99, pxL100, pxL101, pxL102, pxL103, pxL104, pxL105, pxL106, pxL107, pxL108, pxL109, pxL110, pxL111, pxL112, pxL113, pxL114, pxL115, pxL116, pxL117, pxL118, pxL119, pxL120, pxL121, pxL122, pxL123, pxL124, pxL125, pxL126, pxL200, pxL240, pxL287, pxL388, pxL400, pxL429, pxL431, pxL440, pxL1240, pxL1600, pxL1681, pxL12028, pxL13849, pxL14880, pxL25173, pxL26908, pxL49600, pxL65535, pxL65536, ↓reduceIte, reduceCtorEq, pxJ_add, pxJ_sub, pxJ_mul, pxJ_neg, pxD_lt_t, pxD_lt_f, pxD_le_t, pxD_le_f, pxD_eq_t, pxD_eq_f, pxJ_lt, pxJ_le, pxJ_eq, px_gI, px_gR, px_pI, px_rc, px_ai, px_ar, px_si, px_ln, px_cp, pxJ_div, pxJ_b8, pxJ_byte, px_b2, px_bs, px_rb0, px_rb1, px_min, px_max, px_compare, pxW_some, jw_t_I, px_cpt, jw_r_I, px_cpr, jw_l_I, px_cpl, Option.some.injEq, t5, t1, r0, tg, oa, m14, m141, nb, e2, t52, m92]
  rw [if_neg ch]
  rw [if_pos (show (pxBHold s q T.1.length W Fr (G k)).1 = true by simpa using ch)] at e2
  -- its where holds
  have head : f_X1_doOrder h 571 (pxJ ((k : Nat) : Int)) = if pxAc s q = 103 ∨ pxAc s q = 71 ∨ pxAc s q = 123 then (if pxAc s q = 123 then g_X1_doOrder_b133 h2 (pxJ ((k : Nat) : Int)) (some (12 + 4 * k)) else ((jw_gR h2 1 (some 571) 4).bind fun v39 =>
 (jw_gR h2 1 (some 571) 7).bind fun v40 =>
 (jw_gI h2 5 (some (12 + 4 * k)) 6).bind fun v41 =>
 (jw_rc h2 4 v39).bind fun a42 =>
 jw_b2 (f_X4_holds h2 a42 v40 (1 : Int32) v41) fun w44 h43 =>
 (jw_gI h43 5 (some (12 + 4 * k)) 3).bind fun v45 =>
 if v45 = (103 : Int32) then (g_X1_doOrder_b130 h43 (pxJ ((k : Nat) : Int)) (some (12 + 4 * k)) w44 (1 : Int32))
 else (g_X1_doOrder_b130 h43 (pxJ ((k : Nat) : Int)) (some (12 + 4 * k)) w44 (0 : Int32)))) else if pxSteer (pxAc s q) = true then jw_b2 (f_X1_steer h2 571 (some (12 + 4 * k))) (fun w36 h35 => some (w36, h35)) else jw_b2 (f_X1_doOne h2 571 (some (12 + 4 * k))) (fun _ h27 => (jw_gI h27 1 (some 571) 16).bind fun v29 =>
 if v29 = 0 then ((jw_gI h27 5 (some (12 + 4 * k)) 9).bind fun v31 =>
 g_X1_doOrder_b193 h27 v31)
 else ((jw_gR h27 1 (some 571) 0).bind fun v32 =>
 (jw_gI h27 6 v32 6).bind fun v33 =>
 g_X1_doOrder_b193 h27 v33)) := by
    unfold f_X1_doOrder
    have rc := pxP_in OC.2.2.1.2.2.2.2.1 (pxWh s q).2.1
    have rA : -1 ≤ pxAc s q ∧ pxAc s q ≤ 126 := by unfold pxAc; omega
    clear PR OC PS BG H H1 OC1 GM1 bad F1 F1' e OC2 PR2 H2 BG2 F12 F2 GM2 ch rc
    by_cases c1 : pxAc s q = 103 ∨ pxAc s q = 71 ∨ pxAc s q = 123
    · rw [if_pos c1] at ho ⊢
      by_cases c2 : pxAc s q = 123
      · rw [if_pos c2]
        simp (maxSteps := 4000000) (disch := first | assumption | omega | (simp only [jw_t_I, px_cpt, t5]; done) | (simp only [jw_t_I, px_cpt, t5]; omega)) only [pxL0, pxL1, pxL2, pxL3, pxL4, pxL5, pxL6, pxL7, pxL8, pxL9, pxL10, pxL11, pxL12, pxL13, pxL14, pxL15, pxL16, pxL17, pxL18, pxL19, pxL20, pxL21, pxL22, pxL23, pxL24, pxL25, pxL26, pxL27, pxL28, pxL29, pxL30, pxL31, pxL32, pxL33, pxL34, pxL35, pxL36, pxL37, pxL38, pxL39, pxL40, pxL41, pxL42, pxL43, pxL44, pxL45, pxL46, pxL47, pxL48, pxL49, pxL51, pxL57, pxL58, pxL59, pxL60, pxL61, pxL62, pxL63, pxL64, pxL65, pxL66, pxL67, pxL68, pxL69, pxL70, pxL71, pxL72, pxL73, pxL74, pxL75, pxL76, pxL77, pxL78, pxL79, pxL80, pxL81, pxL82, pxL83, pxL84, pxL85, pxL86, pxL87, pxL88, pxL89, pxL90, pxL91, pxL92, pxL93, pxL94, pxL95, pxL96, pxL97, pxL98, pxL99, pxL100, pxL101, pxL102, pxL103, pxL104, pxL105, pxL106, pxL107, pxL108, pxL109, pxL110, pxL111, pxL112, pxL113, pxL114, pxL115, pxL116, pxL117, pxL118, pxL119, pxL120, pxL121, pxL122, pxL123, pxL124, pxL125, pxL126, pxL200, pxL240, pxL287, pxL388, pxL400, pxL429, pxL431, pxL440, pxL1240, pxL1600, pxL1681, pxL12028, pxL13849, pxL14880, pxL25173, pxL26908, pxL49600, pxL65535, pxL65536, ↓reduceIte, reduceCtorEq, pxJ_add, pxJ_sub, pxJ_mul, pxJ_neg, pxD_lt_t, pxD_lt_f, pxD_le_t, pxD_le_f, pxD_eq_t, pxD_eq_f, pxJ_lt, pxJ_le, pxJ_eq, px_gI, px_gR, px_pI, px_rc, px_ai, px_ar, px_si, px_ln, px_cp, pxJ_div, pxJ_b8, pxJ_byte, px_b2, px_bs, px_rb0, px_rb1, px_min, px_max, px_compare, pxW_some, jw_t_I, px_cpt, jw_r_I, px_cpr, jw_l_I, px_cpl, Option.some.injEq, t5, t1, r0, tg, oa, m14, m141, nb, e2, t52, ho, f32, c2]
      · rw [if_neg c2]
        simp (maxSteps := 4000000) (disch := first | assumption | omega | (simp only [jw_t_I, px_cpt, t5]; done) | (simp only [jw_t_I, px_cpt, t5]; omega)) only [pxL0, pxL1, pxL2, pxL3, pxL4, pxL5, pxL6, pxL7, pxL8, pxL9, pxL10, pxL11, pxL12, pxL13, pxL14, pxL15, pxL16, pxL17, pxL18, pxL19, pxL20, pxL21, pxL22, pxL23, pxL24, pxL25, pxL26, pxL27, pxL28, pxL29, pxL30, pxL31, pxL32, pxL33, pxL34, pxL35, pxL36, pxL37, pxL38, pxL39, pxL40, pxL41, pxL42, pxL43, pxL44, pxL45, pxL46, pxL47, pxL48, pxL49, pxL51, pxL57, pxL58, pxL59, pxL60, pxL61, pxL62, pxL63, pxL64, pxL65, pxL66, pxL67, pxL68, pxL69, pxL70, pxL71, pxL72, pxL73, pxL74, pxL75, pxL76, pxL77, pxL78, pxL79, pxL80, pxL81, pxL82, pxL83, pxL84, pxL85, pxL86, pxL87, pxL88, pxL89, pxL90, pxL91, pxL92, pxL93, pxL94, pxL95, pxL96, pxL97, pxL98, pxL99, pxL100, pxL101, pxL102, pxL103, pxL104, pxL105, pxL106, pxL107, pxL108, pxL109, pxL110, pxL111, pxL112, pxL113, pxL114, pxL115, pxL116, pxL117, pxL118, pxL119, pxL120, pxL121, pxL122, pxL123, pxL124, pxL125, pxL126, pxL200, pxL240, pxL287, pxL388, pxL400, pxL429, pxL431, pxL440, pxL1240, pxL1600, pxL1681, pxL12028, pxL13849, pxL14880, pxL25173, pxL26908, pxL49600, pxL65535, pxL65536, ↓reduceIte, reduceCtorEq, pxJ_add, pxJ_sub, pxJ_mul, pxJ_neg, pxD_lt_t, pxD_lt_f, pxD_le_t, pxD_le_f, pxD_eq_t, pxD_eq_f, pxJ_lt, pxJ_le, pxJ_eq, px_gI, px_gR, px_pI, px_rc, px_ai, px_ar, px_si, px_ln, px_cp, pxJ_div, pxJ_b8, pxJ_byte, px_b2, px_bs, px_rb0, px_rb1, px_min, px_max, px_compare, pxW_some, jw_t_I, px_cpt, jw_r_I, px_cpr, jw_l_I, px_cpl, Option.some.injEq, t5, t1, r0, tg, oa, m14, m141, nb, e2, t52, ho, f32]
    · rw [if_neg c1] at ho ⊢
      by_cases c2 : pxSteer (pxAc s q) = true
      · rw [if_pos c2] at sq ⊢
        simp (maxSteps := 4000000) (disch := first | assumption | omega | (simp only [jw_t_I, px_cpt, t5]; done) | (simp only [jw_t_I, px_cpt, t5]; omega)) only [pxL0, pxL1, pxL2, pxL3, pxL4, pxL5, pxL6, pxL7, pxL8, pxL9, pxL10, pxL11, pxL12, pxL13, pxL14, pxL15, pxL16, pxL17, pxL18, pxL19, pxL20, pxL21, pxL22, pxL23, pxL24, pxL25, pxL26, pxL27, pxL28, pxL29, pxL30, pxL31, pxL32, pxL33, pxL34, pxL35, pxL36, pxL37, pxL38, pxL39, pxL40, pxL41, pxL42, pxL43, pxL44, pxL45, pxL46, pxL47, pxL48, pxL49, pxL51, pxL57, pxL58, pxL59, pxL60, pxL61, pxL62, pxL63, pxL64, pxL65, pxL66, pxL67, pxL68, pxL69, pxL70, pxL71, pxL72, pxL73, pxL74, pxL75, pxL76, pxL77, pxL78, pxL79, pxL80, pxL81, pxL82, pxL83, pxL84, pxL85, pxL86, pxL87, pxL88, pxL89, pxL90, pxL91, pxL92, pxL93, pxL94, pxL95, pxL96, pxL97, pxL98, pxL99, pxL100, pxL101, pxL102, pxL103, pxL104, pxL105, pxL106, pxL107, pxL108, pxL109, pxL110, pxL111, pxL112, pxL113, pxL114, pxL115, pxL116, pxL117, pxL118, pxL119, pxL120, pxL121, pxL122, pxL123, pxL124, pxL125, pxL126, pxL200, pxL240, pxL287, pxL388, pxL400, pxL429, pxL431, pxL440, pxL1240, pxL1600, pxL1681, pxL12028, pxL13849, pxL14880, pxL25173, pxL26908, pxL49600, pxL65535, pxL65536, ↓reduceIte, reduceCtorEq, pxJ_add, pxJ_sub, pxJ_mul, pxJ_neg, pxD_lt_t, pxD_lt_f, pxD_le_t, pxD_le_f, pxD_eq_t, pxD_eq_f, pxJ_lt, pxJ_le, pxJ_eq, px_gI, px_gR, px_pI, px_rc, px_ai, px_ar, px_si, px_ln, px_cp, pxJ_div, pxJ_b8, pxJ_byte, px_b2, px_bs, px_rb0, px_rb1, px_min, px_max, px_compare, pxW_some, jw_t_I, px_cpt, jw_r_I, px_cpr, jw_l_I, px_cpl, Option.some.injEq, t5, t1, r0, tg, oa, m14, m141, nb, e2, t52, t12, ho, sq]
      · rw [if_neg c2] at sq ⊢
        simp (maxSteps := 4000000) (disch := first | assumption | omega | (simp only [jw_t_I, px_cpt, t5]; done) | (simp only [jw_t_I, px_cpt, t5]; omega)) only [pxL0, pxL1, pxL2, pxL3, pxL4, pxL5, pxL6, pxL7, pxL8, pxL9, pxL10, pxL11, pxL12, pxL13, pxL14, pxL15, pxL16, pxL17, pxL18, pxL19, pxL20, pxL21, pxL22, pxL23, pxL24, pxL25, pxL26, pxL27, pxL28, pxL29, pxL30, pxL31, pxL32, pxL33, pxL34, pxL35, pxL36, pxL37, pxL38, pxL39, pxL40, pxL41, pxL42, pxL43, pxL44, pxL45, pxL46, pxL47, pxL48, pxL49, pxL51, pxL57, pxL58, pxL59, pxL60, pxL61, pxL62, pxL63, pxL64, pxL65, pxL66, pxL67, pxL68, pxL69, pxL70, pxL71, pxL72, pxL73, pxL74, pxL75, pxL76, pxL77, pxL78, pxL79, pxL80, pxL81, pxL82, pxL83, pxL84, pxL85, pxL86, pxL87, pxL88, pxL89, pxL90, pxL91, pxL92, pxL93, pxL94, pxL95, pxL96, pxL97, pxL98, pxL99, pxL100, pxL101, pxL102, pxL103, pxL104, pxL105, pxL106, pxL107, pxL108, pxL109, pxL110, pxL111, pxL112, pxL113, pxL114, pxL115, pxL116, pxL117, pxL118, pxL119, pxL120, pxL121, pxL122, pxL123, pxL124, pxL125, pxL126, pxL200, pxL240, pxL287, pxL388, pxL400, pxL429, pxL431, pxL440, pxL1240, pxL1600, pxL1681, pxL12028, pxL13849, pxL14880, pxL25173, pxL26908, pxL49600, pxL65535, pxL65536, ↓reduceIte, reduceCtorEq, pxJ_add, pxJ_sub, pxJ_mul, pxJ_neg, pxD_lt_t, pxD_lt_f, pxD_le_t, pxD_le_f, pxD_eq_t, pxD_eq_f, pxJ_lt, pxJ_le, pxJ_eq, px_gI, px_gR, px_pI, px_rc, px_ai, px_ar, px_si, px_ln, px_cp, pxJ_div, pxJ_b8, pxJ_byte, px_b2, px_bs, px_rb0, px_rb1, px_min, px_max, px_compare, pxW_some, jw_t_I, px_cpt, jw_r_I, px_cpr, jw_l_I, px_cpl, Option.some.injEq, t5, t1, r0, tg, oa, m14, m141, nb, e2, t52, t12, ho, sq]
  rw [head]
  by_cases c1 : pxAc s q = 103 ∨ pxAc s q = 71 ∨ pxAc s q = 123
  · rw [if_pos c1, if_pos c1]
    by_cases c2 : pxAc s q = 123
    · rw [if_pos c2, if_pos (Or.inl c2)]
      refine ⟨pxJ (((k + 1 : Nat) : Nat) : Int), h2, ?_, F12, m142, m152, ⟨_, H2⟩, fun _ => ⟨rfl, H2, BG2, m182, m192⟩⟩
      unfold g_X1_doOrder_b133 g_X1_doOrder_b138 g_X1_doOrder_b153
      rw [show (((k + 1 : Nat) : Nat) : Int) = (k : Int) + 1 by omega]
      clear PR OC PS BG H H1 OC1 GM1 bad F1 F1' e OC2 PR2 H2 BG2 F12 F2 GM2 head
      simp (maxSteps := 4000000) (disch := first | assumption | omega | (simp only [jw_t_I, px_cpt]; done) | (simp only [jw_t_I, px_cpt]; omega)) only [pxL0, pxL1, pxL2, pxL3, pxL4, pxL5, pxL6, pxL7, pxL8, pxL9, pxL10, pxL11, pxL12, pxL13, pxL14, pxL15, pxL16, pxL17, pxL18, pxL19, pxL20, pxL21, pxL22, pxL23, pxL24, pxL25, pxL26, pxL27, pxL28, pxL29, pxL30, pxL31, pxL32, pxL33, pxL34, pxL35, pxL36, pxL37, pxL38, pxL39, pxL40, pxL41, pxL42, pxL43, pxL44, pxL45, pxL46, pxL47, pxL48, pxL49, pxL51, pxL57, pxL58, pxL59, pxL60, pxL61, pxL62, pxL63, pxL64, pxL65, pxL66, pxL67, pxL68, pxL69, pxL70, pxL71, pxL72, pxL73, pxL74, pxL75, pxL76, pxL77, pxL78, pxL79, pxL80, pxL81, pxL82, pxL83, pxL84, pxL85, pxL86, pxL87, pxL88, pxL89, pxL90, pxL91, pxL92, pxL93, pxL94, pxL95, pxL96, pxL97, pxL98, pxL99, pxL100, pxL101, pxL102, pxL103, pxL104, pxL105, pxL106, pxL107, pxL108, pxL109, pxL110, pxL111, pxL112, pxL113, pxL114, pxL115, pxL116, pxL117, pxL118, pxL119, pxL120, pxL121, pxL122, pxL123, pxL124, pxL125, pxL126, pxL200, pxL240, pxL287, pxL388, pxL400, pxL429, pxL431, pxL440, pxL1240, pxL1600, pxL1681, pxL12028, pxL13849, pxL14880, pxL25173, pxL26908, pxL49600, pxL65535, pxL65536, ↓reduceIte, reduceCtorEq, pxJ_add, pxJ_sub, pxJ_mul, pxJ_neg, pxD_lt_t, pxD_lt_f, pxD_le_t, pxD_le_f, pxD_eq_t, pxD_eq_f, pxJ_lt, pxJ_le, pxJ_eq, px_gI, px_gR, px_pI, px_rc, px_ai, px_ar, px_si, px_ln, px_cp, pxJ_div, pxJ_b8, pxJ_byte, px_b2, px_bs, px_rb0, px_rb1, px_min, px_max, px_compare, pxW_some, jw_t_I, px_cpt, jw_r_I, px_cpr, jw_l_I, px_cpl, Option.some.injEq]
    · rw [if_neg c2]
      obtain ⟨hb2, hi2, PG2, O2, okw2, oka2, m72, p02, p12⟩ := id OC2
      have rc : pxP s (pxWh s q).2.1 = pxAc s q := rfl
      obtain ⟨b1', b2', b3'⟩ := O2.2.2.2.2.2.2.1 (by rw [rc]; omega)
      have okp : (pxPat s ((pxWh s q).2.1 + 2)).1 = true := by
        rcases oka2 with z | z | z
        · exact absurd (rc.symm.trans z) c2
        · have lt := pxP_lt (s := s) (p := (pxWh s q).2.1) (by omega)
          have := ((pxPtn_b (s := s) (p := (pxWh s q).2.1 + 1) (by omega) (by omega)).2.2 z.2).2.1
          rw [show (pxWh s q).2.1 + 1 + 1 = (pxWh s q).2.1 + 2 by omega] at this
          exact this
        · exact absurd (show pxP s (pxWh s q).2.1 = 123 ∨ pxP s (pxWh s q).2.1 = 103 ∨ pxP s (pxWh s q).2.1 = 71 by omega) z.1
      have wf := pxFull_w okp
      obtain ⟨a1, a2, -, -, -, -, ⟨-, -, -, -, -, b6, -⟩, -⟩ := pxBS_i.mp H2
      obtain ⟨h3, v1, v2, -⟩ := s_X4_holds (ρ := 578) (x := 1) (by omega) (by omega) a2 b6 (by omega) (by show (1 : Int) ≤ ((1 : Nat) : Int); omega) wf.1 (⟨PG2.1, rfl, m72, b1', b2', b3'⟩ : pxPE h2 s (pxM h2 (12 + 4 * k) 6) (pxM h2 10 7) (pxFull s ((pxWh s q).2.1 + 2)))
      have rw1 : pxRw [W.2.2.2.2.2.1] 1 = W.2.2.2.2.2.1 := rfl
      rw [rw1] at v1
      have F13 : pxF pxQD h h3 := F12.trans (v2.mono (fun k f z => by unfold pxQx at z; unfold pxQD pxQB; omega))
      have H3 := H2.fr v2 (fun k f z => by unfold pxQx; omega)
      have BG3 := BG2.fr v2 (fun j f jn => by unfold pxQx; omega)
      have m93 : pxM h3 (12 + 4 * k) 9 = nx := by rw [v2.m (by unfold pxQx; omega)]; exact m92
      have f33 : pxM h3 (12 + 4 * k) 3 = pxAc s q := by rw [v2.m (by unfold pxQx; omega)]; exact f32
      have t53 : (jw_t h3 (12 + 4 * k)).1 = 5 := by rw [v2.t]; exact t52
      have t4 := a2.1
      have r4 := a1.2.2.2.2.2.1
      have r7 := a1.2.2.2.2.2.2.2.2.1
      refine ⟨pxJ (((if pxAc s q = 123 ∨ (pxHolds s (pxFull s ((pxWh s q).2.1 + 2)) W.2.2.2.2.2.1 = decide (pxAc s q = 103)) then k + 1 else nx : Nat) : Nat) : Int), h3, ?_, F13, by rw [v2.m (by unfold pxQx; omega)]; exact m142, by rw [v2.m (by unfold pxQx; omega)]; exact m152, ⟨_, H3⟩, fun _ => ⟨rfl, H3, BG3, by rw [v2.m (by unfold pxQx; omega)]; exact m182, by rw [v2.m (by unfold pxQx; omega)]; exact m192⟩⟩
      unfold g_X1_doOrder_b130 g_X1_doOrder_b133 g_X1_doOrder_b138 g_X1_doOrder_b153
      rw [show (1 : Int32) = pxJ 1 from rfl]
      have k1 : (((k + 1 : Nat) : Nat) : Int) = (k : Int) + 1 := by omega
      clear PR OC PS BG H H1 OC1 GM1 bad F1 F1' e OC2 PR2 H2 BG2 F12 F2 GM2 head b6 H3 BG3 F13 v2 wf okp O2 oka2 okw2 PG2 b1' b2' b3' ho sq
      rcases (show pxAc s q = 103 ∨ pxAc s q = 71 by omega) with z | z
      · rw [decide_eq_true z]
        cases hx : pxHolds s (pxFull s ((pxWh s q).2.1 + 2)) W.2.2.2.2.2.1 with
        | true =>
          rw [if_pos (Or.inr rfl), k1]
          rw [hx, if_pos rfl] at v1
          simp (maxSteps := 4000000) (disch := first | assumption | omega | (simp only [jw_t_I, px_cpt, t52, t53]; done) | (simp only [jw_t_I, px_cpt, t52, t53]; omega)) only [pxL0, pxL1, pxL2, pxL3, pxL4, pxL5, pxL6, pxL7, pxL8, pxL9, pxL10, pxL11, pxL12, pxL13, pxL14, pxL15, pxL16, pxL17, pxL18, pxL19, pxL20, pxL21, pxL22, pxL23, pxL24, pxL25, pxL26, pxL27, pxL28, pxL29, pxL30, pxL31, pxL32, pxL33, pxL34, pxL35, pxL36, pxL37, pxL38, pxL39, pxL40, pxL41, pxL42, pxL43, pxL44, pxL45, pxL46, pxL47, pxL48, pxL49, pxL51, pxL57, pxL58, pxL59, pxL60, pxL61, pxL62, pxL63, pxL64, pxL65, pxL66, pxL67, pxL68, pxL69, pxL70, pxL71, pxL72, pxL73, pxL74, pxL75, pxL76, pxL77, pxL78, pxL79, pxL80, pxL81, pxL82, pxL83, pxL84, pxL85, pxL86, pxL87, pxL88, pxL89, pxL90, pxL91, pxL92, pxL93, pxL94, pxL95, pxL96, pxL97, pxL98, pxL99, pxL100, pxL101, pxL102, pxL103, pxL104, pxL105, pxL106, pxL107, pxL108, pxL109, pxL110, pxL111, pxL112, pxL113, pxL114, pxL115, pxL116, pxL117, pxL118, pxL119, pxL120, pxL121, pxL122, pxL123, pxL124, pxL125, pxL126, pxL200, pxL240, pxL287, pxL388, pxL400, pxL429, pxL431, pxL440, pxL1240, pxL1600, pxL1681, pxL12028, pxL13849, pxL14880, pxL25173, pxL26908, pxL49600, pxL65535, pxL65536, ↓reduceIte, reduceCtorEq, pxJ_add, pxJ_sub, pxJ_mul, pxJ_neg, pxD_lt_t, pxD_lt_f, pxD_le_t, pxD_le_f, pxD_eq_t, pxD_eq_f, pxJ_lt, pxJ_le, pxJ_eq, px_gI, px_gR, px_pI, px_rc, px_ai, px_ar, px_si, px_ln, px_cp, pxJ_div, pxJ_b8, pxJ_byte, px_b2, px_bs, px_rb0, px_rb1, px_min, px_max, px_compare, pxW_some, jw_t_I, px_cpt, jw_r_I, px_cpr, jw_l_I, px_cpl, Option.some.injEq, t52, t53, t12, r4, r7, t4, v1, f33, z, m93]
        | false =>
          rw [if_neg (by rintro (y | y); · exact c2 y
                         · cases y)]
          rw [hx, if_neg (by decide)] at v1
          simp (maxSteps := 4000000) (disch := first | assumption | omega | (simp only [jw_t_I, px_cpt, t52, t53]; done) | (simp only [jw_t_I, px_cpt, t52, t53]; omega)) only [pxL0, pxL1, pxL2, pxL3, pxL4, pxL5, pxL6, pxL7, pxL8, pxL9, pxL10, pxL11, pxL12, pxL13, pxL14, pxL15, pxL16, pxL17, pxL18, pxL19, pxL20, pxL21, pxL22, pxL23, pxL24, pxL25, pxL26, pxL27, pxL28, pxL29, pxL30, pxL31, pxL32, pxL33, pxL34, pxL35, pxL36, pxL37, pxL38, pxL39, pxL40, pxL41, pxL42, pxL43, pxL44, pxL45, pxL46, pxL47, pxL48, pxL49, pxL51, pxL57, pxL58, pxL59, pxL60, pxL61, pxL62, pxL63, pxL64, pxL65, pxL66, pxL67, pxL68, pxL69, pxL70, pxL71, pxL72, pxL73, pxL74, pxL75, pxL76, pxL77, pxL78, pxL79, pxL80, pxL81, pxL82, pxL83, pxL84, pxL85, pxL86, pxL87, pxL88, pxL89, pxL90, pxL91, pxL92, pxL93, pxL94, pxL95, pxL96, pxL97, pxL98, pxL99, pxL100, pxL101, pxL102, pxL103, pxL104, pxL105, pxL106, pxL107, pxL108, pxL109, pxL110, pxL111, pxL112, pxL113, pxL114, pxL115, pxL116, pxL117, pxL118, pxL119, pxL120, pxL121, pxL122, pxL123, pxL124, pxL125, pxL126, pxL200, pxL240, pxL287, pxL388, pxL400, pxL429, pxL431, pxL440, pxL1240, pxL1600, pxL1681, pxL12028, pxL13849, pxL14880, pxL25173, pxL26908, pxL49600, pxL65535, pxL65536, ↓reduceIte, reduceCtorEq, pxJ_add, pxJ_sub, pxJ_mul, pxJ_neg, pxD_lt_t, pxD_lt_f, pxD_le_t, pxD_le_f, pxD_eq_t, pxD_eq_f, pxJ_lt, pxJ_le, pxJ_eq, px_gI, px_gR, px_pI, px_rc, px_ai, px_ar, px_si, px_ln, px_cp, pxJ_div, pxJ_b8, pxJ_byte, px_b2, px_bs, px_rb0, px_rb1, px_min, px_max, px_compare, pxW_some, jw_t_I, px_cpt, jw_r_I, px_cpr, jw_l_I, px_cpl, Option.some.injEq, t52, t53, t12, r4, r7, t4, v1, f33, z, m93]
      · rw [decide_eq_false (show ¬ pxAc s q = 103 by omega)]
        cases hx : pxHolds s (pxFull s ((pxWh s q).2.1 + 2)) W.2.2.2.2.2.1 with
        | true =>
          rw [if_neg (by rintro (y | y); · exact c2 y
                         · cases y)]
          rw [hx, if_pos rfl] at v1
          simp (maxSteps := 4000000) (disch := first | assumption | omega | (simp only [jw_t_I, px_cpt, t52, t53]; done) | (simp only [jw_t_I, px_cpt, t52, t53]; omega)) only [pxL0, pxL1, pxL2, pxL3, pxL4, pxL5, pxL6, pxL7, pxL8, pxL9, pxL10, pxL11, pxL12, pxL13, pxL14, pxL15, pxL16, pxL17, pxL18, pxL19, pxL20, pxL21, pxL22, pxL23, pxL24, pxL25, pxL26, pxL27, pxL28, pxL29, pxL30, pxL31, pxL32, pxL33, pxL34, pxL35, pxL36, pxL37, pxL38, pxL39, pxL40, pxL41, pxL42, pxL43, pxL44, pxL45, pxL46, pxL47, pxL48, pxL49, pxL51, pxL57, pxL58, pxL59, pxL60, pxL61, pxL62, pxL63, pxL64, pxL65, pxL66, pxL67, pxL68, pxL69, pxL70, pxL71, pxL72, pxL73, pxL74, pxL75, pxL76, pxL77, pxL78, pxL79, pxL80, pxL81, pxL82, pxL83, pxL84, pxL85, pxL86, pxL87, pxL88, pxL89, pxL90, pxL91, pxL92, pxL93, pxL94, pxL95, pxL96, pxL97, pxL98, pxL99, pxL100, pxL101, pxL102, pxL103, pxL104, pxL105, pxL106, pxL107, pxL108, pxL109, pxL110, pxL111, pxL112, pxL113, pxL114, pxL115, pxL116, pxL117, pxL118, pxL119, pxL120, pxL121, pxL122, pxL123, pxL124, pxL125, pxL126, pxL200, pxL240, pxL287, pxL388, pxL400, pxL429, pxL431, pxL440, pxL1240, pxL1600, pxL1681, pxL12028, pxL13849, pxL14880, pxL25173, pxL26908, pxL49600, pxL65535, pxL65536, ↓reduceIte, reduceCtorEq, pxJ_add, pxJ_sub, pxJ_mul, pxJ_neg, pxD_lt_t, pxD_lt_f, pxD_le_t, pxD_le_f, pxD_eq_t, pxD_eq_f, pxJ_lt, pxJ_le, pxJ_eq, px_gI, px_gR, px_pI, px_rc, px_ai, px_ar, px_si, px_ln, px_cp, pxJ_div, pxJ_b8, pxJ_byte, px_b2, px_bs, px_rb0, px_rb1, px_min, px_max, px_compare, pxW_some, jw_t_I, px_cpt, jw_r_I, px_cpr, jw_l_I, px_cpl, Option.some.injEq, t52, t53, t12, r4, r7, t4, v1, f33, z, m93]
        | false =>
          rw [if_pos (Or.inr rfl), k1]
          rw [hx, if_neg (by decide)] at v1
          simp (maxSteps := 4000000) (disch := first | assumption | omega | (simp only [jw_t_I, px_cpt, t52, t53]; done) | (simp only [jw_t_I, px_cpt, t52, t53]; omega)) only [pxL0, pxL1, pxL2, pxL3, pxL4, pxL5, pxL6, pxL7, pxL8, pxL9, pxL10, pxL11, pxL12, pxL13, pxL14, pxL15, pxL16, pxL17, pxL18, pxL19, pxL20, pxL21, pxL22, pxL23, pxL24, pxL25, pxL26, pxL27, pxL28, pxL29, pxL30, pxL31, pxL32, pxL33, pxL34, pxL35, pxL36, pxL37, pxL38, pxL39, pxL40, pxL41, pxL42, pxL43, pxL44, pxL45, pxL46, pxL47, pxL48, pxL49, pxL51, pxL57, pxL58, pxL59, pxL60, pxL61, pxL62, pxL63, pxL64, pxL65, pxL66, pxL67, pxL68, pxL69, pxL70, pxL71, pxL72, pxL73, pxL74, pxL75, pxL76, pxL77, pxL78, pxL79, pxL80, pxL81, pxL82, pxL83, pxL84, pxL85, pxL86, pxL87, pxL88, pxL89, pxL90, pxL91, pxL92, pxL93, pxL94, pxL95, pxL96, pxL97, pxL98, pxL99, pxL100, pxL101, pxL102, pxL103, pxL104, pxL105, pxL106, pxL107, pxL108, pxL109, pxL110, pxL111, pxL112, pxL113, pxL114, pxL115, pxL116, pxL117, pxL118, pxL119, pxL120, pxL121, pxL122, pxL123, pxL124, pxL125, pxL126, pxL200, pxL240, pxL287, pxL388, pxL400, pxL429, pxL431, pxL440, pxL1240, pxL1600, pxL1681, pxL12028, pxL13849, pxL14880, pxL25173, pxL26908, pxL49600, pxL65535, pxL65536, ↓reduceIte, reduceCtorEq, pxJ_add, pxJ_sub, pxJ_mul, pxJ_neg, pxD_lt_t, pxD_lt_f, pxD_le_t, pxD_le_f, pxD_eq_t, pxD_eq_f, pxJ_lt, pxJ_le, pxJ_eq, px_gI, px_gR, px_pI, px_rc, px_ai, px_ar, px_si, px_ln, px_cp, pxJ_div, pxJ_b8, pxJ_byte, px_b2, px_bs, px_rb0, px_rb1, px_min, px_max, px_compare, pxW_some, jw_t_I, px_cpt, jw_r_I, px_cpr, jw_l_I, px_cpl, Option.some.injEq, t52, t53, t12, r4, r7, t4, v1, f33, z, m93]
  rw [if_neg c1, if_neg c1]
  by_cases c2 : pxSteer (pxAc s q) = true
  · rw [if_pos c2, if_pos c2]
    obtain ⟨v3, h3, e3, F3, m3, vv, H3, m183, m193⟩ := s_X1_steer PR2 e c2 H2 m152 m182 m192
    refine ⟨v3, h3, by rw [e3, px_b2], F12.trans (F3.mono (fun k f z => by unfold pxQE at z; unfold pxQD pxQB; omega)), by rw [F3.m (by unfold pxQE; omega)]; exact m142, m3, ⟨_, H3⟩, fun z => ⟨vv z, H3, BG2.fr F3 (fun j f jn => by unfold pxQE; omega), m183, m193⟩⟩
  · rw [if_neg c2, if_neg c2]
    have nbi : ¬ (pxAc s q = 108 ∨ pxAc s q = 111 ∨ pxAc s q = 79 ∨ pxAc s q = 109 ∨ pxAc s q = 116) := fun z => cb (by unfold pxBar; rw [decide_eq_true z]; rfl)
    have n3 : ¬ (pxAc s q = 123 ∨ pxAc s q = 103 ∨ pxAc s q = 71) := fun z => c1 (by omega)
    have over2 : pxM h2 (12 + 4 * k) 12 = if (pxBHold s q T.1.length W Fr (G k)).2.2.2.1 = true then 1 else 0 := GM2.2.2.1
    obtain ⟨u3, h3, e3, F3, m3, β', H3, eb⟩ := s_X1_doOne (OC2.co n3) H2 m152 OC2.2.2.2.1.1 over2 c2 n3 nbi
    have F13 : pxF pxQD h h3 := F12.trans (F3.mono (fun k f z => Or.inl z))
    have BG3 := BG2.fr F3 (fun j f jn => by unfold pxQB; omega)
    have PR3 := PR.fo F13 (fun k' f y z => by unfold pxQD pxQB at z; omega)
    obtain ⟨OC3, m93, -, -⟩ := PR3.fl e
    have t53 : (jw_t h3 (12 + 4 * k)).1 = 5 := by rw [F13.t]; exact t5
    have t13 := H3.1.1
    have r03 := H3.1.2.1
    have tg3 : (jw_t h3 10).1 = 6 := by rw [F13.t]; exact tg
    have m63 := PR3.2.2.2.1
    have g16 : pxM h3 571 16 = if β'.1.2.2.2.2.1 = true then 1 else 0 := H3.2.2.2.2.2.2.1.2.2.2.2.1
    refine ⟨pxJ (((if β'.1.2.2.2.2.1 = true then pxCnt L else nx : Nat) : Nat) : Int), h3, ?_, F13, by rw [F3.m (by unfold pxQB; omega)]; exact m142, m3, ⟨β', H3⟩, fun z => ?_⟩
    · rw [e3, px_b2]
      unfold g_X1_doOrder_b193
      clear PR OC PS BG H H1 OC1 GM1 bad F1 F1' e OC2 PR2 H2 BG2 F12 F2 GM2 head BG3 PR3 OC3 F13 F3 H3 eb over2
      by_cases g : β'.1.2.2.2.2.1 = true
      · rw [if_pos g] at g16 ⊢
        simp (maxSteps := 4000000) (disch := first | assumption | omega | (simp only [jw_t_I, px_cpt, t53]; done) | (simp only [jw_t_I, px_cpt, t53]; omega)) only [pxL0, pxL1, pxL2, pxL3, pxL4, pxL5, pxL6, pxL7, pxL8, pxL9, pxL10, pxL11, pxL12, pxL13, pxL14, pxL15, pxL16, pxL17, pxL18, pxL19, pxL20, pxL21, pxL22, pxL23, pxL24, pxL25, pxL26, pxL27, pxL28, pxL29, pxL30, pxL31, pxL32, pxL33, pxL34, pxL35, pxL36, pxL37, pxL38, pxL39, pxL40, pxL41, pxL42, pxL43, pxL44, pxL45, pxL46, pxL47, pxL48, pxL49, pxL51, pxL57, pxL58, pxL59, pxL60, pxL61, pxL62, pxL63, pxL64, pxL65, pxL66, pxL67, pxL68, pxL69, pxL70, pxL71, pxL72, pxL73, pxL74, pxL75, pxL76, pxL77, pxL78, pxL79, pxL80, pxL81, pxL82, pxL83, pxL84, pxL85, pxL86, pxL87, pxL88, pxL89, pxL90, pxL91, pxL92, pxL93, pxL94, pxL95, pxL96, pxL97, pxL98, pxL99, pxL100, pxL101, pxL102, pxL103, pxL104, pxL105, pxL106, pxL107, pxL108, pxL109, pxL110, pxL111, pxL112, pxL113, pxL114, pxL115, pxL116, pxL117, pxL118, pxL119, pxL120, pxL121, pxL122, pxL123, pxL124, pxL125, pxL126, pxL200, pxL240, pxL287, pxL388, pxL400, pxL429, pxL431, pxL440, pxL1240, pxL1600, pxL1681, pxL12028, pxL13849, pxL14880, pxL25173, pxL26908, pxL49600, pxL65535, pxL65536, ↓reduceIte, reduceCtorEq, pxJ_add, pxJ_sub, pxJ_mul, pxJ_neg, pxD_lt_t, pxD_lt_f, pxD_le_t, pxD_le_f, pxD_eq_t, pxD_eq_f, pxJ_lt, pxJ_le, pxJ_eq, px_gI, px_gR, px_pI, px_rc, px_ai, px_ar, px_si, px_ln, px_cp, pxJ_div, pxJ_b8, pxJ_byte, px_b2, px_bs, px_rb0, px_rb1, px_min, px_max, px_compare, pxW_some, jw_t_I, px_cpt, jw_r_I, px_cpr, jw_l_I, px_cpl, Option.some.injEq, t53, t13, g16, r03, tg3, m63]
      · rw [if_neg g] at g16 ⊢
        simp (maxSteps := 4000000) (disch := first | assumption | omega | (simp only [jw_t_I, px_cpt, t53]; done) | (simp only [jw_t_I, px_cpt, t53]; omega)) only [pxL0, pxL1, pxL2, pxL3, pxL4, pxL5, pxL6, pxL7, pxL8, pxL9, pxL10, pxL11, pxL12, pxL13, pxL14, pxL15, pxL16, pxL17, pxL18, pxL19, pxL20, pxL21, pxL22, pxL23, pxL24, pxL25, pxL26, pxL27, pxL28, pxL29, pxL30, pxL31, pxL32, pxL33, pxL34, pxL35, pxL36, pxL37, pxL38, pxL39, pxL40, pxL41, pxL42, pxL43, pxL44, pxL45, pxL46, pxL47, pxL48, pxL49, pxL51, pxL57, pxL58, pxL59, pxL60, pxL61, pxL62, pxL63, pxL64, pxL65, pxL66, pxL67, pxL68, pxL69, pxL70, pxL71, pxL72, pxL73, pxL74, pxL75, pxL76, pxL77, pxL78, pxL79, pxL80, pxL81, pxL82, pxL83, pxL84, pxL85, pxL86, pxL87, pxL88, pxL89, pxL90, pxL91, pxL92, pxL93, pxL94, pxL95, pxL96, pxL97, pxL98, pxL99, pxL100, pxL101, pxL102, pxL103, pxL104, pxL105, pxL106, pxL107, pxL108, pxL109, pxL110, pxL111, pxL112, pxL113, pxL114, pxL115, pxL116, pxL117, pxL118, pxL119, pxL120, pxL121, pxL122, pxL123, pxL124, pxL125, pxL126, pxL200, pxL240, pxL287, pxL388, pxL400, pxL429, pxL431, pxL440, pxL1240, pxL1600, pxL1681, pxL12028, pxL13849, pxL14880, pxL25173, pxL26908, pxL49600, pxL65535, pxL65536, ↓reduceIte, reduceCtorEq, pxJ_add, pxJ_sub, pxJ_mul, pxJ_neg, pxD_lt_t, pxD_lt_f, pxD_le_t, pxD_le_f, pxD_eq_t, pxD_eq_f, pxJ_lt, pxJ_le, pxJ_eq, px_gI, px_gR, px_pI, px_rc, px_ai, px_ar, px_si, px_ln, px_cp, pxJ_div, pxJ_b8, pxJ_byte, px_b2, px_bs, px_rb0, px_rb1, px_min, px_max, px_compare, pxW_some, jw_t_I, px_cpt, jw_r_I, px_cpr, jw_l_I, px_cpl, Option.some.injEq, t53, t13, g16, m93]
    · rw [eb z]
      rw [eb z] at H3
      exact ⟨rfl, H3, BG3, by rw [F3.m (by unfold pxQB; omega)]; exact m182, by rw [F3.m (by unfold pxQB; omega)]; exact m192⟩
end
