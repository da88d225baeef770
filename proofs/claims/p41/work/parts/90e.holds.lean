/-! orders line by line: whether a where holds -/
section
variable {h : jw_H} {i : Nat} {f o : Bool}
theorem s_X1_holds_b167 (t5 : (jw_t h (12 + 4 * i)).1 = 5) (m11 : pxM h (12 + 4 * i) 11 = if f = true then 1 else 0) (m12 : pxM h (12 + 4 * i) 12 = if o = true then 1 else 0) :
    g_X1_holds_b167 h (some (12 + 4 * i)) = some (pxJ (if f = true then 1 else 0), jw_setI h (12 + 4 * i) 10 (pxJ (if (f && ! o) = true then 1 else 0))) := by
  have m11' : ∀ v, pxM (jw_setI h (12 + 4 * i) 10 v) (12 + 4 * i) 11 = pxM h (12 + 4 * i) 11 := fun v => pxM_ne (by omega)
  unfold g_X1_holds_b167 g_X1_holds_b186 g_X1_holds_b187
  cases f with
  | false =>
    have m110 : pxM h (12 + 4 * i) 11 = 0 := m11
    clear m11 m12
    show _ = some (pxJ 0, jw_setI h (12 + 4 * i) 10 (pxJ 0))
    simp (maxSteps := 4000000) (disch := first | assumption | omega | (simp only [jw_t_I, px_cpt, t5]; done) | (simp only [jw_t_I, px_cpt, t5]; omega)) only [pxL0, pxL1, pxL2, pxL3, pxL4, pxL5, pxL6, pxL7, pxL8, pxL9, pxL10, pxL11, pxL12, pxL13, pxL14, pxL15, pxL16, pxL17, pxL18, pxL19, pxL20, pxL21, pxL22, pxL23, pxL24, pxL25, pxL26, pxL27, pxL28, pxL29, pxL30, pxL31, pxL32, pxL33, pxL34, pxL35, pxL36, pxL37, pxL38, pxL39, pxL40, pxL41, pxL42, pxL43, pxL44, pxL45, pxL46, pxL47, pxL48, pxL49, pxL51, pxL57, pxL58, pxL59, pxL60, pxL61, pxL62, pxL63, pxL64, pxL65, pxL66, pxL67, pxL68, pxL69, pxL70, pxL71, pxL72, pxL73, pxL74, pxL75, pxL76, pxL77, pxL78, pxL79, pxL80, pxL81, pxL82, pxL83, pxL84, pxL85, pxL86, pxL87, pxL88, pxL89, pxL90, pxL91, pxL92, pxL93, pxL94, pxL95, pxL96, pxL97, pxL98, pxL99, pxL100, pxL101, pxL102, pxL103, pxL104, pxL105, pxL106, pxL107, pxL108, pxL109, pxL110, pxL111, pxL112, pxL113, pxL114, pxL115, pxL116, pxL117, pxL118, pxL119, pxL120, pxL121, pxL122, pxL123, pxL124, pxL125, pxL126, pxL200, pxL240, pxL287, pxL388, pxL400, pxL429, pxL431, pxL440, pxL1240, pxL1600, pxL1681, pxL12028, pxL13849, pxL14880, pxL25173, pxL26908, pxL49600, pxL65535, pxL65536, ↓reduceIte, reduceCtorEq, pxJ_add, pxJ_sub, pxJ_mul, pxJ_neg, pxD_lt_t, pxD_lt_f, pxD_le_t, pxD_le_f, pxD_eq_t, pxD_eq_f, pxJ_lt, pxJ_le, pxJ_eq, px_gI, px_gR, px_pI, px_rc, px_ai, px_ar, px_si, px_ln, px_cp, pxJ_div, pxJ_b8, pxJ_byte, px_b2, px_bs, px_rb0, px_rb1, px_min, px_max, px_compare, pxW_some, jw_t_I, px_cpt, jw_r_I, px_cpr, jw_l_I, px_cpl, Option.some.injEq, t5, m110, px_pB0, m11']
  | true =>
    have m111 : pxM h (12 + 4 * i) 11 = 1 := m11
    clear m11
    cases o with
    | false =>
      have m120 : pxM h (12 + 4 * i) 12 = 0 := m12
      clear m12
      show _ = some (pxJ 1, jw_setI h (12 + 4 * i) 10 (pxJ 1))
      simp (maxSteps := 4000000) (disch := first | assumption | omega | (simp only [jw_t_I, px_cpt, t5]; done) | (simp only [jw_t_I, px_cpt, t5]; omega)) only [pxL0, pxL1, pxL2, pxL3, pxL4, pxL5, pxL6, pxL7, pxL8, pxL9, pxL10, pxL11, pxL12, pxL13, pxL14, pxL15, pxL16, pxL17, pxL18, pxL19, pxL20, pxL21, pxL22, pxL23, pxL24, pxL25, pxL26, pxL27, pxL28, pxL29, pxL30, pxL31, pxL32, pxL33, pxL34, pxL35, pxL36, pxL37, pxL38, pxL39, pxL40, pxL41, pxL42, pxL43, pxL44, pxL45, pxL46, pxL47, pxL48, pxL49, pxL51, pxL57, pxL58, pxL59, pxL60, pxL61, pxL62, pxL63, pxL64, pxL65, pxL66, pxL67, pxL68, pxL69, pxL70, pxL71, pxL72, pxL73, pxL74, pxL75, pxL76, pxL77, pxL78, pxL79, pxL80, pxL81, pxL82, pxL83, pxL84, pxL85, pxL86, pxL87, pxL88, pxL89, pxL90, pxL91, pxL92, pxL93, pxL94, pxL95, pxL96, pxL97, pxL98, pxL99, pxL100, pxL101, pxL102, pxL103, pxL104, pxL105, pxL106, pxL107, pxL108, pxL109, pxL110, pxL111, pxL112, pxL113, pxL114, pxL115, pxL116, pxL117, pxL118, pxL119, pxL120, pxL121, pxL122, pxL123, pxL124, pxL125, pxL126, pxL200, pxL240, pxL287, pxL388, pxL400, pxL429, pxL431, pxL440, pxL1240, pxL1600, pxL1681, pxL12028, pxL13849, pxL14880, pxL25173, pxL26908, pxL49600, pxL65535, pxL65536, ↓reduceIte, reduceCtorEq, pxJ_add, pxJ_sub, pxJ_mul, pxJ_neg, pxD_lt_t, pxD_lt_f, pxD_le_t, pxD_le_f, pxD_eq_t, pxD_eq_f, pxJ_lt, pxJ_le, pxJ_eq, px_gI, px_gR, px_pI, px_rc, px_ai, px_ar, px_si, px_ln, px_cp, pxJ_div, pxJ_b8, pxJ_byte, px_b2, px_bs, px_rb0, px_rb1, px_min, px_max, px_compare, pxW_some, jw_t_I, px_cpt, jw_r_I, px_cpr, jw_l_I, px_cpl, Option.some.injEq, t5, m111, m120, px_pB1, m11']
    | true =>
      have m121 : pxM h (12 + 4 * i) 12 = 1 := m12
      clear m12
      show _ = some (pxJ 1, jw_setI h (12 + 4 * i) 10 (pxJ 0))
      simp (maxSteps := 4000000) (disch := first | assumption | omega | (simp only [jw_t_I, px_cpt, t5]; done) | (simp only [jw_t_I, px_cpt, t5]; omega)) only [pxL0, pxL1, pxL2, pxL3, pxL4, pxL5, pxL6, pxL7, pxL8, pxL9, pxL10, pxL11, pxL12, pxL13, pxL14, pxL15, pxL16, pxL17, pxL18, pxL19, pxL20, pxL21, pxL22, pxL23, pxL24, pxL25, pxL26, pxL27, pxL28, pxL29, pxL30, pxL31, pxL32, pxL33, pxL34, pxL35, pxL36, pxL37, pxL38, pxL39, pxL40, pxL41, pxL42, pxL43, pxL44, pxL45, pxL46, pxL47, pxL48, pxL49, pxL51, pxL57, pxL58, pxL59, pxL60, pxL61, pxL62, pxL63, pxL64, pxL65, pxL66, pxL67, pxL68, pxL69, pxL70, pxL71, pxL72, pxL73, pxL74, pxL75, pxL76, pxL77, pxL78, pxL79, pxL80, pxL81, pxL82, pxL83, pxL84, pxL85, pxL86, pxL87, pxL88, pxL89, pxL90, pxL91, pxL92, pxL93, pxL94, pxL95, pxL96, pxL97, pxL98, pxL99, pxL100, pxL101, pxL102, pxL103, pxL104, pxL105, pxL106, pxL107, pxL108, pxL109, pxL110, pxL111, pxL112, pxL113, pxL114, pxL115, pxL116, pxL117, pxL118, pxL119, pxL120, pxL121, pxL122, pxL123, pxL124, pxL125, pxL126, pxL200, pxL240, pxL287, pxL388, pxL400, pxL429, pxL431, pxL440, pxL1240, pxL1600, pxL1681, pxL12028, pxL13849, pxL14880, pxL25173, pxL26908, pxL49600, pxL65535, pxL65536, ↓reduceIte, reduceCtorEq, pxJ_add, pxJ_sub, pxJ_mul, pxJ_neg, pxD_lt_t, pxD_lt_f, pxD_le_t, pxD_le_f, pxD_eq_t, pxD_eq_f, pxJ_lt, pxJ_le, pxJ_eq, px_gI, px_gR, px_pI, px_rc, px_ai, px_ar, px_si, px_ln, px_cp, pxJ_div, pxJ_b8, pxJ_byte, px_b2, px_bs, px_rb0, px_rb1, px_min, px_max, px_compare, pxW_some, jw_t_I, px_cpt, jw_r_I, px_cpr, jw_l_I, px_cpl, Option.some.injEq, t5, m111, m121, px_pB0, m11']
theorem px_pBi {h : jw_H} {c k f : Nat} {x : Bool} (e : (jw_t h k).1 = c) : jw_pB h c (some k) f (pxJ (if x = true then 1 else 0)) = some (jw_setI h k f (pxJ (if x = true then 1 else 0))) := by
  cases x with
  | false => exact px_pB0 e
  | true => exact px_pB1 e
theorem pxM_b {h : jw_H} {k f : Nat} {x : Bool} : pxM (jw_setI h k f (pxJ (if x = true then 1 else 0))) k f = if x = true then 1 else 0 := by
  cases x with
  | false => exact pxM_eq (z := 0) (by omega) (by omega)
  | true => exact pxM_eq (z := 1) (by omega) (by omega)
/-- the end of a look -/
theorem s_X1_holds_b164 (t5 : (jw_t h (12 + 4 * i)).1 = 5) (m11 : pxM h (12 + 4 * i) 11 = if f = true then 1 else 0) :
    g_X1_holds_b164 h (some (12 + 4 * i)) (some (12 + 4 * i)) (pxJ (if o = true then 1 else 0)) = some (pxJ (if f = true then 1 else 0), jw_setI (jw_setI h (12 + 4 * i) 12 (pxJ (if o = true then 1 else 0))) (12 + 4 * i) 10 (pxJ (if (f && ! o) = true then 1 else 0))) := by
  have e := s_X1_holds_b167 (h := jw_setI h (12 + 4 * i) 12 (pxJ (if o = true then 1 else 0))) (f := f) (o := o) t5 (by rw [pxM_ne (by omega)]; exact m11) pxM_b
  rw [← e]
  unfold g_X1_holds_b164
  rw [px_pBi t5]
  rfl
theorem s_X1_holds_b128 (t5 : (jw_t h (12 + 4 * i)).1 = 5) (m11 : pxM h (12 + 4 * i) 11 = if f = true then 1 else 0) :
    g_X1_holds_b128 h (some (12 + 4 * i)) (some (12 + 4 * i)) (pxJ (if o = true then 1 else 0)) = some (pxJ (if f = true then 1 else 0), jw_setI (jw_setI h (12 + 4 * i) 12 (pxJ (if o = true then 1 else 0))) (12 + 4 * i) 10 (pxJ (if (f && ! o) = true then 1 else 0))) := s_X1_holds_b164 t5 m11
end
section
variable {T : pxTx} {W : pxWk} {Fr : pxFh} {S : pxSto} {rep : Bool} {h : jw_H} {s : List Int} {b i : Nat} {p : Int} {g : pxFg}
def pxQo2 (i : Nat) : Nat → Nat → Prop := fun k f => pxQx k f ∨ (k = 12 + 4 * i ∧ 10 ≤ f ∧ f ≤ 13)
theorem s_X1_holds (H : pxBS h T (W, Fr, S, rep)) (OC : pxOC h b s i p) (GM : pxGM h i g) :
    ∃ h', f_X1_holds h 571 (some (12 + 4 * i)) = some (pxJ (if (pxBHold s p T.1.length W Fr g).1 = true then 1 else 0), h') ∧ pxF (pxQo2 i) h h' ∧ pxGM h' i (pxBHold s p T.1.length W Fr g).2 := by
  obtain ⟨hb, hi, PG, ⟨o4, oa, ob, ok⟩, okw, oka, m7, p0, p1⟩ := id OC
  obtain ⟨-, t5, ra, rb, rc, t13, t14, t15⟩ := PG.1.2.2.2.2.2.2.2 i hi
  have wb := pxWh_b (s := s) p0 p1
  obtain ⟨k1, k2⟩ := pxWh_ok okw
  have t1 := H.1.1
  have b2 : pxM h 571 11 = W.2.1 := H.2.2.2.2.2.2.1.2.1
  have b4 : pxM h 571 13 = W.2.2.2.1 := H.2.2.2.2.2.2.1.2.2.2.1
  obtain ⟨-, -, -, -, -, -, -, bn, bk, bs0, bs1⟩ := (pxBS_i.mp H).2.2.2.2.2.2.1
  have l40 := pxIT.len H.2.2.2.1
  obtain ⟨g1, g2, g3, g4⟩ := id GM
  have gl := pxM_lo h (12 + 4 * i) 13
  have gh := pxM_hi h (12 + 4 * i) 13
  rw [g4] at gl gh
  unfold pxBHold f_X1_holds
  by_cases w1 : (pxWh s p).2.2.1 < 2
  · rw [if_pos w1, if_pos rfl]
    refine ⟨h, ?_, pxF.rfl, GM⟩
    clear H OC GM oa ob ok PG oka okw g1 g2 g3
    by_cases w0 : (pxWh s p).2.2.1 = 0
    · simp (maxSteps := 4000000) (disch := first | assumption | omega | (simp only [jw_t_I, px_cpt, t5]; done) | (simp only [jw_t_I, px_cpt, t5]; omega)) only [pxL0, pxL1, pxL2, pxL3, pxL4, pxL5, pxL6, pxL7, pxL8, pxL9, pxL10, pxL11, pxL12, pxL13, pxL14, pxL15, pxL16, pxL17, pxL18, pxL19, pxL20, pxL21, pxL22, pxL23, pxL24, pxL25, pxL26, pxL27, pxL28, pxL29, pxL30, pxL31, pxL32, pxL33, pxL34, pxL35, pxL36, pxL37, pxL38, pxL39, pxL40, pxL41, pxL42, pxL43, pxL44, pxL45, pxL46, pxL47, pxL48, pxL49, pxL51, pxL57, pxL58, pxL59, pxL60, pxL61, pxL62, pxL63, pxL64, pxL65, pxL66, pxL67, pxL68, pxL69, pxL70, pxL71, pxL72, pxL73, pxL74, pxL75, pxL76, pxL77, pxL78, pxL79, pxL80, pxL81, pxL82, pxL83, pxL84, pxL85, pxL86, pxL87, pxL88, pxL89, pxL90, pxL91, pxL92, pxL93, pxL94, pxL95, pxL96, pxL97, pxL98, pxL99, pxL100, pxL101, pxL102, pxL103, pxL104, pxL105, pxL106, pxL107, pxL108, pxL109, pxL110, pxL111, pxL112, pxL113, pxL114, pxL115, pxL116, pxL117, pxL118, pxL119, pxL120, pxL121, pxL122, pxL123, pxL124, pxL125, pxL126, pxL200, pxL240, pxL287, pxL388, pxL400, pxL429, pxL431, pxL440, pxL1240, pxL1600, pxL1681, pxL12028, pxL13849, pxL14880, pxL25173, pxL26908, pxL49600, pxL65535, pxL65536, ↓reduceIte, reduceCtorEq, pxJ_add, pxJ_sub, pxJ_mul, pxJ_neg, pxD_lt_t, pxD_lt_f, pxD_le_t, pxD_le_f, pxD_eq_t, pxD_eq_f, pxJ_lt, pxJ_le, pxJ_eq, px_gI, px_gR, px_pI, px_rc, px_ai, px_ar, px_si, px_ln, px_cp, pxJ_div, pxJ_b8, pxJ_byte, px_b2, px_bs, px_rb0, px_rb1, px_min, px_max, px_compare, pxW_some, jw_t_I, px_cpt, jw_r_I, px_cpr, jw_l_I, px_cpl, Option.some.injEq, t5, o4, w0]
    · have w0' : (pxWh s p).2.2.1 = 1 := by omega
      simp (maxSteps := 4000000) (disch := first | assumption | omega | (simp only [jw_t_I, px_cpt, t5]; done) | (simp only [jw_t_I, px_cpt, t5]; omega)) only [pxL0, pxL1, pxL2, pxL3, pxL4, pxL5, pxL6, pxL7, pxL8, pxL9, pxL10, pxL11, pxL12, pxL13, pxL14, pxL15, pxL16, pxL17, pxL18, pxL19, pxL20, pxL21, pxL22, pxL23, pxL24, pxL25, pxL26, pxL27, pxL28, pxL29, pxL30, pxL31, pxL32, pxL33, pxL34, pxL35, pxL36, pxL37, pxL38, pxL39, pxL40, pxL41, pxL42, pxL43, pxL44, pxL45, pxL46, pxL47, pxL48, pxL49, pxL51, pxL57, pxL58, pxL59, pxL60, pxL61, pxL62, pxL63, pxL64, pxL65, pxL66, pxL67, pxL68, pxL69, pxL70, pxL71, pxL72, pxL73, pxL74, pxL75, pxL76, pxL77, pxL78, pxL79, pxL80, pxL81, pxL82, pxL83, pxL84, pxL85, pxL86, pxL87, pxL88, pxL89, pxL90, pxL91, pxL92, pxL93, pxL94, pxL95, pxL96, pxL97, pxL98, pxL99, pxL100, pxL101, pxL102, pxL103, pxL104, pxL105, pxL106, pxL107, pxL108, pxL109, pxL110, pxL111, pxL112, pxL113, pxL114, pxL115, pxL116, pxL117, pxL118, pxL119, pxL120, pxL121, pxL122, pxL123, pxL124, pxL125, pxL126, pxL200, pxL240, pxL287, pxL388, pxL400, pxL429, pxL431, pxL440, pxL1240, pxL1600, pxL1681, pxL12028, pxL13849, pxL14880, pxL25173, pxL26908, pxL49600, pxL65535, pxL65536, ↓reduceIte, reduceCtorEq, pxJ_add, pxJ_sub, pxJ_mul, pxJ_neg, pxD_lt_t, pxD_lt_f, pxD_le_t, pxD_le_f, pxD_eq_t, pxD_eq_f, pxJ_lt, pxJ_le, pxJ_eq, px_gI, px_gR, px_pI, px_rc, px_ai, px_ar, px_si, px_ln, px_cp, pxJ_div, pxJ_b8, pxJ_byte, px_b2, px_bs, px_rb0, px_rb1, px_min, px_max, px_compare, pxW_some, jw_t_I, px_cpt, jw_r_I, px_cpr, jw_l_I, px_cpl, Option.some.injEq, t5, o4, w0']
  rw [if_neg w1]
  by_cases w2 : (pxWh s p).2.2.1 = 2
  · rw [if_pos w2]
    obtain ⟨h1, e1, F1⟩ := s_X1_holdsAt H PG.1 m7 t13 (oa (by omega)) (k1 (by omega))
    have F1' : pxF (pxQo2 i) h h1 := F1.mono (fun k f z => Or.inl z)
    refine ⟨h1, ?_, F1', by rw [F1.m (by unfold pxQx; omega)]; exact g1, by rw [F1.m (by unfold pxQx; omega)]; exact g2, by rw [F1.m (by unfold pxQx; omega)]; exact g3, by rw [F1.m (by unfold pxQx; omega)]; exact g4⟩
    dsimp only
    generalize pxBAt s p (T.1.length : Int) W Fr = x at *
    clear H OC GM oa ob ok PG oka okw g1 g2 g3
    cases x with
    | false =>
      rw [if_neg (by decide)] at e1 ⊢
      simp (maxSteps := 4000000) (disch := first | assumption | omega | (simp only [jw_t_I, px_cpt, t5]; done) | (simp only [jw_t_I, px_cpt, t5]; omega)) only [pxL0, pxL1, pxL2, pxL3, pxL4, pxL5, pxL6, pxL7, pxL8, pxL9, pxL10, pxL11, pxL12, pxL13, pxL14, pxL15, pxL16, pxL17, pxL18, pxL19, pxL20, pxL21, pxL22, pxL23, pxL24, pxL25, pxL26, pxL27, pxL28, pxL29, pxL30, pxL31, pxL32, pxL33, pxL34, pxL35, pxL36, pxL37, pxL38, pxL39, pxL40, pxL41, pxL42, pxL43, pxL44, pxL45, pxL46, pxL47, pxL48, pxL49, pxL51, pxL57, pxL58, pxL59, pxL60, pxL61, pxL62, pxL63, pxL64, pxL65, pxL66, pxL67, pxL68, pxL69, pxL70, pxL71, pxL72, pxL73, pxL74, pxL75, pxL76, pxL77, pxL78, pxL79, pxL80, pxL81, pxL82, pxL83, pxL84, pxL85, pxL86, pxL87, pxL88, pxL89, pxL90, pxL91, pxL92, pxL93, pxL94, pxL95, pxL96, pxL97, pxL98, pxL99, pxL100, pxL101, pxL102, pxL103, pxL104, pxL105, pxL106, pxL107, pxL108, pxL109, pxL110, pxL111, pxL112, pxL113, pxL114, pxL115, pxL116, pxL117, pxL118, pxL119, pxL120, pxL121, pxL122, pxL123, pxL124, pxL125, pxL126, pxL200, pxL240, pxL287, pxL388, pxL400, pxL429, pxL431, pxL440, pxL1240, pxL1600, pxL1681, pxL12028, pxL13849, pxL14880, pxL25173, pxL26908, pxL49600, pxL65535, pxL65536, ↓reduceIte, reduceCtorEq, pxJ_add, pxJ_sub, pxJ_mul, pxJ_neg, pxD_lt_t, pxD_lt_f, pxD_le_t, pxD_le_f, pxD_eq_t, pxD_eq_f, pxJ_lt, pxJ_le, pxJ_eq, px_gI, px_gR, px_pI, px_rc, px_ai, px_ar, px_si, px_ln, px_cp, pxJ_div, pxJ_b8, pxJ_byte, px_b2, px_bs, px_rb0, px_rb1, px_min, px_max, px_compare, pxW_some, jw_t_I, px_cpt, jw_r_I, px_cpr, jw_l_I, px_cpl, Option.some.injEq, t5, o4, w2, ra, t1, e1]
    | true =>
      rw [if_pos rfl] at e1 ⊢
      simp (maxSteps := 4000000) (disch := first | assumption | omega | (simp only [jw_t_I, px_cpt, t5]; done) | (simp only [jw_t_I, px_cpt, t5]; omega)) only [pxL0, pxL1, pxL2, pxL3, pxL4, pxL5, pxL6, pxL7, pxL8, pxL9, pxL10, pxL11, pxL12, pxL13, pxL14, pxL15, pxL16, pxL17, pxL18, pxL19, pxL20, pxL21, pxL22, pxL23, pxL24, pxL25, pxL26, pxL27, pxL28, pxL29, pxL30, pxL31, pxL32, pxL33, pxL34, pxL35, pxL36, pxL37, pxL38, pxL39, pxL40, pxL41, pxL42, pxL43, pxL44, pxL45, pxL46, pxL47, pxL48, pxL49, pxL51, pxL57, pxL58, pxL59, pxL60, pxL61, pxL62, pxL63, pxL64, pxL65, pxL66, pxL67, pxL68, pxL69, pxL70, pxL71, pxL72, pxL73, pxL74, pxL75, pxL76, pxL77, pxL78, pxL79, pxL80, pxL81, pxL82, pxL83, pxL84, pxL85, pxL86, pxL87, pxL88, pxL89, pxL90, pxL91, pxL92, pxL93, pxL94, pxL95, pxL96, pxL97, pxL98, pxL99, pxL100, pxL101, pxL102, pxL103, pxL104, pxL105, pxL106, pxL107, pxL108, pxL109, pxL110, pxL111, pxL112, pxL113, pxL114, pxL115, pxL116, pxL117, pxL118, pxL119, pxL120, pxL121, pxL122, pxL123, pxL124, pxL125, pxL126, pxL200, pxL240, pxL287, pxL388, pxL400, pxL429, pxL431, pxL440, pxL1240, pxL1600, pxL1681, pxL12028, pxL13849, pxL14880, pxL25173, pxL26908, pxL49600, pxL65535, pxL65536, ↓reduceIte, reduceCtorEq, pxJ_add, pxJ_sub, pxJ_mul, pxJ_neg, pxD_lt_t, pxD_lt_f, pxD_le_t, pxD_le_f, pxD_eq_t, pxD_eq_f, pxJ_lt, pxJ_le, pxJ_eq, px_gI, px_gR, px_pI, px_rc, px_ai, px_ar, px_si, px_ln, px_cp, pxJ_div, pxJ_b8, pxJ_byte, px_b2, px_bs, px_rb0, px_rb1, px_min, px_max, px_compare, pxW_some, jw_t_I, px_cpt, jw_r_I, px_cpr, jw_l_I, px_cpl, Option.some.injEq, t5, o4, w2, ra, t1, e1]
  rw [if_neg w2]
  have w3 : (pxWh s p).2.2.1 = 3 := by omega
  by_cases lk : g.2.2.2 = W.2.2.2.1
  · rw [if_pos lk]
    refine ⟨h, ?_, pxF.rfl, GM⟩
    rw [lk] at g4
    dsimp only
    clear H OC GM oa ob ok PG oka okw g1 g3
    generalize g.2.1 = x at *
    cases x with
    | false =>
      rw [if_neg (by decide)] at g2 ⊢
      simp (maxSteps := 4000000) (disch := first | assumption | omega | (simp only [jw_t_I, px_cpt, t5]; done) | (simp only [jw_t_I, px_cpt, t5]; omega)) only [pxL0, pxL1, pxL2, pxL3, pxL4, pxL5, pxL6, pxL7, pxL8, pxL9, pxL10, pxL11, pxL12, pxL13, pxL14, pxL15, pxL16, pxL17, pxL18, pxL19, pxL20, pxL21, pxL22, pxL23, pxL24, pxL25, pxL26, pxL27, pxL28, pxL29, pxL30, pxL31, pxL32, pxL33, pxL34, pxL35, pxL36, pxL37, pxL38, pxL39, pxL40, pxL41, pxL42, pxL43, pxL44, pxL45, pxL46, pxL47, pxL48, pxL49, pxL51, pxL57, pxL58, pxL59, pxL60, pxL61, pxL62, pxL63, pxL64, pxL65, pxL66, pxL67, pxL68, pxL69, pxL70, pxL71, pxL72, pxL73, pxL74, pxL75, pxL76, pxL77, pxL78, pxL79, pxL80, pxL81, pxL82, pxL83, pxL84, pxL85, pxL86, pxL87, pxL88, pxL89, pxL90, pxL91, pxL92, pxL93, pxL94, pxL95, pxL96, pxL97, pxL98, pxL99, pxL100, pxL101, pxL102, pxL103, pxL104, pxL105, pxL106, pxL107, pxL108, pxL109, pxL110, pxL111, pxL112, pxL113, pxL114, pxL115, pxL116, pxL117, pxL118, pxL119, pxL120, pxL121, pxL122, pxL123, pxL124, pxL125, pxL126, pxL200, pxL240, pxL287, pxL388, pxL400, pxL429, pxL431, pxL440, pxL1240, pxL1600, pxL1681, pxL12028, pxL13849, pxL14880, pxL25173, pxL26908, pxL49600, pxL65535, pxL65536, ↓reduceIte, reduceCtorEq, pxJ_add, pxJ_sub, pxJ_mul, pxJ_neg, pxD_lt_t, pxD_lt_f, pxD_le_t, pxD_le_f, pxD_eq_t, pxD_eq_f, pxJ_lt, pxJ_le, pxJ_eq, px_gI, px_gR, px_pI, px_rc, px_ai, px_ar, px_si, px_ln, px_cp, pxJ_div, pxJ_b8, pxJ_byte, px_b2, px_bs, px_rb0, px_rb1, px_min, px_max, px_compare, pxW_some, jw_t_I, px_cpt, jw_r_I, px_cpr, jw_l_I, px_cpl, Option.some.injEq, t5, o4, w3, g4, t1, b4, g2]
    | true =>
      rw [if_pos rfl] at g2 ⊢
      simp (maxSteps := 4000000) (disch := first | assumption | omega | (simp only [jw_t_I, px_cpt, t5]; done) | (simp only [jw_t_I, px_cpt, t5]; omega)) only [pxL0, pxL1, pxL2, pxL3, pxL4, pxL5, pxL6, pxL7, pxL8, pxL9, pxL10, pxL11, pxL12, pxL13, pxL14, pxL15, pxL16, pxL17, pxL18, pxL19, pxL20, pxL21, pxL22, pxL23, pxL24, pxL25, pxL26, pxL27, pxL28, pxL29, pxL30, pxL31, pxL32, pxL33, pxL34, pxL35, pxL36, pxL37, pxL38, pxL39, pxL40, pxL41, pxL42, pxL43, pxL44, pxL45, pxL46, pxL47, pxL48, pxL49, pxL51, pxL57, pxL58, pxL59, pxL60, pxL61, pxL62, pxL63, pxL64, pxL65, pxL66, pxL67, pxL68, pxL69, pxL70, pxL71, pxL72, pxL73, pxL74, pxL75, pxL76, pxL77, pxL78, pxL79, pxL80, pxL81, pxL82, pxL83, pxL84, pxL85, pxL86, pxL87, pxL88, pxL89, pxL90, pxL91, pxL92, pxL93, pxL94, pxL95, pxL96, pxL97, pxL98, pxL99, pxL100, pxL101, pxL102, pxL103, pxL104, pxL105, pxL106, pxL107, pxL108, pxL109, pxL110, pxL111, pxL112, pxL113, pxL114, pxL115, pxL116, pxL117, pxL118, pxL119, pxL120, pxL121, pxL122, pxL123, pxL124, pxL125, pxL126, pxL200, pxL240, pxL287, pxL388, pxL400, pxL429, pxL431, pxL440, pxL1240, pxL1600, pxL1681, pxL12028, pxL13849, pxL14880, pxL25173, pxL26908, pxL49600, pxL65535, pxL65536, ↓reduceIte, reduceCtorEq, pxJ_add, pxJ_sub, pxJ_mul, pxJ_neg, pxD_lt_t, pxD_lt_f, pxD_le_t, pxD_le_f, pxD_eq_t, pxD_eq_f, pxJ_lt, pxJ_le, pxJ_eq, px_gI, px_gR, px_pI, px_rc, px_ai, px_ar, px_si, px_ln, px_cp, pxJ_div, pxJ_b8, pxJ_byte, px_b2, px_bs, px_rb0, px_rb1, px_min, px_max, px_compare, pxW_some, jw_t_I, px_cpt, jw_r_I, px_cpr, jw_l_I, px_cpl, Option.some.injEq, t5, o4, w3, g4, t1, b4, g2]
  rw [if_neg lk]
  have A1 := oa (by omega)
  have A2 := ob w3
  -- the turn is noted
  have F1 : pxF (pxQo2 i) h (jw_setI h (12 + 4 * i) 13 (pxJ W.2.2.2.1)) := pxF.setI (by unfold pxQo2; omega)
  have H1 : pxBS (jw_setI h (12 + 4 * i) 13 (pxJ W.2.2.2.1)) T (W, Fr, S, rep) := H.fr F1 (fun k f z => by unfold pxQo2 pxQx; omega)
  have PS1 : pxPS (jw_setI h (12 + 4 * i) 13 (pxJ W.2.2.2.1)) := PG.1.fr F1 (fun k f z => by unfold pxQo2 pxQx; omega)
  have m71 : pxM (jw_setI h (12 + 4 * i) 13 (pxJ W.2.2.2.1)) 10 7 = pxM h 10 7 := F1.m (by unfold pxQo2 pxQx; omega)
  have A11 : pxAd (jw_setI h (12 + 4 * i) 13 (pxJ W.2.2.2.1)) s (13 + 4 * i) p := A1.fr F1 (fun f => by unfold pxQo2 pxQx; omega) (fun k f z _ => by unfold pxQo2 pxQx; omega) (by omega)
  have A21 : pxAd (jw_setI h (12 + 4 * i) 13 (pxJ W.2.2.2.1)) s (14 + 4 * i) (pxWh s p).2.2.2 := A2.fr F1 (fun f => by unfold pxQo2 pxQx; omega) (fun k f z _ => by unfold pxQo2 pxQx; omega) (by omega)
  have isn := s_X0_isNumber (h := jw_setI h (12 + 4 * i) 13 (pxJ W.2.2.2.1)) t14 A21.1
  obtain ⟨n1, ⟨vn, n2⟩⟩ := s_X1_numberOf H1 t14 A21
  have m101 : pxM (jw_setI h (12 + 4 * i) 13 (pxJ W.2.2.2.1)) (12 + 4 * i) 10 = pxM h (12 + 4 * i) 10 := pxM_ne (by omega)
  have m13e : pxM (jw_setI h (12 + 4 * i) 13 (pxJ W.2.2.2.1)) (12 + 4 * i) 13 = W.2.2.2.1 := pxM_eq (by omega) (by omega)
  have b21 : pxM (jw_setI h (12 + 4 * i) 13 (pxJ W.2.2.2.1)) 571 11 = W.2.1 := by rw [pxM_ne (by omega)]; exact b2
  generalize e1 : jw_setI h (12 + 4 * i) 13 (pxJ W.2.2.2.1) = h1 at *
  have t51 : (jw_t h1 (12 + 4 * i)).1 = 5 := by rw [F1.t]; exact t5
  have t11 : (jw_t h1 571).1 = 1 := by rw [F1.t]; exact t1
  have ra1 : jw_r h1 (12 + 4 * i) 0 = some (13 + 4 * i) := by rw [F1.r (by unfold pxQo2 pxQx; omega)]; exact ra
  have rb1 : jw_r h1 (12 + 4 * i) 1 = some (14 + 4 * i) := by rw [F1.r (by unfold pxQo2 pxQx; omega)]; exact rb
  have t131 : (jw_t h1 (13 + 4 * i)).1 = 0 := by rw [F1.t]; exact t13
  have t141 : (jw_t h1 (14 + 4 * i)).1 = 0 := by rw [F1.t]; exact t14
  rw [← m101] at g1
  -- how far it goes on
  generalize eI : pxBIs s (pxWh s p).2.2.2 = isN at *
  generalize eN : pxBNum s (pxWh s p).2.2.2 (T.1.length : Int) = num at *
  have vb : isN = true → vn = pxJ num := fun z => by
    have := n1 z
    rw [n2] at this
    exact (Prod.mk.inj (Option.some.inj this)).1
  have nr : isN = true → -10000 ≤ num ∧ num ≤ 10000 := fun z => by
    rw [← eI] at z
    have db := pxBIs_i.mp z
    have sv := pxShf_v (s := s) 61 (pxSpot s (pxWh s p).2.2.2).2
    have esv : (pxShf s 61 (pxSpot s (pxWh s p).2.2.2).2).2.2 = pxAddrS s (pxWh s p).2.2.2 := rfl
    rw [esv] at sv
    rw [← eN]
    unfold pxBNum
    by_cases e : pxP s (pxWh s p).2.2.2 = 36
    · rw [if_pos e]; omega
    · rw [if_neg e]
      have y : 48 ≤ pxP s (pxWh s p).2.2.2 ∧ pxP s (pxWh s p).2.2.2 ≤ 57 := by omega
      unfold pxNumV
      by_cases e2 : pxIsDg (pxP s ((pxWh s p).2.2.2 + 1)) = true
      · have := pxIsDg_i.mp e2
        rw [if_pos e2]; omega
      · rw [if_neg e2]; omega
  have head : ∀ R : Bool, (pxM h1 (12 + 4 * i) 10 = if R = true then 1 else 0) → f_X1_holds h 571 (some (12 + 4 * i)) = if R = true ∧ ¬ (isN = true ∧ num < W.2.1) then g_X1_holds_b94 h1 571 (some (12 + 4 * i)) (pxJ (if isN = true then 1 else 0)) vn else g_X1_holds_b134 h1 571 (some (12 + 4 * i)) (pxJ (if isN = true then 1 else 0)) vn := by
    intro R mR
    unfold f_X1_holds
    cases R with
    | false =>
      rw [if_neg (by decide)] at mR
      rw [if_neg (fun z => absurd z.1 (by decide))]
      clear H OC GM oa ob ok PG oka okw g1 g2 g3 H1 PS1 A11 A21 A1 A2 n1 F1 vb nr
      simp (maxSteps := 4000000) (disch := first | assumption | omega | (simp only [jw_t_I, px_cpt, t5]; done) | (simp only [jw_t_I, px_cpt, t5]; omega)) only [pxL0, pxL1, pxL2, pxL3, pxL4, pxL5, pxL6, pxL7, pxL8, pxL9, pxL10, pxL11, pxL12, pxL13, pxL14, pxL15, pxL16, pxL17, pxL18, pxL19, pxL20, pxL21, pxL22, pxL23, pxL24, pxL25, pxL26, pxL27, pxL28, pxL29, pxL30, pxL31, pxL32, pxL33, pxL34, pxL35, pxL36, pxL37, pxL38, pxL39, pxL40, pxL41, pxL42, pxL43, pxL44, pxL45, pxL46, pxL47, pxL48, pxL49, pxL51, pxL57, pxL58, pxL59, pxL60, pxL61, pxL62, pxL63, pxL64, pxL65, pxL66, pxL67, pxL68, pxL69, pxL70, pxL71, pxL72, pxL73, pxL74, pxL75, pxL76, pxL77, pxL78, pxL79, pxL80, pxL81, pxL82, pxL83, pxL84, pxL85, pxL86, pxL87, pxL88, pxL89, pxL90, pxL91, pxL92, pxL93, pxL94, pxL95, pxL96, pxL97, pxL98, pxL99, pxL100, pxL101, pxL102, pxL103, pxL104, pxL105, pxL106, pxL107, pxL108, pxL109, pxL110, pxL111, pxL112, pxL113, pxL114, pxL115, pxL116, pxL117, pxL118, pxL119, pxL120, pxL121, pxL122, pxL123, pxL124, pxL125, pxL126, pxL200, pxL240, pxL287, pxL388, pxL400, pxL429, pxL431, pxL440, pxL1240, pxL1600, pxL1681, pxL12028, pxL13849, pxL14880, pxL25173, pxL26908, pxL49600, pxL65535, pxL65536, ↓reduceIte, reduceCtorEq, pxJ_add, pxJ_sub, pxJ_mul, pxJ_neg, pxD_lt_t, pxD_lt_f, pxD_le_t, pxD_le_f, pxD_eq_t, pxD_eq_f, pxJ_lt, pxJ_le, pxJ_eq, px_gI, px_gR, px_pI, px_rc, px_ai, px_ar, px_si, px_ln, px_cp, pxJ_div, pxJ_b8, pxJ_byte, px_b2, px_bs, px_rb0, px_rb1, px_min, px_max, px_compare, pxW_some, jw_t_I, px_cpt, jw_r_I, px_cpr, jw_l_I, px_cpl, Option.some.injEq, t5, o4, w3, g4, t1, b4, e1, rb, rb1, t141, isn, t11, n2, t51, mR]
    | true =>
      rw [if_pos rfl] at mR
      cases isN with
      | false =>
        rw [if_pos ⟨rfl, fun z => absurd z.1 (by decide)⟩]
        rw [if_neg (by decide)] at isn ⊢
        clear H OC GM oa ob ok PG oka okw g1 g2 g3 H1 PS1 A11 A21 A1 A2 n1 F1 vb nr
        simp (maxSteps := 4000000) (disch := first | assumption | omega | (simp only [jw_t_I, px_cpt, t5]; done) | (simp only [jw_t_I, px_cpt, t5]; omega)) only [pxL0, pxL1, pxL2, pxL3, pxL4, pxL5, pxL6, pxL7, pxL8, pxL9, pxL10, pxL11, pxL12, pxL13, pxL14, pxL15, pxL16, pxL17, pxL18, pxL19, pxL20, pxL21, pxL22, pxL23, pxL24, pxL25, pxL26, pxL27, pxL28, pxL29, pxL30, pxL31, pxL32, pxL33, pxL34, pxL35, pxL36, pxL37, pxL38, pxL39, pxL40, pxL41, pxL42, pxL43, pxL44, pxL45, pxL46, pxL47, pxL48, pxL49, pxL51, pxL57, pxL58, pxL59, pxL60, pxL61, pxL62, pxL63, pxL64, pxL65, pxL66, pxL67, pxL68, pxL69, pxL70, pxL71, pxL72, pxL73, pxL74, pxL75, pxL76, pxL77, pxL78, pxL79, pxL80, pxL81, pxL82, pxL83, pxL84, pxL85, pxL86, pxL87, pxL88, pxL89, pxL90, pxL91, pxL92, pxL93, pxL94, pxL95, pxL96, pxL97, pxL98, pxL99, pxL100, pxL101, pxL102, pxL103, pxL104, pxL105, pxL106, pxL107, pxL108, pxL109, pxL110, pxL111, pxL112, pxL113, pxL114, pxL115, pxL116, pxL117, pxL118, pxL119, pxL120, pxL121, pxL122, pxL123, pxL124, pxL125, pxL126, pxL200, pxL240, pxL287, pxL388, pxL400, pxL429, pxL431, pxL440, pxL1240, pxL1600, pxL1681, pxL12028, pxL13849, pxL14880, pxL25173, pxL26908, pxL49600, pxL65535, pxL65536, ↓reduceIte, reduceCtorEq, pxJ_add, pxJ_sub, pxJ_mul, pxJ_neg, pxD_lt_t, pxD_lt_f, pxD_le_t, pxD_le_f, pxD_eq_t, pxD_eq_f, pxJ_lt, pxJ_le, pxJ_eq, px_gI, px_gR, px_pI, px_rc, px_ai, px_ar, px_si, px_ln, px_cp, pxJ_div, pxJ_b8, pxJ_byte, px_b2, px_bs, px_rb0, px_rb1, px_min, px_max, px_compare, pxW_some, jw_t_I, px_cpt, jw_r_I, px_cpr, jw_l_I, px_cpl, Option.some.injEq, t5, o4, w3, g4, t1, b4, e1, rb, rb1, t141, isn, t11, n2, t51, mR]
      | true =>
        have vb' := vb rfl
        have nr' := nr rfl
        rw [if_pos rfl] at isn ⊢
        rw [vb'] at n2 ⊢
        by_cases d : num < W.2.1
        · rw [if_neg (fun z => z.2 ⟨rfl, d⟩)]
          clear H OC GM oa ob ok PG oka okw g1 g2 g3 H1 PS1 A11 A21 A1 A2 n1 F1 vb nr
          simp (maxSteps := 4000000) (disch := first | assumption | omega | (simp only [jw_t_I, px_cpt, t5]; done) | (simp only [jw_t_I, px_cpt, t5]; omega)) only [pxL0, pxL1, pxL2, pxL3, pxL4, pxL5, pxL6, pxL7, pxL8, pxL9, pxL10, pxL11, pxL12, pxL13, pxL14, pxL15, pxL16, pxL17, pxL18, pxL19, pxL20, pxL21, pxL22, pxL23, pxL24, pxL25, pxL26, pxL27, pxL28, pxL29, pxL30, pxL31, pxL32, pxL33, pxL34, pxL35, pxL36, pxL37, pxL38, pxL39, pxL40, pxL41, pxL42, pxL43, pxL44, pxL45, pxL46, pxL47, pxL48, pxL49, pxL51, pxL57, pxL58, pxL59, pxL60, pxL61, pxL62, pxL63, pxL64, pxL65, pxL66, pxL67, pxL68, pxL69, pxL70, pxL71, pxL72, pxL73, pxL74, pxL75, pxL76, pxL77, pxL78, pxL79, pxL80, pxL81, pxL82, pxL83, pxL84, pxL85, pxL86, pxL87, pxL88, pxL89, pxL90, pxL91, pxL92, pxL93, pxL94, pxL95, pxL96, pxL97, pxL98, pxL99, pxL100, pxL101, pxL102, pxL103, pxL104, pxL105, pxL106, pxL107, pxL108, pxL109, pxL110, pxL111, pxL112, pxL113, pxL114, pxL115, pxL116, pxL117, pxL118, pxL119, pxL120, pxL121, pxL122, pxL123, pxL124, pxL125, pxL126, pxL200, pxL240, pxL287, pxL388, pxL400, pxL429, pxL431, pxL440, pxL1240, pxL1600, pxL1681, pxL12028, pxL13849, pxL14880, pxL25173, pxL26908, pxL49600, pxL65535, pxL65536, ↓reduceIte, reduceCtorEq, pxJ_add, pxJ_sub, pxJ_mul, pxJ_neg, pxD_lt_t, pxD_lt_f, pxD_le_t, pxD_le_f, pxD_eq_t, pxD_eq_f, pxJ_lt, pxJ_le, pxJ_eq, px_gI, px_gR, px_pI, px_rc, px_ai, px_ar, px_si, px_ln, px_cp, pxJ_div, pxJ_b8, pxJ_byte, px_b2, px_bs, px_rb0, px_rb1, px_min, px_max, px_compare, pxW_some, jw_t_I, px_cpt, jw_r_I, px_cpr, jw_l_I, px_cpl, Option.some.injEq, t5, o4, w3, g4, t1, b4, e1, rb, rb1, t141, isn, t11, n2, t51, mR, b21]
        · rw [if_pos ⟨rfl, fun z => d z.2⟩]
          clear H OC GM oa ob ok PG oka okw g1 g2 g3 H1 PS1 A11 A21 A1 A2 n1 F1 vb nr
          simp (maxSteps := 4000000) (disch := first | assumption | omega | (simp only [jw_t_I, px_cpt, t5]; done) | (simp only [jw_t_I, px_cpt, t5]; omega)) only [pxL0, pxL1, pxL2, pxL3, pxL4, pxL5, pxL6, pxL7, pxL8, pxL9, pxL10, pxL11, pxL12, pxL13, pxL14, pxL15, pxL16, pxL17, pxL18, pxL19, pxL20, pxL21, pxL22, pxL23, pxL24, pxL25, pxL26, pxL27, pxL28, pxL29, pxL30, pxL31, pxL32, pxL33, pxL34, pxL35, pxL36, pxL37, pxL38, pxL39, pxL40, pxL41, pxL42, pxL43, pxL44, pxL45, pxL46, pxL47, pxL48, pxL49, pxL51, pxL57, pxL58, pxL59, pxL60, pxL61, pxL62, pxL63, pxL64, pxL65, pxL66, pxL67, pxL68, pxL69, pxL70, pxL71, pxL72, pxL73, pxL74, pxL75, pxL76, pxL77, pxL78, pxL79, pxL80, pxL81, pxL82, pxL83, pxL84, pxL85, pxL86, pxL87, pxL88, pxL89, pxL90, pxL91, pxL92, pxL93, pxL94, pxL95, pxL96, pxL97, pxL98, pxL99, pxL100, pxL101, pxL102, pxL103, pxL104, pxL105, pxL106, pxL107, pxL108, pxL109, pxL110, pxL111, pxL112, pxL113, pxL114, pxL115, pxL116, pxL117, pxL118, pxL119, pxL120, pxL121, pxL122, pxL123, pxL124, pxL125, pxL126, pxL200, pxL240, pxL287, pxL388, pxL400, pxL429, pxL431, pxL440, pxL1240, pxL1600, pxL1681, pxL12028, pxL13849, pxL14880, pxL25173, pxL26908, pxL49600, pxL65535, pxL65536, ↓reduceIte, reduceCtorEq, pxJ_add, pxJ_sub, pxJ_mul, pxJ_neg, pxD_lt_t, pxD_lt_f, pxD_le_t, pxD_le_f, pxD_eq_t, pxD_eq_f, pxJ_lt, pxJ_le, pxJ_eq, px_gI, px_gR, px_pI, px_rc, px_ai, px_ar, px_si, px_ln, px_cp, pxJ_div, pxJ_b8, pxJ_byte, px_b2, px_bs, px_rb0, px_rb1, px_min, px_max, px_compare, pxW_some, jw_t_I, px_cpt, jw_r_I, px_cpr, jw_l_I, px_cpl, Option.some.injEq, t5, o4, w3, g4, t1, b4, e1, rb, rb1, t141, isn, t11, n2, t51, mR, b21]
  have hd := head g.1 g1
  unfold f_X1_holds at hd
  rw [hd]
  by_cases c : g.1 = true ∧ ¬ (isN = true ∧ num < W.2.1)
  · rw [if_pos c, if_pos c]
    -- it runs on
    have F2 : pxF (pxQo2 i) h (jw_setI h1 (12 + 4 * i) 11 (pxJ 1)) := F1.trans (pxF.setI (by unfold pxQo2; omega))
    have F12 : pxF (pxQo2 i) h1 (jw_setI h1 (12 + 4 * i) 11 (pxJ 1)) := pxF.setI (by unfold pxQo2; omega)
    have H2 := H1.fr F12 (fun k f z => by unfold pxQo2 pxQx; omega)
    have PS2 := PS1.fr F12 (fun k f z => by unfold pxQo2 pxQx; omega)
    have m72 : pxM (jw_setI h1 (12 + 4 * i) 11 (pxJ 1)) 10 7 = pxM h1 10 7 := F12.m (by unfold pxQo2 pxQx; omega)
    have A22 : pxAd (jw_setI h1 (12 + 4 * i) 11 (pxJ 1)) s (14 + 4 * i) (pxWh s p).2.2.2 := A21.fr F12 (fun f => by unfold pxQo2 pxQx; omega) (fun k f z _ => by unfold pxQo2 pxQx; omega) (by omega)
    -- the look at the end
    have fin : ∀ (h2 : jw_H) (x : Bool), pxF pxQx (jw_setI h1 (12 + 4 * i) 11 (pxJ 1)) h2 → g_X1_holds_b94 h1 571 (some (12 + 4 * i)) (pxJ (if isN = true then 1 else 0)) vn = g_X1_holds_b128 h2 (some (12 + 4 * i)) (some (12 + 4 * i)) (pxJ (if x = true then 1 else 0)) → ∃ h', g_X1_holds_b94 h1 571 (some (12 + 4 * i)) (pxJ (if isN = true then 1 else 0)) vn = some (pxJ 1, h') ∧ pxF (pxQo2 i) h h' ∧ pxGM h' i (! x, true, x, W.2.2.2.1) := by
      intro h2 x F3 e2
      have t52 : (jw_t h2 (12 + 4 * i)).1 = 5 := by rw [F3.t]; exact t51
      have m112 : pxM h2 (12 + 4 * i) 11 = if true = true then 1 else 0 := by rw [F3.m (by unfold pxQx; omega)]; exact pxM_eq (z := 1) (by omega) (by omega)
      have e3 := s_X1_holds_b128 (f := true) (o := x) t52 m112
      refine ⟨_, e2.trans e3, (F2.trans (F3.mono (fun k f z => Or.inl z))).trans ((pxF.setI (by unfold pxQo2; omega)).trans (pxF.setI (by unfold pxQo2; omega))), pxM_b, ?_, ?_, ?_⟩
      · rw [pxM_ne (by omega), pxM_ne (by omega)]; exact m112
      · rw [pxM_ne (by omega)]; exact pxM_b
      · rw [pxM_ne (by omega), pxM_ne (by omega), F3.m (by unfold pxQx; omega), pxM_ne (by omega)]; exact m13e
    have eA : isN = true → pxBAt s (pxWh s p).2.2.2 (T.1.length : Int) W Fr = decide (W.2.1 = num) := fun z => by
      unfold pxBAt
      rw [eI, if_pos z, eN]
    show ∃ h', _ = some (pxJ 1, h') ∧ pxF (pxQo2 i) h h' ∧ pxGM h' i (! pxBAt s (pxWh s p).2.2.2 (T.1.length : Int) W Fr, true, pxBAt s (pxWh s p).2.2.2 (T.1.length : Int) W Fr, W.2.2.2.1)
    have t12 : (jw_t (jw_setI h1 (12 + 4 * i) 11 (pxJ 1)) 571).1 = 1 := t11
    have rb2 : jw_r (jw_setI h1 (12 + 4 * i) 11 (pxJ 1)) (12 + 4 * i) 1 = some (14 + 4 * i) := rb1
    have b22 : pxM (jw_setI h1 (12 + 4 * i) 11 (pxJ 1)) 571 11 = W.2.1 := by rw [pxM_ne (by omega)]; exact b21
    by_cases z : isN = true
    · rw [eA z]
      have vb' := vb z
      have nr' := nr z
      refine fin _ _ pxF.rfl ?_
      rw [z, vb', if_pos rfl]
      unfold g_X1_holds_b94
      clear H OC GM oa ob ok PG oka okw g1 g2 g3 H1 PS1 A11 A21 A1 A2 n1 F1 vb nr fin head hd eA F2 F12 H2 PS2 A22 c
      by_cases d : W.2.1 = num
      · rw [decide_eq_true d, if_pos rfl]
        simp (maxSteps := 4000000) (disch := first | assumption | omega | (simp only [jw_t_I, px_cpt, t51]; done) | (simp only [jw_t_I, px_cpt, t51]; omega)) only [pxL0, pxL1, pxL2, pxL3, pxL4, pxL5, pxL6, pxL7, pxL8, pxL9, pxL10, pxL11, pxL12, pxL13, pxL14, pxL15, pxL16, pxL17, pxL18, pxL19, pxL20, pxL21, pxL22, pxL23, pxL24, pxL25, pxL26, pxL27, pxL28, pxL29, pxL30, pxL31, pxL32, pxL33, pxL34, pxL35, pxL36, pxL37, pxL38, pxL39, pxL40, pxL41, pxL42, pxL43, pxL44, pxL45, pxL46, pxL47, pxL48, pxL49, pxL51, pxL57, pxL58, pxL59, pxL60, pxL61, pxL62, pxL63, pxL64, pxL65, pxL66, pxL67, pxL68, pxL69, pxL70, pxL71, pxL72, pxL73, pxL74, pxL75, pxL76, pxL77, pxL78, pxL79, pxL80, pxL81, pxL82, pxL83, pxL84, pxL85, pxL86, pxL87, pxL88, pxL89, pxL90, pxL91, pxL92, pxL93, pxL94, pxL95, pxL96, pxL97, pxL98, pxL99, pxL100, pxL101, pxL102, pxL103, pxL104, pxL105, pxL106, pxL107, pxL108, pxL109, pxL110, pxL111, pxL112, pxL113, pxL114, pxL115, pxL116, pxL117, pxL118, pxL119, pxL120, pxL121, pxL122, pxL123, pxL124, pxL125, pxL126, pxL200, pxL240, pxL287, pxL388, pxL400, pxL429, pxL431, pxL440, pxL1240, pxL1600, pxL1681, pxL12028, pxL13849, pxL14880, pxL25173, pxL26908, pxL49600, pxL65535, pxL65536, ↓reduceIte, reduceCtorEq, pxJ_add, pxJ_sub, pxJ_mul, pxJ_neg, pxD_lt_t, pxD_lt_f, pxD_le_t, pxD_le_f, pxD_eq_t, pxD_eq_f, pxJ_lt, pxJ_le, pxJ_eq, px_gI, px_gR, px_pI, px_rc, px_ai, px_ar, px_si, px_ln, px_cp, pxJ_div, pxJ_b8, pxJ_byte, px_b2, px_bs, px_rb0, px_rb1, px_min, px_max, px_compare, pxW_some, jw_t_I, px_cpt, jw_r_I, px_cpr, jw_l_I, px_cpl, Option.some.injEq, t51, px_pB1, t12, b22, d]
      · rw [decide_eq_false d, if_neg (by decide)]
        simp (maxSteps := 4000000) (disch := first | assumption | omega | (simp only [jw_t_I, px_cpt, t51]; done) | (simp only [jw_t_I, px_cpt, t51]; omega)) only [pxL0, pxL1, pxL2, pxL3, pxL4, pxL5, pxL6, pxL7, pxL8, pxL9, pxL10, pxL11, pxL12, pxL13, pxL14, pxL15, pxL16, pxL17, pxL18, pxL19, pxL20, pxL21, pxL22, pxL23, pxL24, pxL25, pxL26, pxL27, pxL28, pxL29, pxL30, pxL31, pxL32, pxL33, pxL34, pxL35, pxL36, pxL37, pxL38, pxL39, pxL40, pxL41, pxL42, pxL43, pxL44, pxL45, pxL46, pxL47, pxL48, pxL49, pxL51, pxL57, pxL58, pxL59, pxL60, pxL61, pxL62, pxL63, pxL64, pxL65, pxL66, pxL67, pxL68, pxL69, pxL70, pxL71, pxL72, pxL73, pxL74, pxL75, pxL76, pxL77, pxL78, pxL79, pxL80, pxL81, pxL82, pxL83, pxL84, pxL85, pxL86, pxL87, pxL88, pxL89, pxL90, pxL91, pxL92, pxL93, pxL94, pxL95, pxL96, pxL97, pxL98, pxL99, pxL100, pxL101, pxL102, pxL103, pxL104, pxL105, pxL106, pxL107, pxL108, pxL109, pxL110, pxL111, pxL112, pxL113, pxL114, pxL115, pxL116, pxL117, pxL118, pxL119, pxL120, pxL121, pxL122, pxL123, pxL124, pxL125, pxL126, pxL200, pxL240, pxL287, pxL388, pxL400, pxL429, pxL431, pxL440, pxL1240, pxL1600, pxL1681, pxL12028, pxL13849, pxL14880, pxL25173, pxL26908, pxL49600, pxL65535, pxL65536, ↓reduceIte, reduceCtorEq, pxJ_add, pxJ_sub, pxJ_mul, pxJ_neg, pxD_lt_t, pxD_lt_f, pxD_le_t, pxD_le_f, pxD_eq_t, pxD_eq_f, pxJ_lt, pxJ_le, pxJ_eq, px_gI, px_gR, px_pI, px_rc, px_ai, px_ar, px_si, px_ln, px_cp, pxJ_div, pxJ_b8, pxJ_byte, px_b2, px_bs, px_rb0, px_rb1, px_min, px_max, px_compare, pxW_some, jw_t_I, px_cpt, jw_r_I, px_cpr, jw_l_I, px_cpl, Option.some.injEq, t51, px_pB1, t12, b22]
    · obtain ⟨h2, e2, F3⟩ := s_X1_holdsAt H2 PS2 (by omega) (a := 14 + 4 * i) t141 A22 (k2 w3)
      refine fin h2 _ F3 ?_
      rw [if_neg z]
      unfold g_X1_holds_b94
      clear H OC GM oa ob ok PG oka okw g1 g2 g3 H1 PS1 A11 A21 A1 A2 n1 F1 vb nr fin head hd eA F2 F12 H2 PS2 A22 c F3
      simp (maxSteps := 4000000) (disch := first | assumption | omega | (simp only [jw_t_I, px_cpt, t51]; done) | (simp only [jw_t_I, px_cpt, t51]; omega)) only [pxL0, pxL1, pxL2, pxL3, pxL4, pxL5, pxL6, pxL7, pxL8, pxL9, pxL10, pxL11, pxL12, pxL13, pxL14, pxL15, pxL16, pxL17, pxL18, pxL19, pxL20, pxL21, pxL22, pxL23, pxL24, pxL25, pxL26, pxL27, pxL28, pxL29, pxL30, pxL31, pxL32, pxL33, pxL34, pxL35, pxL36, pxL37, pxL38, pxL39, pxL40, pxL41, pxL42, pxL43, pxL44, pxL45, pxL46, pxL47, pxL48, pxL49, pxL51, pxL57, pxL58, pxL59, pxL60, pxL61, pxL62, pxL63, pxL64, pxL65, pxL66, pxL67, pxL68, pxL69, pxL70, pxL71, pxL72, pxL73, pxL74, pxL75, pxL76, pxL77, pxL78, pxL79, pxL80, pxL81, pxL82, pxL83, pxL84, pxL85, pxL86, pxL87, pxL88, pxL89, pxL90, pxL91, pxL92, pxL93, pxL94, pxL95, pxL96, pxL97, pxL98, pxL99, pxL100, pxL101, pxL102, pxL103, pxL104, pxL105, pxL106, pxL107, pxL108, pxL109, pxL110, pxL111, pxL112, pxL113, pxL114, pxL115, pxL116, pxL117, pxL118, pxL119, pxL120, pxL121, pxL122, pxL123, pxL124, pxL125, pxL126, pxL200, pxL240, pxL287, pxL388, pxL400, pxL429, pxL431, pxL440, pxL1240, pxL1600, pxL1681, pxL12028, pxL13849, pxL14880, pxL25173, pxL26908, pxL49600, pxL65535, pxL65536, ↓reduceIte, reduceCtorEq, pxJ_add, pxJ_sub, pxJ_mul, pxJ_neg, pxD_lt_t, pxD_lt_f, pxD_le_t, pxD_le_f, pxD_eq_t, pxD_eq_f, pxJ_lt, pxJ_le, pxJ_eq, px_gI, px_gR, px_pI, px_rc, px_ai, px_ar, px_si, px_ln, px_cp, pxJ_div, pxJ_b8, pxJ_byte, px_b2, px_bs, px_rb0, px_rb1, px_min, px_max, px_compare, pxW_some, jw_t_I, px_cpt, jw_r_I, px_cpr, jw_l_I, px_cpl, Option.some.injEq, t51, px_pB1, t12, rb2, e2]
  · rw [if_neg c, if_neg c]
    obtain ⟨h2, e2, F2⟩ := s_X1_holdsAt H1 PS1 (by omega) (a := 13 + 4 * i) t131 A11 (k1 (by omega))
    generalize pxBAt s p (T.1.length : Int) W Fr = x at *
    have t52 : (jw_t h2 (12 + 4 * i)).1 = 5 := by rw [F2.t]; exact t51
    have t12 : (jw_t h2 571).1 = 1 := by rw [F2.t]; exact t11
    have b22 : pxM (jw_setI h2 (12 + 4 * i) 11 (pxJ (if x = true then 1 else 0))) 571 11 = W.2.1 := by rw [pxM_ne (by omega), F2.m (by unfold pxQx; omega)]; exact b21
    have e3 : g_X1_holds_b134 h1 571 (some (12 + 4 * i)) (pxJ (if isN = true then 1 else 0)) vn = g_X1_holds_b164 (jw_setI h2 (12 + 4 * i) 11 (pxJ (if x = true then 1 else 0))) (some (12 + 4 * i)) (some (12 + 4 * i)) (pxJ (if (isN && decide (num ≤ W.2.1)) = true then 1 else 0)) := by
      unfold g_X1_holds_b134 g_X1_holds_b163
      have pb := px_pBi (h := h2) (c := 5) (k := 12 + 4 * i) (f := 11) (x := x) t52
      cases isN with
      | false =>
        rw [if_neg (show ¬ (false = true) by decide), Bool.false_and, if_neg (show ¬ (false = true) by decide)]
        clear H OC GM oa ob ok PG oka okw g1 g2 g3 H1 PS1 A11 A21 A1 A2 n1 F1 vb nr head hd c F2
        simp (maxSteps := 4000000) (disch := first | assumption | omega | (simp only [jw_t_I, px_cpt, t51]; done) | (simp only [jw_t_I, px_cpt, t51]; omega)) only [pxL0, pxL1, pxL2, pxL3, pxL4, pxL5, pxL6, pxL7, pxL8, pxL9, pxL10, pxL11, pxL12, pxL13, pxL14, pxL15, pxL16, pxL17, pxL18, pxL19, pxL20, pxL21, pxL22, pxL23, pxL24, pxL25, pxL26, pxL27, pxL28, pxL29, pxL30, pxL31, pxL32, pxL33, pxL34, pxL35, pxL36, pxL37, pxL38, pxL39, pxL40, pxL41, pxL42, pxL43, pxL44, pxL45, pxL46, pxL47, pxL48, pxL49, pxL51, pxL57, pxL58, pxL59, pxL60, pxL61, pxL62, pxL63, pxL64, pxL65, pxL66, pxL67, pxL68, pxL69, pxL70, pxL71, pxL72, pxL73, pxL74, pxL75, pxL76, pxL77, pxL78, pxL79, pxL80, pxL81, pxL82, pxL83, pxL84, pxL85, pxL86, pxL87, pxL88, pxL89, pxL90, pxL91, pxL92, pxL93, pxL94, pxL95, pxL96, pxL97, pxL98, pxL99, pxL100, pxL101, pxL102, pxL103, pxL104, pxL105, pxL106, pxL107, pxL108, pxL109, pxL110, pxL111, pxL112, pxL113, pxL114, pxL115, pxL116, pxL117, pxL118, pxL119, pxL120, pxL121, pxL122, pxL123, pxL124, pxL125, pxL126, pxL200, pxL240, pxL287, pxL388, pxL400, pxL429, pxL431, pxL440, pxL1240, pxL1600, pxL1681, pxL12028, pxL13849, pxL14880, pxL25173, pxL26908, pxL49600, pxL65535, pxL65536, ↓reduceIte, reduceCtorEq, pxJ_add, pxJ_sub, pxJ_mul, pxJ_neg, pxD_lt_t, pxD_lt_f, pxD_le_t, pxD_le_f, pxD_eq_t, pxD_eq_f, pxJ_lt, pxJ_le, pxJ_eq, px_gI, px_gR, px_pI, px_rc, px_ai, px_ar, px_si, px_ln, px_cp, pxJ_div, pxJ_b8, pxJ_byte, px_b2, px_bs, px_rb0, px_rb1, px_min, px_max, px_compare, pxW_some, jw_t_I, px_cpt, jw_r_I, px_cpr, jw_l_I, px_cpl, Option.some.injEq, t51, ra1, t11, e2, pb]
      | true =>
        have vb' := vb rfl
        have nr' := nr rfl
        rw [if_pos rfl, Bool.true_and, vb']
        clear H OC GM oa ob ok PG oka okw g1 g2 g3 H1 PS1 A11 A21 A1 A2 n1 F1 vb nr head hd c F2
        by_cases d : num ≤ W.2.1
        · rw [decide_eq_true d, if_pos (show true = true from rfl)]
          simp (maxSteps := 4000000) (disch := first | assumption | omega | (simp only [jw_t_I, px_cpt, t51, t12]; done) | (simp only [jw_t_I, px_cpt, t51, t12]; omega)) only [pxL0, pxL1, pxL2, pxL3, pxL4, pxL5, pxL6, pxL7, pxL8, pxL9, pxL10, pxL11, pxL12, pxL13, pxL14, pxL15, pxL16, pxL17, pxL18, pxL19, pxL20, pxL21, pxL22, pxL23, pxL24, pxL25, pxL26, pxL27, pxL28, pxL29, pxL30, pxL31, pxL32, pxL33, pxL34, pxL35, pxL36, pxL37, pxL38, pxL39, pxL40, pxL41, pxL42, pxL43, pxL44, pxL45, pxL46, pxL47, pxL48, pxL49, pxL51, pxL57, pxL58, pxL59, pxL60, pxL61, pxL62, pxL63, pxL64, pxL65, pxL66, pxL67, pxL68, pxL69, pxL70, pxL71, pxL72, pxL73, pxL74, pxL75, pxL76, pxL77, pxL78, pxL79, pxL80, pxL81, pxL82, pxL83, pxL84, pxL85, pxL86, pxL87, pxL88, pxL89, pxL90, pxL91, pxL92, pxL93, pxL94, pxL95, pxL96, pxL97, pxL98, pxL99, pxL100, pxL101, pxL102, pxL103, pxL104, pxL105, pxL106, pxL107, pxL108, pxL109, pxL110, pxL111, pxL112, pxL113, pxL114, pxL115, pxL116, pxL117, pxL118, pxL119, pxL120, pxL121, pxL122, pxL123, pxL124, pxL125, pxL126, pxL200, pxL240, pxL287, pxL388, pxL400, pxL429, pxL431, pxL440, pxL1240, pxL1600, pxL1681, pxL12028, pxL13849, pxL14880, pxL25173, pxL26908, pxL49600, pxL65535, pxL65536, ↓reduceIte, reduceCtorEq, pxJ_add, pxJ_sub, pxJ_mul, pxJ_neg, pxD_lt_t, pxD_lt_f, pxD_le_t, pxD_le_f, pxD_eq_t, pxD_eq_f, pxJ_lt, pxJ_le, pxJ_eq, px_gI, px_gR, px_pI, px_rc, px_ai, px_ar, px_si, px_ln, px_cp, pxJ_div, pxJ_b8, pxJ_byte, px_b2, px_bs, px_rb0, px_rb1, px_min, px_max, px_compare, pxW_some, jw_t_I, px_cpt, jw_r_I, px_cpr, jw_l_I, px_cpl, Option.some.injEq, t51, t12, ra1, t11, e2, pb, b22]
        · rw [decide_eq_false d, if_neg (show ¬ (false = true) by decide)]
          simp (maxSteps := 4000000) (disch := first | assumption | omega | (simp only [jw_t_I, px_cpt, t51, t12]; done) | (simp only [jw_t_I, px_cpt, t51, t12]; omega)) only [pxL0, pxL1, pxL2, pxL3, pxL4, pxL5, pxL6, pxL7, pxL8, pxL9, pxL10, pxL11, pxL12, pxL13, pxL14, pxL15, pxL16, pxL17, pxL18, pxL19, pxL20, pxL21, pxL22, pxL23, pxL24, pxL25, pxL26, pxL27, pxL28, pxL29, pxL30, pxL31, pxL32, pxL33, pxL34, pxL35, pxL36, pxL37, pxL38, pxL39, pxL40, pxL41, pxL42, pxL43, pxL44, pxL45, pxL46, pxL47, pxL48, pxL49, pxL51, pxL57, pxL58, pxL59, pxL60, pxL61, pxL62, pxL63, pxL64, pxL65, pxL66, pxL67, pxL68, pxL69, pxL70, pxL71, pxL72, pxL73, pxL74, pxL75, pxL76, pxL77, pxL78, pxL79, pxL80, pxL81, pxL82, pxL83, pxL84, pxL85, pxL86, pxL87, pxL88, pxL89, pxL90, pxL91, pxL92, pxL93, pxL94, pxL95, pxL96, pxL97, pxL98, pxL99, pxL100, pxL101, pxL102, pxL103, pxL104, pxL105, pxL106, pxL107, pxL108, pxL109, pxL110, pxL111, pxL112, pxL113, pxL114, pxL115, pxL116, pxL117, pxL118, pxL119, pxL120, pxL121, pxL122, pxL123, pxL124, pxL125, pxL126, pxL200, pxL240, pxL287, pxL388, pxL400, pxL429, pxL431, pxL440, pxL1240, pxL1600, pxL1681, pxL12028, pxL13849, pxL14880, pxL25173, pxL26908, pxL49600, pxL65535, pxL65536, ↓reduceIte, reduceCtorEq, pxJ_add, pxJ_sub, pxJ_mul, pxJ_neg, pxD_lt_t, pxD_lt_f, pxD_le_t, pxD_le_f, pxD_eq_t, pxD_eq_f, pxJ_lt, pxJ_le, pxJ_eq, px_gI, px_gR, px_pI, px_rc, px_ai, px_ar, px_si, px_ln, px_cp, pxJ_div, pxJ_b8, pxJ_byte, px_b2, px_bs, px_rb0, px_rb1, px_min, px_max, px_compare, pxW_some, jw_t_I, px_cpt, jw_r_I, px_cpr, jw_l_I, px_cpl, Option.some.injEq, t51, t12, ra1, t11, e2, pb, b22]
    have m112 : pxM (jw_setI h2 (12 + 4 * i) 11 (pxJ (if x = true then 1 else 0))) (12 + 4 * i) 11 = if x = true then 1 else 0 := pxM_b
    have e4 := s_X1_holds_b164 (h := jw_setI h2 (12 + 4 * i) 11 (pxJ (if x = true then 1 else 0))) (f := x) (o := isN && decide (num ≤ W.2.1)) t52 m112
    refine ⟨_, e3.trans e4, (F1.trans (F2.mono (fun k f z => Or.inl z))).trans (((pxF.setI (by unfold pxQo2; omega)).trans (pxF.setI (by unfold pxQo2; omega))).trans (pxF.setI (by unfold pxQo2; omega))), pxM_b, ?_, ?_, ?_⟩
    · rw [pxM_ne (by omega), pxM_ne (by omega)]; exact m112
    · rw [pxM_ne (by omega)]; exact pxM_b
    · rw [pxM_ne (by omega), pxM_ne (by omega), pxM_ne (by omega), F2.m (by unfold pxQx; omega)]; exact m13e
end
