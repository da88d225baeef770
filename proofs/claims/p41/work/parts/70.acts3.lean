/-! orders: turning, and a cleared order -/
theorem px_pB0 {h : jw_H} {c k f : Nat} (e : (jw_t h k).1 = c) : jw_pB h c (some k) f (pxJ 0) = some (jw_setI h k f (pxJ 0)) := px_pB e (Or.inl rfl)
theorem px_pB1 {h : jw_H} {c k f : Nat} (e : (jw_t h k).1 = c) : jw_pB h c (some k) f (pxJ 1) = some (jw_setI h k f (pxJ 1)) := px_pB e (Or.inr rfl)
section
variable {b : Nat} {s : List Int}
theorem s_X6_readTurn_b21 {o : Option Nat} : ∀ (m N : Nat) (h : jw_H) (q st : Int), s.length < q + m → m ≤ N → pxPG h b s → pxM h 10 5 = q → 0 ≤ q → q ≤ s.length → 0 ≤ st → st ≤ q →
    f_X6_readTurn_b21 N h 10 o (pxJ st) = g_X6_readTurn_b55 (pxPl h (q + (pxSpan s q).length)) 10 o := by
  intro m
  induction m with
  | zero => intro N h q st hm; omega
  | succ m ih =>
    intro N h q st hm hN G hp h0 h1 s0 s1
    obtain ⟨N, rfl, hN⟩ := px_fu hN
    have pk := s_X6_peek G hp h0
    have hin := pxP_in G.2.2.2.2.1 q
    have tg := G.1.1
    have n60 := G.2.2.2.2.1.1
    have bo := px_bitOf (h := h) (c := pxP s q) (by omega) (by omega)
    have ee : jw_setI h 10 5 (pxJ (q + 1)) = pxPl h (q + 1) := rfl
    have no60 : ((60 : Int32) < pxJ st) = False := by simp (disch := first | assumption | omega | (simp only [jw_t_I, px_cpt]; done) | (simp only [jw_t_I, px_cpt]; omega)) only [pxL0, pxL1, pxL2, pxL3, pxL4, pxL5, pxL6, pxL7, pxL8, pxL9, pxL10, pxL11, pxL12, pxL13, pxL14, pxL15, pxL16, pxL17, pxL18, pxL19, pxL20, pxL21, pxL22, pxL23, pxL24, pxL25, pxL26, pxL27, pxL28, pxL29, pxL30, pxL31, pxL32, pxL33, pxL34, pxL35, pxL36, pxL37, pxL38, pxL39, pxL40, pxL41, pxL42, pxL43, pxL44, pxL45, pxL46, pxL47, pxL48, pxL49, pxL51, pxL57, pxL58, pxL59, pxL60, pxL61, pxL62, pxL63, pxL64, pxL65, pxL66, pxL67, pxL68, pxL69, pxL70, pxL71, pxL72, pxL73, pxL74, pxL75, pxL76, pxL77, pxL78, pxL79, pxL80, pxL81, pxL82, pxL83, pxL84, pxL85, pxL86, pxL87, pxL88, pxL89, pxL90, pxL91, pxL92, pxL93, pxL94, pxL95, pxL96, pxL97, pxL98, pxL99, pxL100, pxL101, pxL102, pxL103, pxL104, pxL105, pxL106, pxL107, pxL108, pxL109, pxL110, pxL111, pxL112, pxL113, pxL114, pxL115, pxL116, pxL117, pxL118, pxL119, pxL120, pxL121, pxL122, pxL123, pxL124, pxL125, pxL126, pxL200, pxL240, pxL287, pxL388, pxL400, pxL429, pxL431, pxL440, pxL1240, pxL1600, pxL1681, pxL12028, pxL13849, pxL14880, pxL25173, pxL26908, pxL49600, pxL65535, pxL65536, ↓reduceIte, pxJ_add, pxJ_sub, pxJ_mul, pxJ_neg, pxD_lt_t, pxD_lt_f, pxD_le_t, pxD_le_f, pxD_eq_t, pxD_eq_f, pxJ_lt, pxJ_le, pxJ_eq, px_gI, px_gR, px_pI, px_rc, px_ai, px_ar, px_si, px_ln, px_cp, pxJ_div, pxJ_b8, pxJ_byte, px_b2, px_bs, px_rb0, px_rb1, px_min, px_max, px_compare, pxW_some, jw_t_I, px_cpt, jw_r_I, px_cpr, jw_l_I, px_cpl, Option.some.injEq]
    rw [u_X6_readTurn_b21]
    unfold g_X6_readTurn_b21
    by_cases d : pxIsCh (pxP s q) = true
    · have lt := pxP_lt (s := s) (p := q) (by have := pxIsCh_i.mp d; omega)
      have hb := pxBit_ne d
      have := ih N (pxPl h (q + 1)) (q + 1) (st + 1) (by omega) (by omega) (pxPl_G G) (pxPl_p (by omega) (by omega)) (by omega) (by omega) (by omega) (by omega)
      rw [pxPl_2] at this
      rw [pxSpan_c h0 d, List.length_cons, show q + (((pxSpan s (q + 1)).length + 1 : Nat) : Int) = q + 1 + (pxSpan s (q + 1)).length by omega, ← this]
      simp (disch := first | assumption | omega | (simp only [jw_t_I, px_cpt]; done) | (simp only [jw_t_I, px_cpt]; omega)) only [pxL0, pxL1, pxL2, pxL3, pxL4, pxL5, pxL6, pxL7, pxL8, pxL9, pxL10, pxL11, pxL12, pxL13, pxL14, pxL15, pxL16, pxL17, pxL18, pxL19, pxL20, pxL21, pxL22, pxL23, pxL24, pxL25, pxL26, pxL27, pxL28, pxL29, pxL30, pxL31, pxL32, pxL33, pxL34, pxL35, pxL36, pxL37, pxL38, pxL39, pxL40, pxL41, pxL42, pxL43, pxL44, pxL45, pxL46, pxL47, pxL48, pxL49, pxL51, pxL57, pxL58, pxL59, pxL60, pxL61, pxL62, pxL63, pxL64, pxL65, pxL66, pxL67, pxL68, pxL69, pxL70, pxL71, pxL72, pxL73, pxL74, pxL75, pxL76, pxL77, pxL78, pxL79, pxL80, pxL81, pxL82, pxL83, pxL84, pxL85, pxL86, pxL87, pxL88, pxL89, pxL90, pxL91, pxL92, pxL93, pxL94, pxL95, pxL96, pxL97, pxL98, pxL99, pxL100, pxL101, pxL102, pxL103, pxL104, pxL105, pxL106, pxL107, pxL108, pxL109, pxL110, pxL111, pxL112, pxL113, pxL114, pxL115, pxL116, pxL117, pxL118, pxL119, pxL120, pxL121, pxL122, pxL123, pxL124, pxL125, pxL126, pxL200, pxL240, pxL287, pxL388, pxL400, pxL429, pxL431, pxL440, pxL1240, pxL1600, pxL1681, pxL12028, pxL13849, pxL14880, pxL25173, pxL26908, pxL49600, pxL65535, pxL65536, ↓reduceIte, pxJ_add, pxJ_sub, pxJ_mul, pxJ_neg, pxD_lt_t, pxD_lt_f, pxD_le_t, pxD_le_f, pxD_eq_t, pxD_eq_f, pxJ_lt, pxJ_le, pxJ_eq, px_gI, px_gR, px_pI, px_rc, px_ai, px_ar, px_si, px_ln, px_cp, pxJ_div, pxJ_b8, pxJ_byte, px_b2, px_bs, px_rb0, px_rb1, px_min, px_max, px_compare, pxW_some, jw_t_I, px_cpt, jw_r_I, px_cpr, jw_l_I, px_cpl, Option.some.injEq, pk, bo, px_cmp0, hb, hp, ee]
    · have hb := pxBit_z d
      rw [pxSpan_n h0 d, show q + (([] : List Int).length : Int) = q by simp, pxPl_id hp]
      simp (disch := first | assumption | omega | (simp only [jw_t_I, px_cpt]; done) | (simp only [jw_t_I, px_cpt]; omega)) only [pxL0, pxL1, pxL2, pxL3, pxL4, pxL5, pxL6, pxL7, pxL8, pxL9, pxL10, pxL11, pxL12, pxL13, pxL14, pxL15, pxL16, pxL17, pxL18, pxL19, pxL20, pxL21, pxL22, pxL23, pxL24, pxL25, pxL26, pxL27, pxL28, pxL29, pxL30, pxL31, pxL32, pxL33, pxL34, pxL35, pxL36, pxL37, pxL38, pxL39, pxL40, pxL41, pxL42, pxL43, pxL44, pxL45, pxL46, pxL47, pxL48, pxL49, pxL51, pxL57, pxL58, pxL59, pxL60, pxL61, pxL62, pxL63, pxL64, pxL65, pxL66, pxL67, pxL68, pxL69, pxL70, pxL71, pxL72, pxL73, pxL74, pxL75, pxL76, pxL77, pxL78, pxL79, pxL80, pxL81, pxL82, pxL83, pxL84, pxL85, pxL86, pxL87, pxL88, pxL89, pxL90, pxL91, pxL92, pxL93, pxL94, pxL95, pxL96, pxL97, pxL98, pxL99, pxL100, pxL101, pxL102, pxL103, pxL104, pxL105, pxL106, pxL107, pxL108, pxL109, pxL110, pxL111, pxL112, pxL113, pxL114, pxL115, pxL116, pxL117, pxL118, pxL119, pxL120, pxL121, pxL122, pxL123, pxL124, pxL125, pxL126, pxL200, pxL240, pxL287, pxL388, pxL400, pxL429, pxL431, pxL440, pxL1240, pxL1600, pxL1681, pxL12028, pxL13849, pxL14880, pxL25173, pxL26908, pxL49600, pxL65535, pxL65536, ↓reduceIte, pxJ_add, pxJ_sub, pxJ_mul, pxJ_neg, pxD_lt_t, pxD_lt_f, pxD_le_t, pxD_le_f, pxD_eq_t, pxD_eq_f, pxJ_lt, pxJ_le, pxJ_eq, px_gI, px_gR, px_pI, px_rc, px_ai, px_ar, px_si, px_ln, px_cp, pxJ_div, pxJ_b8, pxJ_byte, px_b2, px_bs, px_rb0, px_rb1, px_min, px_max, px_compare, pxW_some, jw_t_I, px_cpt, jw_r_I, px_cpr, jw_l_I, px_cpl, Option.some.injEq, pk, bo, px_cmp0, hb]
theorem s_X6_readTurn_b96 {i : Nat} {n : Int} (hi : i < 60) (n1 : n ≤ 60) : ∀ (m N : Nat) (h : jw_H) (q st : Int), st + m = n → m < N → pxPG h b s → pxM h 10 5 = q → pxM h (12 + 4 * i) 5 = n → 0 ≤ q → q ≤ s.length → 0 ≤ st →
    f_X6_readTurn_b96 N h 10 (some (12 + 4 * i)) (pxJ st) = if ((pxSpan s q).length : Int) < n - st then some (pxJ 0, pxPl h (q + (pxSpan s q).length)) else some (pxJ (if pxP s (q + (n - st)) = 47 then 1 else 0), pxPl h (if pxP s (q + (n - st)) = 47 then q + (n - st) + 1 else q + (n - st))) := by
  intro m
  induction m with
  | zero =>
    intro N h q st hm hN G hp hn h0 h1 s0
    obtain ⟨N, rfl, hN⟩ := px_fu hN
    have tg := G.1.1
    have n60 := G.2.2.2.2.1.1
    obtain ⟨r1, t5, ra, rb, rc, t13, t14, t15⟩ := G.1.2.2.2.2.2.2.2 i hi
    have ps := s_X6_pass G hp h0 (c := 47) (by omega) (by omega)
    have c : ¬ ((pxSpan s q).length : Int) < n - st := by omega
    have e : q + (n - st) = q := by omega
    rw [u_X6_readTurn_b96, if_neg c, e]
    unfold g_X6_readTurn_b96
    by_cases d : pxP s q = 47
    · simp only [if_pos d] at ps ⊢
      simp (disch := first | assumption | omega | (simp only [jw_t_I, px_cpt]; done) | (simp only [jw_t_I, px_cpt]; omega)) only [pxL0, pxL1, pxL2, pxL3, pxL4, pxL5, pxL6, pxL7, pxL8, pxL9, pxL10, pxL11, pxL12, pxL13, pxL14, pxL15, pxL16, pxL17, pxL18, pxL19, pxL20, pxL21, pxL22, pxL23, pxL24, pxL25, pxL26, pxL27, pxL28, pxL29, pxL30, pxL31, pxL32, pxL33, pxL34, pxL35, pxL36, pxL37, pxL38, pxL39, pxL40, pxL41, pxL42, pxL43, pxL44, pxL45, pxL46, pxL47, pxL48, pxL49, pxL51, pxL57, pxL58, pxL59, pxL60, pxL61, pxL62, pxL63, pxL64, pxL65, pxL66, pxL67, pxL68, pxL69, pxL70, pxL71, pxL72, pxL73, pxL74, pxL75, pxL76, pxL77, pxL78, pxL79, pxL80, pxL81, pxL82, pxL83, pxL84, pxL85, pxL86, pxL87, pxL88, pxL89, pxL90, pxL91, pxL92, pxL93, pxL94, pxL95, pxL96, pxL97, pxL98, pxL99, pxL100, pxL101, pxL102, pxL103, pxL104, pxL105, pxL106, pxL107, pxL108, pxL109, pxL110, pxL111, pxL112, pxL113, pxL114, pxL115, pxL116, pxL117, pxL118, pxL119, pxL120, pxL121, pxL122, pxL123, pxL124, pxL125, pxL126, pxL200, pxL240, pxL287, pxL388, pxL400, pxL429, pxL431, pxL440, pxL1240, pxL1600, pxL1681, pxL12028, pxL13849, pxL14880, pxL25173, pxL26908, pxL49600, pxL65535, pxL65536, ↓reduceIte, pxJ_add, pxJ_sub, pxJ_mul, pxJ_neg, pxD_lt_t, pxD_lt_f, pxD_le_t, pxD_le_f, pxD_eq_t, pxD_eq_f, pxJ_lt, pxJ_le, pxJ_eq, px_gI, px_gR, px_pI, px_rc, px_ai, px_ar, px_si, px_ln, px_cp, pxJ_div, pxJ_b8, pxJ_byte, px_b2, px_bs, px_rb0, px_rb1, px_min, px_max, px_compare, pxW_some, jw_t_I, px_cpt, jw_r_I, px_cpr, jw_l_I, px_cpl, Option.some.injEq, hn, ps]
    · simp only [if_neg d] at ps ⊢
      simp (disch := first | assumption | omega | (simp only [jw_t_I, px_cpt]; done) | (simp only [jw_t_I, px_cpt]; omega)) only [pxL0, pxL1, pxL2, pxL3, pxL4, pxL5, pxL6, pxL7, pxL8, pxL9, pxL10, pxL11, pxL12, pxL13, pxL14, pxL15, pxL16, pxL17, pxL18, pxL19, pxL20, pxL21, pxL22, pxL23, pxL24, pxL25, pxL26, pxL27, pxL28, pxL29, pxL30, pxL31, pxL32, pxL33, pxL34, pxL35, pxL36, pxL37, pxL38, pxL39, pxL40, pxL41, pxL42, pxL43, pxL44, pxL45, pxL46, pxL47, pxL48, pxL49, pxL51, pxL57, pxL58, pxL59, pxL60, pxL61, pxL62, pxL63, pxL64, pxL65, pxL66, pxL67, pxL68, pxL69, pxL70, pxL71, pxL72, pxL73, pxL74, pxL75, pxL76, pxL77, pxL78, pxL79, pxL80, pxL81, pxL82, pxL83, pxL84, pxL85, pxL86, pxL87, pxL88, pxL89, pxL90, pxL91, pxL92, pxL93, pxL94, pxL95, pxL96, pxL97, pxL98, pxL99, pxL100, pxL101, pxL102, pxL103, pxL104, pxL105, pxL106, pxL107, pxL108, pxL109, pxL110, pxL111, pxL112, pxL113, pxL114, pxL115, pxL116, pxL117, pxL118, pxL119, pxL120, pxL121, pxL122, pxL123, pxL124, pxL125, pxL126, pxL200, pxL240, pxL287, pxL388, pxL400, pxL429, pxL431, pxL440, pxL1240, pxL1600, pxL1681, pxL12028, pxL13849, pxL14880, pxL25173, pxL26908, pxL49600, pxL65535, pxL65536, ↓reduceIte, pxJ_add, pxJ_sub, pxJ_mul, pxJ_neg, pxD_lt_t, pxD_lt_f, pxD_le_t, pxD_le_f, pxD_eq_t, pxD_eq_f, pxJ_lt, pxJ_le, pxJ_eq, px_gI, px_gR, px_pI, px_rc, px_ai, px_ar, px_si, px_ln, px_cp, pxJ_div, pxJ_b8, pxJ_byte, px_b2, px_bs, px_rb0, px_rb1, px_min, px_max, px_compare, pxW_some, jw_t_I, px_cpt, jw_r_I, px_cpr, jw_l_I, px_cpl, Option.some.injEq, hn, ps]
  | succ m ih =>
    intro N h q st hm hN G hp hn h0 h1 s0
    obtain ⟨N, rfl, hN⟩ := px_fu hN
    have pk := s_X6_peek G hp h0
    have hin := pxP_in G.2.2.2.2.1 q
    have tg := G.1.1
    have n60 := G.2.2.2.2.1.1
    obtain ⟨r1, t5, ra, rb, rc, t13, t14, t15⟩ := G.1.2.2.2.2.2.2.2 i hi
    have bo := px_bitOf (h := h) (c := pxP s q) (by omega) (by omega)
    have ee : jw_setI h 10 5 (pxJ (q + 1)) = pxPl h (q + 1) := rfl
    rw [u_X6_readTurn_b96]
    unfold g_X6_readTurn_b96
    by_cases d : pxIsCh (pxP s q) = true
    · have lt := pxP_lt (s := s) (p := q) (by have := pxIsCh_i.mp d; omega)
      have hb := pxBit_ne d
      have := ih N (pxPl h (q + 1)) (q + 1) (st + 1) (by omega) (by omega) (pxPl_G G) (pxPl_p (by omega) (by omega)) (by rw [pxPl_n (by omega)]; exact hn) (by omega) (by omega) (by omega)
      simp only [pxPl_2] at this
      rw [show q + 1 + (n - (st + 1)) = q + (n - st) by omega] at this
      have el : ((pxSpan s q).length : Int) = (pxSpan s (q + 1)).length + 1 := by rw [pxSpan_c h0 d, List.length_cons]; omega
      have e2 : (((pxSpan s q).length : Int) < n - st) = (((pxSpan s (q + 1)).length : Int) < n - (st + 1)) := by apply propext; omega
      have e3 : q + ((pxSpan s q).length : Int) = q + 1 + (pxSpan s (q + 1)).length := by omega
      simp only [e2, e3, ← this]
      simp (disch := first | assumption | omega | (simp only [jw_t_I, px_cpt]; done) | (simp only [jw_t_I, px_cpt]; omega)) only [pxL0, pxL1, pxL2, pxL3, pxL4, pxL5, pxL6, pxL7, pxL8, pxL9, pxL10, pxL11, pxL12, pxL13, pxL14, pxL15, pxL16, pxL17, pxL18, pxL19, pxL20, pxL21, pxL22, pxL23, pxL24, pxL25, pxL26, pxL27, pxL28, pxL29, pxL30, pxL31, pxL32, pxL33, pxL34, pxL35, pxL36, pxL37, pxL38, pxL39, pxL40, pxL41, pxL42, pxL43, pxL44, pxL45, pxL46, pxL47, pxL48, pxL49, pxL51, pxL57, pxL58, pxL59, pxL60, pxL61, pxL62, pxL63, pxL64, pxL65, pxL66, pxL67, pxL68, pxL69, pxL70, pxL71, pxL72, pxL73, pxL74, pxL75, pxL76, pxL77, pxL78, pxL79, pxL80, pxL81, pxL82, pxL83, pxL84, pxL85, pxL86, pxL87, pxL88, pxL89, pxL90, pxL91, pxL92, pxL93, pxL94, pxL95, pxL96, pxL97, pxL98, pxL99, pxL100, pxL101, pxL102, pxL103, pxL104, pxL105, pxL106, pxL107, pxL108, pxL109, pxL110, pxL111, pxL112, pxL113, pxL114, pxL115, pxL116, pxL117, pxL118, pxL119, pxL120, pxL121, pxL122, pxL123, pxL124, pxL125, pxL126, pxL200, pxL240, pxL287, pxL388, pxL400, pxL429, pxL431, pxL440, pxL1240, pxL1600, pxL1681, pxL12028, pxL13849, pxL14880, pxL25173, pxL26908, pxL49600, pxL65535, pxL65536, ↓reduceIte, pxJ_add, pxJ_sub, pxJ_mul, pxJ_neg, pxD_lt_t, pxD_lt_f, pxD_le_t, pxD_le_f, pxD_eq_t, pxD_eq_f, pxJ_lt, pxJ_le, pxJ_eq, px_gI, px_gR, px_pI, px_rc, px_ai, px_ar, px_si, px_ln, px_cp, pxJ_div, pxJ_b8, pxJ_byte, px_b2, px_bs, px_rb0, px_rb1, px_min, px_max, px_compare, pxW_some, jw_t_I, px_cpt, jw_r_I, px_cpr, jw_l_I, px_cpl, Option.some.injEq, pk, bo, px_cmp0, hb, hp, ee, hn]
    · have hb := pxBit_z d
      have e0 : pxSpan s q = [] := pxSpan_n h0 d
      have c : ((pxSpan s q).length : Int) < n - st := by rw [e0]; show (0 : Int) < n - st; omega
      have e1 : q + ((pxSpan s q).length : Int) = q := by rw [e0]; simp
      rw [if_pos c, e1, pxPl_id hp]
      simp (disch := first | assumption | omega | (simp only [jw_t_I, px_cpt]; done) | (simp only [jw_t_I, px_cpt]; omega)) only [pxL0, pxL1, pxL2, pxL3, pxL4, pxL5, pxL6, pxL7, pxL8, pxL9, pxL10, pxL11, pxL12, pxL13, pxL14, pxL15, pxL16, pxL17, pxL18, pxL19, pxL20, pxL21, pxL22, pxL23, pxL24, pxL25, pxL26, pxL27, pxL28, pxL29, pxL30, pxL31, pxL32, pxL33, pxL34, pxL35, pxL36, pxL37, pxL38, pxL39, pxL40, pxL41, pxL42, pxL43, pxL44, pxL45, pxL46, pxL47, pxL48, pxL49, pxL51, pxL57, pxL58, pxL59, pxL60, pxL61, pxL62, pxL63, pxL64, pxL65, pxL66, pxL67, pxL68, pxL69, pxL70, pxL71, pxL72, pxL73, pxL74, pxL75, pxL76, pxL77, pxL78, pxL79, pxL80, pxL81, pxL82, pxL83, pxL84, pxL85, pxL86, pxL87, pxL88, pxL89, pxL90, pxL91, pxL92, pxL93, pxL94, pxL95, pxL96, pxL97, pxL98, pxL99, pxL100, pxL101, pxL102, pxL103, pxL104, pxL105, pxL106, pxL107, pxL108, pxL109, pxL110, pxL111, pxL112, pxL113, pxL114, pxL115, pxL116, pxL117, pxL118, pxL119, pxL120, pxL121, pxL122, pxL123, pxL124, pxL125, pxL126, pxL200, pxL240, pxL287, pxL388, pxL400, pxL429, pxL431, pxL440, pxL1240, pxL1600, pxL1681, pxL12028, pxL13849, pxL14880, pxL25173, pxL26908, pxL49600, pxL65535, pxL65536, ↓reduceIte, pxJ_add, pxJ_sub, pxJ_mul, pxJ_neg, pxD_lt_t, pxD_lt_f, pxD_le_t, pxD_le_f, pxD_eq_t, pxD_eq_f, pxJ_lt, pxJ_le, pxJ_eq, px_gI, px_gR, px_pI, px_rc, px_ai, px_ar, px_si, px_ln, px_cp, pxJ_div, pxJ_b8, pxJ_byte, px_b2, px_bs, px_rb0, px_rb1, px_min, px_max, px_compare, pxW_some, jw_t_I, px_cpt, jw_r_I, px_cpr, jw_l_I, px_cpl, Option.some.injEq, pk, bo, px_cmp0, hb, hn]
theorem s_X6_readTurn {h : jw_H} {i : Nat} {p : Int} (hi : i < 60) (G : pxPG h b s) (hp : pxM h 10 5 = p) (h0 : 0 ≤ p) (h1 : p ≤ s.length) :
    ((pxTrn s p).1 = true → ∃ h', f_X6_readTurn h 10 (some (12 + 4 * i)) = some (pxJ 1, h') ∧ pxF (fun k f => (k = 10 ∧ f = 5) ∨ (k = 12 + 4 * i ∧ (f = 5 ∨ f = 7 ∨ f = 8))) h h' ∧ pxM h' 10 5 = (pxTrn s p).2 ∧ pxM h' (12 + 4 * i) 7 = p + 1 ∧ pxM h' (12 + 4 * i) 8 = p + 2 + pxTrnN s p ∧ pxM h' (12 + 4 * i) 5 = pxTrnN s p) ∧
    ((pxTrn s p).1 = false → ∃ h', f_X6_readTurn h 10 (some (12 + 4 * i)) = some (pxJ 0, h') ∧ pxF (fun k f => (k = 10 ∧ f = 5) ∨ (k = 12 + 4 * i ∧ (f = 5 ∨ f = 7 ∨ f = 8))) h h' ∧ pxM h' 10 5 = (pxTrn s p).2) := by
  have tg := G.1.1
  have n60 := G.2.2.2.2.1.1
  obtain ⟨r1, t5, ra, rb, rc, t13, t14, t15⟩ := G.1.2.2.2.2.2.2.2 i hi
  have ps := s_X6_pass G hp h0 (c := 47) (by omega) (by omega)
  have FG : ∀ {h' : jw_H}, pxF (fun k f => (k = 10 ∧ f = 5) ∨ (k = 12 + 4 * i ∧ (f = 5 ∨ f = 7 ∨ f = 8))) h h' → pxPG h' b s := fun F => G.fr F (fun k f q => by omega)
  unfold f_X6_readTurn
  by_cases c : pxP s p = 47
  · have lt := pxP_lt (s := s) (p := p) (by omega)
    simp only [if_pos c] at ps
    have sl := pxSpan_le (s := s) (p := p + 1) (by omega) (by omega)
    have eN : ((pxSpan s (p + 1)).length : Int) = pxTrnN s p := rfl
    rw [eN] at sl
    have n0 : 0 ≤ pxTrnN s p := by rw [← eN]; omega
    have F1 : pxF (fun k f => (k = 10 ∧ f = 5) ∨ (k = 12 + 4 * i ∧ (f = 5 ∨ f = 7 ∨ f = 8))) h (jw_setI (pxPl h (p + 1)) (12 + 4 * i) 7 (pxJ (p + 1))) := (pxPl_F.mono (fun k f z => by omega)).trans (pxF.setI (by omega))
    have hp1 : pxM (pxPl h (p + 1)) 10 5 = p + 1 := pxPl_p (by omega) (by omega)
    have tg1 : (jw_t (pxPl h (p + 1)) 10).1 = 6 := tg
    have t51 : (jw_t (pxPl h (p + 1)) (12 + 4 * i)).1 = 5 := t5
    have st : f_X6_readTurn h 10 (some (12 + 4 * i)) = f_X6_readTurn_b21 jw_FU (jw_setI (pxPl h (p + 1)) (12 + 4 * i) 7 (pxJ (p + 1))) 10 (some (12 + 4 * i)) (pxJ 0) := by
      unfold f_X6_readTurn
      simp (disch := first | assumption | omega | (simp only [jw_t_I, px_cpt]; done) | (simp only [jw_t_I, px_cpt]; omega)) only [pxL0, pxL1, pxL2, pxL3, pxL4, pxL5, pxL6, pxL7, pxL8, pxL9, pxL10, pxL11, pxL12, pxL13, pxL14, pxL15, pxL16, pxL17, pxL18, pxL19, pxL20, pxL21, pxL22, pxL23, pxL24, pxL25, pxL26, pxL27, pxL28, pxL29, pxL30, pxL31, pxL32, pxL33, pxL34, pxL35, pxL36, pxL37, pxL38, pxL39, pxL40, pxL41, pxL42, pxL43, pxL44, pxL45, pxL46, pxL47, pxL48, pxL49, pxL51, pxL57, pxL58, pxL59, pxL60, pxL61, pxL62, pxL63, pxL64, pxL65, pxL66, pxL67, pxL68, pxL69, pxL70, pxL71, pxL72, pxL73, pxL74, pxL75, pxL76, pxL77, pxL78, pxL79, pxL80, pxL81, pxL82, pxL83, pxL84, pxL85, pxL86, pxL87, pxL88, pxL89, pxL90, pxL91, pxL92, pxL93, pxL94, pxL95, pxL96, pxL97, pxL98, pxL99, pxL100, pxL101, pxL102, pxL103, pxL104, pxL105, pxL106, pxL107, pxL108, pxL109, pxL110, pxL111, pxL112, pxL113, pxL114, pxL115, pxL116, pxL117, pxL118, pxL119, pxL120, pxL121, pxL122, pxL123, pxL124, pxL125, pxL126, pxL200, pxL240, pxL287, pxL388, pxL400, pxL429, pxL431, pxL440, pxL1240, pxL1600, pxL1681, pxL12028, pxL13849, pxL14880, pxL25173, pxL26908, pxL49600, pxL65535, pxL65536, ↓reduceIte, pxJ_add, pxJ_sub, pxJ_mul, pxJ_neg, pxD_lt_t, pxD_lt_f, pxD_le_t, pxD_le_f, pxD_eq_t, pxD_eq_f, pxJ_lt, pxJ_le, pxJ_eq, px_gI, px_gR, px_pI, px_rc, px_ai, px_ar, px_si, px_ln, px_cp, pxJ_div, pxJ_b8, pxJ_byte, px_b2, px_bs, px_rb0, px_rb1, px_min, px_max, px_compare, pxW_some, jw_t_I, px_cpt, jw_r_I, px_cpr, jw_l_I, px_cpl, Option.some.injEq, ps, hp1]
    unfold f_X6_readTurn at st
    rw [st, s_X6_readTurn_b21 61 jw_FU _ (p + 1) 0 (by omega) (by unfold jw_FU; omega) (FG F1) (by rw [pxM_ne (by omega)]; exact hp1) (by omega) (by omega) (by omega) (by omega), eN]
    have F2 := F1.trans (pxPl_F (p := p + 1 + pxTrnN s p) |>.mono (fun k f z => Or.inl z))
    have F3 : pxF (fun k f => (k = 10 ∧ f = 5) ∨ (k = 12 + 4 * i ∧ (f = 5 ∨ f = 7 ∨ f = 8))) h (jw_setI (pxPl (jw_setI (pxPl h (p + 1)) (12 + 4 * i) 7 (pxJ (p + 1))) (p + 1 + pxTrnN s p)) (12 + 4 * i) 5 (pxJ (pxTrnN s p))) := F2.trans (pxF.setI (by omega))
    have G3 := FG F3
    have tg3 := G3.1.1
    have t53 : (jw_t (jw_setI (pxPl (jw_setI (pxPl h (p + 1)) (12 + 4 * i) 7 (pxJ (p + 1))) (p + 1 + pxTrnN s p)) (12 + 4 * i) 5 (pxJ (pxTrnN s p))) (12 + 4 * i)).1 = 5 := t5
    have tg2 : (jw_t (pxPl (jw_setI (pxPl h (p + 1)) (12 + 4 * i) 7 (pxJ (p + 1))) (p + 1 + pxTrnN s p)) 10).1 = 6 := tg
    have t52 : (jw_t (pxPl (jw_setI (pxPl h (p + 1)) (12 + 4 * i) 7 (pxJ (p + 1))) (p + 1 + pxTrnN s p)) (12 + 4 * i)).1 = 5 := t5
    have a5 : pxM (pxPl (jw_setI (pxPl h (p + 1)) (12 + 4 * i) 7 (pxJ (p + 1))) (p + 1 + pxTrnN s p)) 10 5 = p + 1 + pxTrnN s p := by simp (disch := omega) only [pxM_ne, pxM_eq, pxPl_p, pxPl_n]
    have a7 : pxM (pxPl (jw_setI (pxPl h (p + 1)) (12 + 4 * i) 7 (pxJ (p + 1))) (p + 1 + pxTrnN s p)) (12 + 4 * i) 7 = p + 1 := by simp (disch := omega) only [pxM_ne, pxM_eq, pxPl_p, pxPl_n]
    have am : p + 1 + pxTrnN s p - (p + 1) = pxTrnN s p := by omega
    have b5 : pxM (jw_setI (pxPl (jw_setI (pxPl h (p + 1)) (12 + 4 * i) 7 (pxJ (p + 1))) (p + 1 + pxTrnN s p)) (12 + 4 * i) 5 (pxJ (pxTrnN s p))) 10 5 = p + 1 + pxTrnN s p := by simp (disch := omega) only [pxM_ne, pxM_eq, pxPl_p, pxPl_n]
    have bn : pxM (jw_setI (pxPl (jw_setI (pxPl h (p + 1)) (12 + 4 * i) 7 (pxJ (p + 1))) (p + 1 + pxTrnN s p)) (12 + 4 * i) 5 (pxJ (pxTrnN s p))) (12 + 4 * i) 5 = pxTrnN s p := by simp (disch := omega) only [pxM_ne, pxM_eq, pxPl_p, pxPl_n]
    have ps3 := s_X6_pass G3 b5 (by omega) (c := 47) (by omega) (by omega)
    unfold g_X6_readTurn_b55
    by_cases z0 : pxSpan s (p + 1) = []
    · have eT : pxTrn s p = (false, p + 1) := by unfold pxTrn; rw [if_pos c, if_pos z0]
      have nz : pxTrnN s p = 0 := by rw [← eN, z0]; rfl
      rw [eT]
      refine ⟨fun z => (by cases z), fun _ => ⟨jw_setI (pxPl (jw_setI (pxPl h (p + 1)) (12 + 4 * i) 7 (pxJ (p + 1))) (p + 1 + pxTrnN s p)) (12 + 4 * i) 5 (pxJ (pxTrnN s p)), ?_, F3, by rw [b5]; show p + 1 + pxTrnN s p = p + 1; omega⟩⟩
      simp (disch := first | assumption | omega | (simp only [jw_t_I, px_cpt]; done) | (simp only [jw_t_I, px_cpt]; omega)) only [pxL0, pxL1, pxL2, pxL3, pxL4, pxL5, pxL6, pxL7, pxL8, pxL9, pxL10, pxL11, pxL12, pxL13, pxL14, pxL15, pxL16, pxL17, pxL18, pxL19, pxL20, pxL21, pxL22, pxL23, pxL24, pxL25, pxL26, pxL27, pxL28, pxL29, pxL30, pxL31, pxL32, pxL33, pxL34, pxL35, pxL36, pxL37, pxL38, pxL39, pxL40, pxL41, pxL42, pxL43, pxL44, pxL45, pxL46, pxL47, pxL48, pxL49, pxL51, pxL57, pxL58, pxL59, pxL60, pxL61, pxL62, pxL63, pxL64, pxL65, pxL66, pxL67, pxL68, pxL69, pxL70, pxL71, pxL72, pxL73, pxL74, pxL75, pxL76, pxL77, pxL78, pxL79, pxL80, pxL81, pxL82, pxL83, pxL84, pxL85, pxL86, pxL87, pxL88, pxL89, pxL90, pxL91, pxL92, pxL93, pxL94, pxL95, pxL96, pxL97, pxL98, pxL99, pxL100, pxL101, pxL102, pxL103, pxL104, pxL105, pxL106, pxL107, pxL108, pxL109, pxL110, pxL111, pxL112, pxL113, pxL114, pxL115, pxL116, pxL117, pxL118, pxL119, pxL120, pxL121, pxL122, pxL123, pxL124, pxL125, pxL126, pxL200, pxL240, pxL287, pxL388, pxL400, pxL429, pxL431, pxL440, pxL1240, pxL1600, pxL1681, pxL12028, pxL13849, pxL14880, pxL25173, pxL26908, pxL49600, pxL65535, pxL65536, ↓reduceIte, pxJ_add, pxJ_sub, pxJ_mul, pxJ_neg, pxD_lt_t, pxD_lt_f, pxD_le_t, pxD_le_f, pxD_eq_t, pxD_eq_f, pxJ_lt, pxJ_le, pxJ_eq, px_gI, px_gR, px_pI, px_rc, px_ai, px_ar, px_si, px_ln, px_cp, pxJ_div, pxJ_b8, pxJ_byte, px_b2, px_bs, px_rb0, px_rb1, px_min, px_max, px_compare, pxW_some, jw_t_I, px_cpt, jw_r_I, px_cpr, jw_l_I, px_cpl, Option.some.injEq, a5, a7, am, bn]
    · have nz : 0 < pxTrnN s p := by
        rw [← eN]
        have := List.length_pos_iff.mpr z0
        omega
      by_cases c2 : pxP s (p + 1 + pxTrnN s p) = 47
      · have lt2 := pxP_lt (s := s) (p := p + 1 + pxTrnN s p) (by omega)
        simp only [if_pos c2] at ps3
        have F4 := F3.trans (pxPl_F (p := p + 1 + pxTrnN s p + 1) |>.mono (fun k f z => Or.inl z))
        have F5 : pxF (fun k f => (k = 10 ∧ f = 5) ∨ (k = 12 + 4 * i ∧ (f = 5 ∨ f = 7 ∨ f = 8))) h (jw_setI (pxPl (jw_setI (pxPl (jw_setI (pxPl h (p + 1)) (12 + 4 * i) 7 (pxJ (p + 1))) (p + 1 + pxTrnN s p)) (12 + 4 * i) 5 (pxJ (pxTrnN s p))) (p + 1 + pxTrnN s p + 1)) (12 + 4 * i) 8 (pxJ (p + 1 + pxTrnN s p + 1))) := F4.trans (pxF.setI (by omega))
        have G5 := FG F5
        have sl2 := pxSpan_le (s := s) (p := p + 1 + pxTrnN s p + 1) (by omega) (by omega)
        have lp := s_X6_readTurn_b96 hi (n := pxTrnN s p) (by omega) (pxTrnN s p).toNat jw_FU _ (p + 1 + pxTrnN s p + 1) 0 (by omega) (by unfold jw_FU; omega) G5 (by simp (disch := omega) only [pxM_ne, pxM_eq, pxPl_p, pxPl_n]) (by simp (disch := omega) only [pxM_ne, pxM_eq, pxPl_p, pxPl_n]) (by omega) (by omega) (by omega)
        rw [show p + 1 + pxTrnN s p + 1 + (pxTrnN s p - 0) = p + 2 + pxTrnN s p + pxTrnN s p by omega] at lp
        have tg4 : (jw_t (pxPl (jw_setI (pxPl (jw_setI (pxPl h (p + 1)) (12 + 4 * i) 7 (pxJ (p + 1))) (p + 1 + pxTrnN s p)) (12 + 4 * i) 5 (pxJ (pxTrnN s p))) (p + 1 + pxTrnN s p + 1)) 10).1 = 6 := tg
        have t54 : (jw_t (pxPl (jw_setI (pxPl (jw_setI (pxPl h (p + 1)) (12 + 4 * i) 7 (pxJ (p + 1))) (p + 1 + pxTrnN s p)) (12 + 4 * i) 5 (pxJ (pxTrnN s p))) (p + 1 + pxTrnN s p + 1)) (12 + 4 * i)).1 = 5 := t5
        have a54 : pxM (pxPl (jw_setI (pxPl (jw_setI (pxPl h (p + 1)) (12 + 4 * i) 7 (pxJ (p + 1))) (p + 1 + pxTrnN s p)) (12 + 4 * i) 5 (pxJ (pxTrnN s p))) (p + 1 + pxTrnN s p + 1)) 10 5 = p + 1 + pxTrnN s p + 1 := by simp (disch := omega) only [pxM_ne, pxM_eq, pxPl_p, pxPl_n]
        have e2 : p + 2 + pxTrnN s p = p + 1 + pxTrnN s p + 1 := by omega
        have st5 : g_X6_readTurn_b55 (pxPl (jw_setI (pxPl h (p + 1)) (12 + 4 * i) 7 (pxJ (p + 1))) (p + 1 + pxTrnN s p)) 10 (some (12 + 4 * i)) = f_X6_readTurn_b96 jw_FU (jw_setI (pxPl (jw_setI (pxPl (jw_setI (pxPl h (p + 1)) (12 + 4 * i) 7 (pxJ (p + 1))) (p + 1 + pxTrnN s p)) (12 + 4 * i) 5 (pxJ (pxTrnN s p))) (p + 1 + pxTrnN s p + 1)) (12 + 4 * i) 8 (pxJ (p + 1 + pxTrnN s p + 1))) 10 (some (12 + 4 * i)) (pxJ 0) := by
          unfold g_X6_readTurn_b55
          simp (disch := first | assumption | omega | (simp only [jw_t_I, px_cpt]; done) | (simp only [jw_t_I, px_cpt]; omega)) only [pxL0, pxL1, pxL2, pxL3, pxL4, pxL5, pxL6, pxL7, pxL8, pxL9, pxL10, pxL11, pxL12, pxL13, pxL14, pxL15, pxL16, pxL17, pxL18, pxL19, pxL20, pxL21, pxL22, pxL23, pxL24, pxL25, pxL26, pxL27, pxL28, pxL29, pxL30, pxL31, pxL32, pxL33, pxL34, pxL35, pxL36, pxL37, pxL38, pxL39, pxL40, pxL41, pxL42, pxL43, pxL44, pxL45, pxL46, pxL47, pxL48, pxL49, pxL51, pxL57, pxL58, pxL59, pxL60, pxL61, pxL62, pxL63, pxL64, pxL65, pxL66, pxL67, pxL68, pxL69, pxL70, pxL71, pxL72, pxL73, pxL74, pxL75, pxL76, pxL77, pxL78, pxL79, pxL80, pxL81, pxL82, pxL83, pxL84, pxL85, pxL86, pxL87, pxL88, pxL89, pxL90, pxL91, pxL92, pxL93, pxL94, pxL95, pxL96, pxL97, pxL98, pxL99, pxL100, pxL101, pxL102, pxL103, pxL104, pxL105, pxL106, pxL107, pxL108, pxL109, pxL110, pxL111, pxL112, pxL113, pxL114, pxL115, pxL116, pxL117, pxL118, pxL119, pxL120, pxL121, pxL122, pxL123, pxL124, pxL125, pxL126, pxL200, pxL240, pxL287, pxL388, pxL400, pxL429, pxL431, pxL440, pxL1240, pxL1600, pxL1681, pxL12028, pxL13849, pxL14880, pxL25173, pxL26908, pxL49600, pxL65535, pxL65536, ↓reduceIte, pxJ_add, pxJ_sub, pxJ_mul, pxJ_neg, pxD_lt_t, pxD_lt_f, pxD_le_t, pxD_le_f, pxD_eq_t, pxD_eq_f, pxJ_lt, pxJ_le, pxJ_eq, px_gI, px_gR, px_pI, px_rc, px_ai, px_ar, px_si, px_ln, px_cp, pxJ_div, pxJ_b8, pxJ_byte, px_b2, px_bs, px_rb0, px_rb1, px_min, px_max, px_compare, pxW_some, jw_t_I, px_cpt, jw_r_I, px_cpr, jw_l_I, px_cpl, Option.some.injEq, a5, a7, am, bn, ps3, a54]
        unfold g_X6_readTurn_b55 at st5
        rw [st5, lp]
        have eT : pxTrn s p = (if ((pxSpan s (p + 2 + pxTrnN s p)).length : Int) < pxTrnN s p then (false, p + 2 + pxTrnN s p + (pxSpan s (p + 2 + pxTrnN s p)).length) else if pxP s (p + 2 + pxTrnN s p + pxTrnN s p) = 47 then (true, p + 3 + pxTrnN s p + pxTrnN s p) else (false, p + 2 + pxTrnN s p + pxTrnN s p)) := by unfold pxTrn; rw [if_pos c, if_neg z0, if_pos c2]
        rw [eT, e2]
        by_cases c3 : ((pxSpan s (p + 1 + pxTrnN s p + 1)).length : Int) < pxTrnN s p
        · have c3' : ((pxSpan s (p + 1 + pxTrnN s p + 1)).length : Int) < pxTrnN s p - 0 := by omega
          rw [if_pos c3, if_pos c3']
          exact ⟨fun z => (by cases z), fun _ => ⟨_, rfl, F5.trans (pxPl_F.mono (fun k f z => Or.inl z)), pxPl_p (by omega) (by omega)⟩⟩
        · have c3' : ¬ ((pxSpan s (p + 1 + pxTrnN s p + 1)).length : Int) < pxTrnN s p - 0 := by omega
          rw [if_neg c3, if_neg c3', ← e2]
          by_cases c4 : pxP s (p + 2 + pxTrnN s p + pxTrnN s p) = 47
          · have lt4 := pxP_lt (s := s) (p := p + 2 + pxTrnN s p + pxTrnN s p) (by omega)
            simp only [if_pos c4]
            refine ⟨fun _ => ⟨_, rfl, ?_, ?_, ?_, ?_, ?_⟩, fun z => (by cases z)⟩
            · rw [e2]; exact F5.trans (pxPl_F.mono (fun k f z => Or.inl z))
            · rw [pxPl_p (by omega) (by omega)]; omega
            · simp (disch := omega) only [pxM_ne, pxM_eq, pxPl_p, pxPl_n]
            · simp (disch := omega) only [pxM_ne, pxM_eq, pxPl_p, pxPl_n]
            · simp (disch := omega) only [pxM_ne, pxM_eq, pxPl_p, pxPl_n]
          · simp only [if_neg c4]
            refine ⟨fun z => (by cases z), fun _ => ⟨_, rfl, ?_, ?_⟩⟩
            · rw [e2]; exact F5.trans (pxPl_F.mono (fun k f z => Or.inl z))
            · rw [pxPl_p (by omega) (by omega)]
      · simp only [if_neg c2] at ps3
        rw [pxPl_id b5] at ps3
        have eT : pxTrn s p = (false, p + 1 + pxTrnN s p) := by unfold pxTrn; rw [if_pos c, if_neg z0, if_neg c2]
        rw [eT]
        refine ⟨fun z => (by cases z), fun _ => ⟨jw_setI (pxPl (jw_setI (pxPl h (p + 1)) (12 + 4 * i) 7 (pxJ (p + 1))) (p + 1 + pxTrnN s p)) (12 + 4 * i) 5 (pxJ (pxTrnN s p)), ?_, F3, b5⟩⟩
        simp (disch := first | assumption | omega | (simp only [jw_t_I, px_cpt]; done) | (simp only [jw_t_I, px_cpt]; omega)) only [pxL0, pxL1, pxL2, pxL3, pxL4, pxL5, pxL6, pxL7, pxL8, pxL9, pxL10, pxL11, pxL12, pxL13, pxL14, pxL15, pxL16, pxL17, pxL18, pxL19, pxL20, pxL21, pxL22, pxL23, pxL24, pxL25, pxL26, pxL27, pxL28, pxL29, pxL30, pxL31, pxL32, pxL33, pxL34, pxL35, pxL36, pxL37, pxL38, pxL39, pxL40, pxL41, pxL42, pxL43, pxL44, pxL45, pxL46, pxL47, pxL48, pxL49, pxL51, pxL57, pxL58, pxL59, pxL60, pxL61, pxL62, pxL63, pxL64, pxL65, pxL66, pxL67, pxL68, pxL69, pxL70, pxL71, pxL72, pxL73, pxL74, pxL75, pxL76, pxL77, pxL78, pxL79, pxL80, pxL81, pxL82, pxL83, pxL84, pxL85, pxL86, pxL87, pxL88, pxL89, pxL90, pxL91, pxL92, pxL93, pxL94, pxL95, pxL96, pxL97, pxL98, pxL99, pxL100, pxL101, pxL102, pxL103, pxL104, pxL105, pxL106, pxL107, pxL108, pxL109, pxL110, pxL111, pxL112, pxL113, pxL114, pxL115, pxL116, pxL117, pxL118, pxL119, pxL120, pxL121, pxL122, pxL123, pxL124, pxL125, pxL126, pxL200, pxL240, pxL287, pxL388, pxL400, pxL429, pxL431, pxL440, pxL1240, pxL1600, pxL1681, pxL12028, pxL13849, pxL14880, pxL25173, pxL26908, pxL49600, pxL65535, pxL65536, ↓reduceIte, pxJ_add, pxJ_sub, pxJ_mul, pxJ_neg, pxD_lt_t, pxD_lt_f, pxD_le_t, pxD_le_f, pxD_eq_t, pxD_eq_f, pxJ_lt, pxJ_le, pxJ_eq, px_gI, px_gR, px_pI, px_rc, px_ai, px_ar, px_si, px_ln, px_cp, pxJ_div, pxJ_b8, pxJ_byte, px_b2, px_bs, px_rb0, px_rb1, px_min, px_max, px_compare, pxW_some, jw_t_I, px_cpt, jw_r_I, px_cpr, jw_l_I, px_cpl, Option.some.injEq, a5, a7, am, bn, ps3]
  · have eT : pxTrn s p = (false, p) := by unfold pxTrn; rw [if_neg c]
    rw [eT]
    simp only [if_neg c] at ps
    rw [pxPl_id hp] at ps
    refine ⟨fun z => (by cases z), fun _ => ⟨h, ?_, pxF.rfl, hp⟩⟩
    simp (disch := first | assumption | omega | (simp only [jw_t_I, px_cpt]; done) | (simp only [jw_t_I, px_cpt]; omega)) only [pxL0, pxL1, pxL2, pxL3, pxL4, pxL5, pxL6, pxL7, pxL8, pxL9, pxL10, pxL11, pxL12, pxL13, pxL14, pxL15, pxL16, pxL17, pxL18, pxL19, pxL20, pxL21, pxL22, pxL23, pxL24, pxL25, pxL26, pxL27, pxL28, pxL29, pxL30, pxL31, pxL32, pxL33, pxL34, pxL35, pxL36, pxL37, pxL38, pxL39, pxL40, pxL41, pxL42, pxL43, pxL44, pxL45, pxL46, pxL47, pxL48, pxL49, pxL51, pxL57, pxL58, pxL59, pxL60, pxL61, pxL62, pxL63, pxL64, pxL65, pxL66, pxL67, pxL68, pxL69, pxL70, pxL71, pxL72, pxL73, pxL74, pxL75, pxL76, pxL77, pxL78, pxL79, pxL80, pxL81, pxL82, pxL83, pxL84, pxL85, pxL86, pxL87, pxL88, pxL89, pxL90, pxL91, pxL92, pxL93, pxL94, pxL95, pxL96, pxL97, pxL98, pxL99, pxL100, pxL101, pxL102, pxL103, pxL104, pxL105, pxL106, pxL107, pxL108, pxL109, pxL110, pxL111, pxL112, pxL113, pxL114, pxL115, pxL116, pxL117, pxL118, pxL119, pxL120, pxL121, pxL122, pxL123, pxL124, pxL125, pxL126, pxL200, pxL240, pxL287, pxL388, pxL400, pxL429, pxL431, pxL440, pxL1240, pxL1600, pxL1681, pxL12028, pxL13849, pxL14880, pxL25173, pxL26908, pxL49600, pxL65535, pxL65536, ↓reduceIte, pxJ_add, pxJ_sub, pxJ_mul, pxJ_neg, pxD_lt_t, pxD_lt_f, pxD_le_t, pxD_le_f, pxD_eq_t, pxD_eq_f, pxJ_lt, pxJ_le, pxJ_eq, px_gI, px_gR, px_pI, px_rc, px_ai, px_ar, px_si, px_ln, px_cp, pxJ_div, pxJ_b8, pxJ_byte, px_b2, px_bs, px_rb0, px_rb1, px_min, px_max, px_compare, pxW_some, jw_t_I, px_cpt, jw_r_I, px_cpr, jw_l_I, px_cpl, Option.some.injEq, ps]
theorem s_X0_clear {h : jw_H} {a : Nat} (ta : (jw_t h a).1 = 0) : ∃ h', f_X0_clear h a = some ((), h') ∧ pxF (fun k _ => k = a) h h' ∧ ∀ f, 1 ≤ f → f ≤ 3 → pxM h' a f = 0 := by
  refine ⟨jw_setI (jw_setI (jw_setI (jw_setI h a 0 (pxJ 46)) a 1 (pxJ 0)) a 2 (pxJ 0)) a 3 (pxJ 0), ?_, ?_, fun f f1 f2 => ?_⟩
  · unfold f_X0_clear
    simp (disch := first | assumption | omega | (simp only [jw_t_I, px_cpt, ta]; done) | (simp only [jw_t_I, px_cpt, ta]; omega)) only [pxL0, pxL1, pxL2, pxL3, pxL4, pxL5, pxL6, pxL7, pxL8, pxL9, pxL10, pxL11, pxL12, pxL13, pxL14, pxL15, pxL16, pxL17, pxL18, pxL19, pxL20, pxL21, pxL22, pxL23, pxL24, pxL25, pxL26, pxL27, pxL28, pxL29, pxL30, pxL31, pxL32, pxL33, pxL34, pxL35, pxL36, pxL37, pxL38, pxL39, pxL40, pxL41, pxL42, pxL43, pxL44, pxL45, pxL46, pxL47, pxL48, pxL49, pxL51, pxL57, pxL58, pxL59, pxL60, pxL61, pxL62, pxL63, pxL64, pxL65, pxL66, pxL67, pxL68, pxL69, pxL70, pxL71, pxL72, pxL73, pxL74, pxL75, pxL76, pxL77, pxL78, pxL79, pxL80, pxL81, pxL82, pxL83, pxL84, pxL85, pxL86, pxL87, pxL88, pxL89, pxL90, pxL91, pxL92, pxL93, pxL94, pxL95, pxL96, pxL97, pxL98, pxL99, pxL100, pxL101, pxL102, pxL103, pxL104, pxL105, pxL106, pxL107, pxL108, pxL109, pxL110, pxL111, pxL112, pxL113, pxL114, pxL115, pxL116, pxL117, pxL118, pxL119, pxL120, pxL121, pxL122, pxL123, pxL124, pxL125, pxL126, pxL200, pxL240, pxL287, pxL388, pxL400, pxL429, pxL431, pxL440, pxL1240, pxL1600, pxL1681, pxL12028, pxL13849, pxL14880, pxL25173, pxL26908, pxL49600, pxL65535, pxL65536, ↓reduceIte, pxJ_add, pxJ_sub, pxJ_mul, pxJ_neg, pxD_lt_t, pxD_lt_f, pxD_le_t, pxD_le_f, pxD_eq_t, pxD_eq_f, pxJ_lt, pxJ_le, pxJ_eq, px_gI, px_gR, px_pI, px_rc, px_ai, px_ar, px_si, px_ln, px_cp, pxJ_div, pxJ_b8, pxJ_byte, px_b2, px_bs, px_rb0, px_rb1, px_min, px_max, px_compare, pxW_some, jw_t_I, px_cpt, jw_r_I, px_cpr, jw_l_I, px_cpl, Option.some.injEq, ta, px_pB0]
  · have e : ∀ (h : jw_H) (f : Nat) (v : Int32), pxF (fun k _ => k = a) h (jw_setI h a f v) := fun h f v => pxF.setI (P := fun k _ => k = a) (k := a) (.refl a)
    exact (((e _ _ _).trans (e _ _ _)).trans (e _ _ _)).trans (e _ _ _)
  · obtain rfl | rfl | rfl : f = 1 ∨ f = 2 ∨ f = 3 := by omega
    · simp (disch := omega) only [pxM_ne, pxM_eq, pxPl_p, pxPl_n]
    · simp (disch := omega) only [pxM_ne, pxM_eq, pxPl_p, pxPl_n]
    · simp (disch := omega) only [pxM_ne, pxM_eq, pxPl_p, pxPl_n]
/-- what clearing an order may change -/
def pxQk (i : Nat) : Nat → Nat → Prop := fun k f => (k = 12 + 4 * i ∧ 3 ≤ f) ∨ k = 13 + 4 * i ∨ k = 14 + 4 * i ∨ k = 15 + 4 * i
theorem s_X5_clear {h : jw_H} {i : Nat} (hi : i < 60) (G : pxPS h) :
    ∃ h', f_X5_clear h (12 + 4 * i) = some ((), h') ∧ pxF (pxQk i) h h' ∧ (∀ f, 1 ≤ f → f ≤ 3 → pxM h' (13 + 4 * i) f = 0) ∧ (∀ f, 1 ≤ f → f ≤ 3 → pxM h' (14 + 4 * i) f = 0) ∧ (∀ f, 1 ≤ f → f ≤ 3 → pxM h' (15 + 4 * i) f = 0) ∧ pxM h' (12 + 4 * i) 4 = 0 ∧ (∀ f, 10 ≤ f → f ≤ 13 → pxM h' (12 + 4 * i) f = 0) := by
  obtain ⟨r1, t5, ra, rb, rc, t13, t14, t15⟩ := G.2.2.2.2.2.2.2 i hi
  obtain ⟨h1, a1, a2, a3⟩ := s_X0_clear t13
  obtain ⟨h2, b1, b2, b3⟩ := s_X0_clear (h := h1) (a := 14 + 4 * i) (by rw [a2.t]; exact t14)
  obtain ⟨h3, c1, c2, c3⟩ := s_X0_clear (h := h2) (a := 15 + 4 * i) (by rw [b2.t, a2.t]; exact t15)
  have F1 : pxF (pxQk i) h h1 := a2.mono (fun k f z => by unfold pxQk; omega)
  have F2 : pxF (pxQk i) h h2 := F1.trans (b2.mono (fun k f z => by unfold pxQk; omega))
  have F3 : pxF (pxQk i) h h3 := F2.trans (c2.mono (fun k f z => by unfold pxQk; omega))
  have rb1 : jw_r h1 (12 + 4 * i) 1 = some (14 + 4 * i) := by rw [a2.r (by omega)]; exact rb
  have rc2 : jw_r h2 (12 + 4 * i) 2 = some (15 + 4 * i) := by rw [b2.r (by omega), a2.r (by omega)]; exact rc
  have t5a : (jw_t h1 (12 + 4 * i)).1 = 5 := by rw [F1.t]; exact t5
  have t5b : (jw_t h2 (12 + 4 * i)).1 = 5 := by rw [F2.t]; exact t5
  have t5c : (jw_t h3 (12 + 4 * i)).1 = 5 := by rw [F3.t]; exact t5
  have u14 : (jw_t h1 (14 + 4 * i)).1 = 0 := by rw [F1.t]; exact t14
  have u15 : (jw_t h2 (15 + 4 * i)).1 = 0 := by rw [F2.t]; exact t15
  refine ⟨?w, ?e, ?g⟩
  case e =>
    unfold f_X5_clear
    simp (disch := first | assumption | omega | (simp only [jw_t_I, px_cpt]; done) | (simp only [jw_t_I, px_cpt]; omega)) only [pxL0, pxL1, pxL2, pxL3, pxL4, pxL5, pxL6, pxL7, pxL8, pxL9, pxL10, pxL11, pxL12, pxL13, pxL14, pxL15, pxL16, pxL17, pxL18, pxL19, pxL20, pxL21, pxL22, pxL23, pxL24, pxL25, pxL26, pxL27, pxL28, pxL29, pxL30, pxL31, pxL32, pxL33, pxL34, pxL35, pxL36, pxL37, pxL38, pxL39, pxL40, pxL41, pxL42, pxL43, pxL44, pxL45, pxL46, pxL47, pxL48, pxL49, pxL51, pxL57, pxL58, pxL59, pxL60, pxL61, pxL62, pxL63, pxL64, pxL65, pxL66, pxL67, pxL68, pxL69, pxL70, pxL71, pxL72, pxL73, pxL74, pxL75, pxL76, pxL77, pxL78, pxL79, pxL80, pxL81, pxL82, pxL83, pxL84, pxL85, pxL86, pxL87, pxL88, pxL89, pxL90, pxL91, pxL92, pxL93, pxL94, pxL95, pxL96, pxL97, pxL98, pxL99, pxL100, pxL101, pxL102, pxL103, pxL104, pxL105, pxL106, pxL107, pxL108, pxL109, pxL110, pxL111, pxL112, pxL113, pxL114, pxL115, pxL116, pxL117, pxL118, pxL119, pxL120, pxL121, pxL122, pxL123, pxL124, pxL125, pxL126, pxL200, pxL240, pxL287, pxL388, pxL400, pxL429, pxL431, pxL440, pxL1240, pxL1600, pxL1681, pxL12028, pxL13849, pxL14880, pxL25173, pxL26908, pxL49600, pxL65535, pxL65536, ↓reduceIte, pxJ_add, pxJ_sub, pxJ_mul, pxJ_neg, pxD_lt_t, pxD_lt_f, pxD_le_t, pxD_le_f, pxD_eq_t, pxD_eq_f, pxJ_lt, pxJ_le, pxJ_eq, px_gI, px_gR, px_pI, px_rc, px_ai, px_ar, px_si, px_ln, px_cp, pxJ_div, pxJ_b8, pxJ_byte, px_b2, px_bs, px_rb0, px_rb1, px_min, px_max, px_compare, pxW_some, jw_t_I, px_cpt, jw_r_I, px_cpr, jw_l_I, px_cpl, Option.some.injEq, ra, a1, rb1, b1, rc2, c1, px_pB0]
    exact rfl
  case g =>
    refine ⟨F3.trans ?_, fun f f1 f2 => ?_, fun f f1 f2 => ?_, fun f f1 f2 => ?_, ?_, fun f f1 f2 => ?_⟩
    · repeat (first | refine pxF.trans ?_ (pxF.setI (by unfold pxQk; omega)) | exact pxF.rfl)
    · simp (disch := omega) only [pxM_ne, pxM_eq, pxPl_p, pxPl_n]
      rw [c2.m (by omega), b2.m (by omega)]; exact a3 f f1 f2
    · simp (disch := omega) only [pxM_ne, pxM_eq, pxPl_p, pxPl_n]
      rw [c2.m (by omega)]; exact b3 f f1 f2
    · simp (disch := omega) only [pxM_ne, pxM_eq, pxPl_p, pxPl_n]
      exact c3 f f1 f2
    · simp (disch := omega) only [pxM_ne, pxM_eq, pxPl_p, pxPl_n]
    · obtain rfl | rfl | rfl | rfl : f = 10 ∨ f = 11 ∨ f = 12 ∨ f = 13 := by omega
      · simp (disch := omega) only [pxM_ne, pxM_eq, pxPl_p, pxPl_n]
      · simp (disch := omega) only [pxM_ne, pxM_eq, pxPl_p, pxPl_n]
      · simp (disch := omega) only [pxM_ne, pxM_eq, pxPl_p, pxPl_n]
      · simp (disch := omega) only [pxM_ne, pxM_eq, pxPl_p, pxPl_n]
end
