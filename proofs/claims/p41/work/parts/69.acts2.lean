/-! orders: replacing and turning -/
theorem pxMach_k {s : List Int} : ∀ (m : Nat) (g : Bool) (a i t k p : Int), 0 ≤ k → k ≤ 2 → 0 ≤ (pxMach s m g a i t k p).2.2.2 ∧ (pxMach s m g a i t k p).2.2.2 ≤ 2 := by
  intro m
  induction m with
  | zero => intro g a i t k p h0 h1; unfold pxMach; exact ⟨h0, h1⟩
  | succ m ih =>
    intro g a i t k p h0 h1
    have em : ∀ (e : Int × Int) (r : Bool × Int × List (Int × Int) × Int), 0 ≤ r.2.2.2 ∧ r.2.2.2 ≤ 2 → 0 ≤ (pxEm e r).2.2.2 ∧ (pxEm e r).2.2.2 ≤ 2 := fun e r hr => hr
    unfold pxMach
    by_cases c1 : g = true ∧ pxP s p = 41
    · rw [if_pos c1]; exact em _ _ (ih _ _ _ _ _ _ h0 h1)
    rw [if_neg c1]
    by_cases c2 : 12 ≤ (if g = true then a else i)
    · rw [if_pos c2]; exact ⟨h0, h1⟩
    rw [if_neg c2]
    by_cases c3 : g = false ∧ pxP s p = 40 ∧ k < 2
    · rw [if_pos c3]; exact em _ _ (ih _ _ _ _ _ _ (by omega) (by omega))
    rw [if_neg c3]
    by_cases c4 : g = false ∧ pxP s p = 92 ∧ 0 < k
    · rw [if_pos c4]
      by_cases c5 : 49 ≤ pxP s (p + 1) ∧ pxP s (p + 1) ≤ 48 + k
      · rw [if_pos c5]; exact em _ _ (ih _ _ _ _ _ _ h0 h1)
      · rw [if_neg c5]; exact ⟨h0, h1⟩
    rw [if_neg c4]
    by_cases c5 : pxP s p = 42 ∧ t < 2
    · rw [if_pos c5]; exact em _ _ (ih _ _ _ _ _ _ h0 h1)
    rw [if_neg c5]
    by_cases c6 : pxP s p = 46
    · rw [if_pos c6]; exact em _ _ (ih _ _ _ _ _ _ h0 h1)
    rw [if_neg c6]
    by_cases c7 : pxIsCh (pxP s p) = true
    · rw [if_pos c7]; exact em _ _ (ih _ _ _ _ _ _ h0 h1)
    rw [if_neg c7]
    by_cases c8 : pxP s p = 91
    · rw [if_pos c8]
      by_cases c9 : (pxCls s (p + 1)).1 = true
      · rw [if_pos c9]; exact em _ _ (ih _ _ _ _ _ _ h0 h1)
      · rw [if_neg c9]; exact ⟨h0, h1⟩
    · rw [if_neg c8]; exact ⟨h0, h1⟩
theorem pxPatK_b {s : List Int} {p : Int} : 0 ≤ pxPatK s p ∧ pxPatK s p ≤ 2 := pxMach_k 61 false 0 0 0 0 _ (by omega) (by omega)
section
variable {b : Nat} {s : List Int}
theorem s_X6_readReplace_b48 {i : Nat} {k : Int} (k0 : 0 ≤ k) (k1 : k ≤ 2) : ∀ (m N : Nat) (h : jw_H) (q st : Int), s.length < q + m → m ≤ N → pxPG h b s → pxM h 10 5 = q → pxM h 10 9 = k → 0 ≤ q → q ≤ s.length → 0 ≤ st → st ≤ q →
    f_X6_readReplace_b48 N h 10 (some (12 + 4 * i)) (pxJ st) = if (pxPut s k m q).1 = true then g_X6_readReplace_b132 (pxPl h (pxPut s k m q).2) 10 (some (12 + 4 * i)) else some (pxJ 0, pxPl h (pxPut s k m q).2) := by
  intro m
  induction m with
  | zero => intro N h q st hm; omega
  | succ m ih =>
    intro N h q st hm hN G hp hk h0 h1 s0 s1
    obtain ⟨N, rfl, hN⟩ := px_fu hN
    have pk := s_X6_peek G hp h0
    have hin := pxP_in G.2.2.2.2.1 q
    have tg := G.1.1
    have n60 := G.2.2.2.2.1.1
    have bo := px_bitOf (h := h) (c := pxP s q) (by omega) (by omega)
    have ee : jw_setI h 10 5 (pxJ (q + 1)) = pxPl h (q + 1) := rfl
    have G1 : pxPG (pxPl h (q + 1)) b s := pxPl_G G
    have hp1 : pxM (pxPl h (q + 1)) 10 5 = q + 1 := pxPl_p (by omega) (by omega)
    have hk1 : pxM (pxPl h (q + 1)) 10 9 = k := by rw [pxPl_n (by omega)]; exact hk
    have tg1 : (jw_t (pxPl h (q + 1)) 10).1 = 6 := tg
    have no60 : ((60 : Int32) < pxJ st) = False := by simp (disch := first | assumption | omega | (simp only [jw_t_I, px_cpt]; done) | (simp only [jw_t_I, px_cpt]; omega)) only [pxL0, pxL1, pxL2, pxL3, pxL4, pxL5, pxL6, pxL7, pxL8, pxL9, pxL10, pxL11, pxL12, pxL13, pxL14, pxL15, pxL16, pxL17, pxL18, pxL19, pxL20, pxL21, pxL22, pxL23, pxL24, pxL25, pxL26, pxL27, pxL28, pxL29, pxL30, pxL31, pxL32, pxL33, pxL34, pxL35, pxL36, pxL37, pxL38, pxL39, pxL40, pxL41, pxL42, pxL43, pxL44, pxL45, pxL46, pxL47, pxL48, pxL49, pxL51, pxL57, pxL58, pxL59, pxL60, pxL61, pxL62, pxL63, pxL64, pxL65, pxL66, pxL67, pxL68, pxL69, pxL70, pxL71, pxL72, pxL73, pxL74, pxL75, pxL76, pxL77, pxL78, pxL79, pxL80, pxL81, pxL82, pxL83, pxL84, pxL85, pxL86, pxL87, pxL88, pxL89, pxL90, pxL91, pxL92, pxL93, pxL94, pxL95, pxL96, pxL97, pxL98, pxL99, pxL100, pxL101, pxL102, pxL103, pxL104, pxL105, pxL106, pxL107, pxL108, pxL109, pxL110, pxL111, pxL112, pxL113, pxL114, pxL115, pxL116, pxL117, pxL118, pxL119, pxL120, pxL121, pxL122, pxL123, pxL124, pxL125, pxL126, pxL200, pxL240, pxL287, pxL388, pxL400, pxL429, pxL431, pxL440, pxL1240, pxL1600, pxL1681, pxL12028, pxL13849, pxL14880, pxL25173, pxL26908, pxL49600, pxL65535, pxL65536, ↓reduceIte, pxJ_add, pxJ_sub, pxJ_mul, pxJ_neg, pxD_lt_t, pxD_lt_f, pxD_le_t, pxD_le_f, pxD_eq_t, pxD_eq_f, pxJ_lt, pxJ_le, pxJ_eq, px_gI, px_gR, px_pI, px_rc, px_ai, px_ar, px_si, px_ln, px_cp, pxJ_div, pxJ_b8, pxJ_byte, px_b2, px_bs, px_rb0, px_rb1, px_min, px_max, px_compare, pxW_some, jw_t_I, px_cpt, jw_r_I, px_cpr, jw_l_I, px_cpl, Option.some.injEq]
    rw [u_X6_readReplace_b48]
    unfold g_X6_readReplace_b48 pxPut
    by_cases c : pxP s q = 92 ∧ 0 < k
    · have lt := pxP_lt (s := s) (p := q) (by omega)
      have rf := s_X6_readFrom G1 hp1 (by omega) (lo := 49) (hi := 48 + k) (by omega) (by omega) (by omega) (by omega)
      rw [pxPl_2] at rf
      rw [if_pos c]
      by_cases d : 49 ≤ pxP s (q + 1) ∧ pxP s (q + 1) ≤ 48 + k
      · have lt2 := pxP_lt (s := s) (p := q + 1) (by omega)
        rw [if_pos d, if_pos d] at rf
        rw [if_pos d]
        have := ih N (pxPl h (q + 1 + 1)) (q + 2) (st + 1) (by omega) (by omega) (pxPl_G G) (by rw [pxPl_p (by omega) (by omega)]; omega) (by rw [pxPl_n (by omega)]; exact hk) (by omega) (by omega) (by omega) (by omega)
        rw [pxPl_2, ← show q + 1 + 1 = q + 2 by omega] at this
        unfold g_X6_readReplace_b126
        rw [← show q + 1 + 1 = q + 2 by omega]
        simp (disch := first | assumption | omega | (simp only [jw_t_I, px_cpt]; done) | (simp only [jw_t_I, px_cpt]; omega)) only [pxL0, pxL1, pxL2, pxL3, pxL4, pxL5, pxL6, pxL7, pxL8, pxL9, pxL10, pxL11, pxL12, pxL13, pxL14, pxL15, pxL16, pxL17, pxL18, pxL19, pxL20, pxL21, pxL22, pxL23, pxL24, pxL25, pxL26, pxL27, pxL28, pxL29, pxL30, pxL31, pxL32, pxL33, pxL34, pxL35, pxL36, pxL37, pxL38, pxL39, pxL40, pxL41, pxL42, pxL43, pxL44, pxL45, pxL46, pxL47, pxL48, pxL49, pxL51, pxL57, pxL58, pxL59, pxL60, pxL61, pxL62, pxL63, pxL64, pxL65, pxL66, pxL67, pxL68, pxL69, pxL70, pxL71, pxL72, pxL73, pxL74, pxL75, pxL76, pxL77, pxL78, pxL79, pxL80, pxL81, pxL82, pxL83, pxL84, pxL85, pxL86, pxL87, pxL88, pxL89, pxL90, pxL91, pxL92, pxL93, pxL94, pxL95, pxL96, pxL97, pxL98, pxL99, pxL100, pxL101, pxL102, pxL103, pxL104, pxL105, pxL106, pxL107, pxL108, pxL109, pxL110, pxL111, pxL112, pxL113, pxL114, pxL115, pxL116, pxL117, pxL118, pxL119, pxL120, pxL121, pxL122, pxL123, pxL124, pxL125, pxL126, pxL200, pxL240, pxL287, pxL388, pxL400, pxL429, pxL431, pxL440, pxL1240, pxL1600, pxL1681, pxL12028, pxL13849, pxL14880, pxL25173, pxL26908, pxL49600, pxL65535, pxL65536, ↓reduceIte, pxJ_add, pxJ_sub, pxJ_mul, pxJ_neg, pxD_lt_t, pxD_lt_f, pxD_le_t, pxD_le_f, pxD_eq_t, pxD_eq_f, pxJ_lt, pxJ_le, pxJ_eq, px_gI, px_gR, px_pI, px_rc, px_ai, px_ar, px_si, px_ln, px_cp, pxJ_div, pxJ_b8, pxJ_byte, px_b2, px_bs, px_rb0, px_rb1, px_min, px_max, px_compare, pxW_some, jw_t_I, px_cpt, jw_r_I, px_cpr, jw_l_I, px_cpl, Option.some.injEq, pk, c, hk, hp, ee, hk1, rf]
        exact this
      · rw [if_neg d, if_neg d] at rf
        rw [if_neg d, if_neg (by simp : ¬ (false = true))]
        simp (disch := first | assumption | omega | (simp only [jw_t_I, px_cpt]; done) | (simp only [jw_t_I, px_cpt]; omega)) only [pxL0, pxL1, pxL2, pxL3, pxL4, pxL5, pxL6, pxL7, pxL8, pxL9, pxL10, pxL11, pxL12, pxL13, pxL14, pxL15, pxL16, pxL17, pxL18, pxL19, pxL20, pxL21, pxL22, pxL23, pxL24, pxL25, pxL26, pxL27, pxL28, pxL29, pxL30, pxL31, pxL32, pxL33, pxL34, pxL35, pxL36, pxL37, pxL38, pxL39, pxL40, pxL41, pxL42, pxL43, pxL44, pxL45, pxL46, pxL47, pxL48, pxL49, pxL51, pxL57, pxL58, pxL59, pxL60, pxL61, pxL62, pxL63, pxL64, pxL65, pxL66, pxL67, pxL68, pxL69, pxL70, pxL71, pxL72, pxL73, pxL74, pxL75, pxL76, pxL77, pxL78, pxL79, pxL80, pxL81, pxL82, pxL83, pxL84, pxL85, pxL86, pxL87, pxL88, pxL89, pxL90, pxL91, pxL92, pxL93, pxL94, pxL95, pxL96, pxL97, pxL98, pxL99, pxL100, pxL101, pxL102, pxL103, pxL104, pxL105, pxL106, pxL107, pxL108, pxL109, pxL110, pxL111, pxL112, pxL113, pxL114, pxL115, pxL116, pxL117, pxL118, pxL119, pxL120, pxL121, pxL122, pxL123, pxL124, pxL125, pxL126, pxL200, pxL240, pxL287, pxL388, pxL400, pxL429, pxL431, pxL440, pxL1240, pxL1600, pxL1681, pxL12028, pxL13849, pxL14880, pxL25173, pxL26908, pxL49600, pxL65535, pxL65536, ↓reduceIte, pxJ_add, pxJ_sub, pxJ_mul, pxJ_neg, pxD_lt_t, pxD_lt_f, pxD_le_t, pxD_le_f, pxD_eq_t, pxD_eq_f, pxJ_lt, pxJ_le, pxJ_eq, px_gI, px_gR, px_pI, px_rc, px_ai, px_ar, px_si, px_ln, px_cp, pxJ_div, pxJ_b8, pxJ_byte, px_b2, px_bs, px_rb0, px_rb1, px_min, px_max, px_compare, pxW_some, jw_t_I, px_cpt, jw_r_I, px_cpr, jw_l_I, px_cpl, Option.some.injEq, pk, c, hk, hp, ee, hk1, rf]
    · rw [if_neg c]
      have b101 : g_X6_readReplace_b48 (f_X6_readReplace_b48 N) h 10 (some (12 + 4 * i)) (pxJ st) = g_X6_readReplace_b101 (f_X6_readReplace_b48 N) h 10 (some (12 + 4 * i)) (pxJ st) (pxJ (pxP s q)) := by
        unfold g_X6_readReplace_b48
        by_cases d : pxP s q = 92
        · have := fun z => c ⟨d, z⟩
          simp (disch := first | assumption | omega | (simp only [jw_t_I, px_cpt]; done) | (simp only [jw_t_I, px_cpt]; omega)) only [pxL0, pxL1, pxL2, pxL3, pxL4, pxL5, pxL6, pxL7, pxL8, pxL9, pxL10, pxL11, pxL12, pxL13, pxL14, pxL15, pxL16, pxL17, pxL18, pxL19, pxL20, pxL21, pxL22, pxL23, pxL24, pxL25, pxL26, pxL27, pxL28, pxL29, pxL30, pxL31, pxL32, pxL33, pxL34, pxL35, pxL36, pxL37, pxL38, pxL39, pxL40, pxL41, pxL42, pxL43, pxL44, pxL45, pxL46, pxL47, pxL48, pxL49, pxL51, pxL57, pxL58, pxL59, pxL60, pxL61, pxL62, pxL63, pxL64, pxL65, pxL66, pxL67, pxL68, pxL69, pxL70, pxL71, pxL72, pxL73, pxL74, pxL75, pxL76, pxL77, pxL78, pxL79, pxL80, pxL81, pxL82, pxL83, pxL84, pxL85, pxL86, pxL87, pxL88, pxL89, pxL90, pxL91, pxL92, pxL93, pxL94, pxL95, pxL96, pxL97, pxL98, pxL99, pxL100, pxL101, pxL102, pxL103, pxL104, pxL105, pxL106, pxL107, pxL108, pxL109, pxL110, pxL111, pxL112, pxL113, pxL114, pxL115, pxL116, pxL117, pxL118, pxL119, pxL120, pxL121, pxL122, pxL123, pxL124, pxL125, pxL126, pxL200, pxL240, pxL287, pxL388, pxL400, pxL429, pxL431, pxL440, pxL1240, pxL1600, pxL1681, pxL12028, pxL13849, pxL14880, pxL25173, pxL26908, pxL49600, pxL65535, pxL65536, ↓reduceIte, pxJ_add, pxJ_sub, pxJ_mul, pxJ_neg, pxD_lt_t, pxD_lt_f, pxD_le_t, pxD_le_f, pxD_eq_t, pxD_eq_f, pxJ_lt, pxJ_le, pxJ_eq, px_gI, px_gR, px_pI, px_rc, px_ai, px_ar, px_si, px_ln, px_cp, pxJ_div, pxJ_b8, pxJ_byte, px_b2, px_bs, px_rb0, px_rb1, px_min, px_max, px_compare, pxW_some, jw_t_I, px_cpt, jw_r_I, px_cpr, jw_l_I, px_cpl, Option.some.injEq, pk, d, hk]
        · simp (disch := first | assumption | omega | (simp only [jw_t_I, px_cpt]; done) | (simp only [jw_t_I, px_cpt]; omega)) only [pxL0, pxL1, pxL2, pxL3, pxL4, pxL5, pxL6, pxL7, pxL8, pxL9, pxL10, pxL11, pxL12, pxL13, pxL14, pxL15, pxL16, pxL17, pxL18, pxL19, pxL20, pxL21, pxL22, pxL23, pxL24, pxL25, pxL26, pxL27, pxL28, pxL29, pxL30, pxL31, pxL32, pxL33, pxL34, pxL35, pxL36, pxL37, pxL38, pxL39, pxL40, pxL41, pxL42, pxL43, pxL44, pxL45, pxL46, pxL47, pxL48, pxL49, pxL51, pxL57, pxL58, pxL59, pxL60, pxL61, pxL62, pxL63, pxL64, pxL65, pxL66, pxL67, pxL68, pxL69, pxL70, pxL71, pxL72, pxL73, pxL74, pxL75, pxL76, pxL77, pxL78, pxL79, pxL80, pxL81, pxL82, pxL83, pxL84, pxL85, pxL86, pxL87, pxL88, pxL89, pxL90, pxL91, pxL92, pxL93, pxL94, pxL95, pxL96, pxL97, pxL98, pxL99, pxL100, pxL101, pxL102, pxL103, pxL104, pxL105, pxL106, pxL107, pxL108, pxL109, pxL110, pxL111, pxL112, pxL113, pxL114, pxL115, pxL116, pxL117, pxL118, pxL119, pxL120, pxL121, pxL122, pxL123, pxL124, pxL125, pxL126, pxL200, pxL240, pxL287, pxL388, pxL400, pxL429, pxL431, pxL440, pxL1240, pxL1600, pxL1681, pxL12028, pxL13849, pxL14880, pxL25173, pxL26908, pxL49600, pxL65535, pxL65536, ↓reduceIte, pxJ_add, pxJ_sub, pxJ_mul, pxJ_neg, pxD_lt_t, pxD_lt_f, pxD_le_t, pxD_le_f, pxD_eq_t, pxD_eq_f, pxJ_lt, pxJ_le, pxJ_eq, px_gI, px_gR, px_pI, px_rc, px_ai, px_ar, px_si, px_ln, px_cp, pxJ_div, pxJ_b8, pxJ_byte, px_b2, px_bs, px_rb0, px_rb1, px_min, px_max, px_compare, pxW_some, jw_t_I, px_cpt, jw_r_I, px_cpr, jw_l_I, px_cpl, Option.some.injEq, pk, hk]
      unfold g_X6_readReplace_b48 at b101
      rw [b101]
      unfold g_X6_readReplace_b101 g_X6_readReplace_b116 g_X6_readReplace_b126
      by_cases d : pxP s q = 38 ∨ pxIsCh (pxP s q) = true
      · have lt := pxP_lt (s := s) (p := q) (by
          rcases d with d | d
          · omega
          · have := pxIsCh_i.mp d
            omega)
        rw [if_pos d]
        have := ih N (pxPl h (q + 1)) (q + 1) (st + 1) (by omega) (by omega) G1 hp1 hk1 (by omega) (by omega) (by omega) (by omega)
        rw [pxPl_2] at this
        rw [← this]
        by_cases d1 : pxP s q = 38
        · simp (disch := first | assumption | omega | (simp only [jw_t_I, px_cpt]; done) | (simp only [jw_t_I, px_cpt]; omega)) only [pxL0, pxL1, pxL2, pxL3, pxL4, pxL5, pxL6, pxL7, pxL8, pxL9, pxL10, pxL11, pxL12, pxL13, pxL14, pxL15, pxL16, pxL17, pxL18, pxL19, pxL20, pxL21, pxL22, pxL23, pxL24, pxL25, pxL26, pxL27, pxL28, pxL29, pxL30, pxL31, pxL32, pxL33, pxL34, pxL35, pxL36, pxL37, pxL38, pxL39, pxL40, pxL41, pxL42, pxL43, pxL44, pxL45, pxL46, pxL47, pxL48, pxL49, pxL51, pxL57, pxL58, pxL59, pxL60, pxL61, pxL62, pxL63, pxL64, pxL65, pxL66, pxL67, pxL68, pxL69, pxL70, pxL71, pxL72, pxL73, pxL74, pxL75, pxL76, pxL77, pxL78, pxL79, pxL80, pxL81, pxL82, pxL83, pxL84, pxL85, pxL86, pxL87, pxL88, pxL89, pxL90, pxL91, pxL92, pxL93, pxL94, pxL95, pxL96, pxL97, pxL98, pxL99, pxL100, pxL101, pxL102, pxL103, pxL104, pxL105, pxL106, pxL107, pxL108, pxL109, pxL110, pxL111, pxL112, pxL113, pxL114, pxL115, pxL116, pxL117, pxL118, pxL119, pxL120, pxL121, pxL122, pxL123, pxL124, pxL125, pxL126, pxL200, pxL240, pxL287, pxL388, pxL400, pxL429, pxL431, pxL440, pxL1240, pxL1600, pxL1681, pxL12028, pxL13849, pxL14880, pxL25173, pxL26908, pxL49600, pxL65535, pxL65536, ↓reduceIte, pxJ_add, pxJ_sub, pxJ_mul, pxJ_neg, pxD_lt_t, pxD_lt_f, pxD_le_t, pxD_le_f, pxD_eq_t, pxD_eq_f, pxJ_lt, pxJ_le, pxJ_eq, px_gI, px_gR, px_pI, px_rc, px_ai, px_ar, px_si, px_ln, px_cp, pxJ_div, pxJ_b8, pxJ_byte, px_b2, px_bs, px_rb0, px_rb1, px_min, px_max, px_compare, pxW_some, jw_t_I, px_cpt, jw_r_I, px_cpr, jw_l_I, px_cpl, Option.some.injEq, d1, hp, ee]
        · have d2 : pxIsCh (pxP s q) = true := d.resolve_left d1
          have hb := pxBit_ne d2
          simp (disch := first | assumption | omega | (simp only [jw_t_I, px_cpt]; done) | (simp only [jw_t_I, px_cpt]; omega)) only [pxL0, pxL1, pxL2, pxL3, pxL4, pxL5, pxL6, pxL7, pxL8, pxL9, pxL10, pxL11, pxL12, pxL13, pxL14, pxL15, pxL16, pxL17, pxL18, pxL19, pxL20, pxL21, pxL22, pxL23, pxL24, pxL25, pxL26, pxL27, pxL28, pxL29, pxL30, pxL31, pxL32, pxL33, pxL34, pxL35, pxL36, pxL37, pxL38, pxL39, pxL40, pxL41, pxL42, pxL43, pxL44, pxL45, pxL46, pxL47, pxL48, pxL49, pxL51, pxL57, pxL58, pxL59, pxL60, pxL61, pxL62, pxL63, pxL64, pxL65, pxL66, pxL67, pxL68, pxL69, pxL70, pxL71, pxL72, pxL73, pxL74, pxL75, pxL76, pxL77, pxL78, pxL79, pxL80, pxL81, pxL82, pxL83, pxL84, pxL85, pxL86, pxL87, pxL88, pxL89, pxL90, pxL91, pxL92, pxL93, pxL94, pxL95, pxL96, pxL97, pxL98, pxL99, pxL100, pxL101, pxL102, pxL103, pxL104, pxL105, pxL106, pxL107, pxL108, pxL109, pxL110, pxL111, pxL112, pxL113, pxL114, pxL115, pxL116, pxL117, pxL118, pxL119, pxL120, pxL121, pxL122, pxL123, pxL124, pxL125, pxL126, pxL200, pxL240, pxL287, pxL388, pxL400, pxL429, pxL431, pxL440, pxL1240, pxL1600, pxL1681, pxL12028, pxL13849, pxL14880, pxL25173, pxL26908, pxL49600, pxL65535, pxL65536, ↓reduceIte, pxJ_add, pxJ_sub, pxJ_mul, pxJ_neg, pxD_lt_t, pxD_lt_f, pxD_le_t, pxD_le_f, pxD_eq_t, pxD_eq_f, pxJ_lt, pxJ_le, pxJ_eq, px_gI, px_gR, px_pI, px_rc, px_ai, px_ar, px_si, px_ln, px_cp, pxJ_div, pxJ_b8, pxJ_byte, px_b2, px_bs, px_rb0, px_rb1, px_min, px_max, px_compare, pxW_some, jw_t_I, px_cpt, jw_r_I, px_cpr, jw_l_I, px_cpl, Option.some.injEq, bo, px_cmp0, hb, hp, ee]
      · have d1 : ¬ pxP s q = 38 := fun z => d (Or.inl z)
        have hb := pxBit_z (fun z => d (Or.inr z))
        rw [if_neg d, if_pos (show (true, q).1 = true from rfl), pxPl_id hp]
        simp (disch := first | assumption | omega | (simp only [jw_t_I, px_cpt]; done) | (simp only [jw_t_I, px_cpt]; omega)) only [pxL0, pxL1, pxL2, pxL3, pxL4, pxL5, pxL6, pxL7, pxL8, pxL9, pxL10, pxL11, pxL12, pxL13, pxL14, pxL15, pxL16, pxL17, pxL18, pxL19, pxL20, pxL21, pxL22, pxL23, pxL24, pxL25, pxL26, pxL27, pxL28, pxL29, pxL30, pxL31, pxL32, pxL33, pxL34, pxL35, pxL36, pxL37, pxL38, pxL39, pxL40, pxL41, pxL42, pxL43, pxL44, pxL45, pxL46, pxL47, pxL48, pxL49, pxL51, pxL57, pxL58, pxL59, pxL60, pxL61, pxL62, pxL63, pxL64, pxL65, pxL66, pxL67, pxL68, pxL69, pxL70, pxL71, pxL72, pxL73, pxL74, pxL75, pxL76, pxL77, pxL78, pxL79, pxL80, pxL81, pxL82, pxL83, pxL84, pxL85, pxL86, pxL87, pxL88, pxL89, pxL90, pxL91, pxL92, pxL93, pxL94, pxL95, pxL96, pxL97, pxL98, pxL99, pxL100, pxL101, pxL102, pxL103, pxL104, pxL105, pxL106, pxL107, pxL108, pxL109, pxL110, pxL111, pxL112, pxL113, pxL114, pxL115, pxL116, pxL117, pxL118, pxL119, pxL120, pxL121, pxL122, pxL123, pxL124, pxL125, pxL126, pxL200, pxL240, pxL287, pxL388, pxL400, pxL429, pxL431, pxL440, pxL1240, pxL1600, pxL1681, pxL12028, pxL13849, pxL14880, pxL25173, pxL26908, pxL49600, pxL65535, pxL65536, ↓reduceIte, pxJ_add, pxJ_sub, pxJ_mul, pxJ_neg, pxD_lt_t, pxD_lt_f, pxD_le_t, pxD_le_f, pxD_eq_t, pxD_eq_f, pxJ_lt, pxJ_le, pxJ_eq, px_gI, px_gR, px_pI, px_rc, px_ai, px_ar, px_si, px_ln, px_cp, pxJ_div, pxJ_b8, pxJ_byte, px_b2, px_bs, px_rb0, px_rb1, px_min, px_max, px_compare, pxW_some, jw_t_I, px_cpt, jw_r_I, px_cpr, jw_l_I, px_cpl, Option.some.injEq, bo, px_cmp0, hb]
theorem s_X6_readReplace_b132 {h : jw_H} {i : Nat} {u : Int} (hi : i < 60) (G : pxPG h b s) (hp : pxM h 10 5 = u) (h0 : 0 ≤ u) (h1 : u ≤ s.length) :
    (pxP s u = 47 → ∃ h', g_X6_readReplace_b132 h 10 (some (12 + 4 * i)) = some (pxJ 1, h') ∧ pxF (fun k f => (k = 10 ∧ f = 5) ∨ (k = 12 + 4 * i ∧ (f = 5 ∨ f = 8))) h h' ∧ pxM h' 10 5 = (if pxP s (u + 1) = 103 ∨ (49 ≤ pxP s (u + 1) ∧ pxP s (u + 1) ≤ 57) then u + 2 else u + 1) ∧ pxM h' (12 + 4 * i) 8 = u ∧ pxM h' (12 + 4 * i) 5 = (if pxP s (u + 1) = 103 then 0 else if 49 ≤ pxP s (u + 1) ∧ pxP s (u + 1) ≤ 57 then pxP s (u + 1) - 48 else 1)) ∧
    (¬ pxP s u = 47 → ∃ h', g_X6_readReplace_b132 h 10 (some (12 + 4 * i)) = some (pxJ 0, h') ∧ pxF (fun k f => (k = 10 ∧ f = 5) ∨ (k = 12 + 4 * i ∧ (f = 5 ∨ f = 8))) h h' ∧ pxM h' 10 5 = u) := by
  have tg := G.1.1
  have n60 := G.2.2.2.2.1.1
  obtain ⟨r1, t5, ra, rb, rc, t13, t14, t15⟩ := G.1.2.2.2.2.2.2.2 i hi
  have F1 : pxF (fun k f => (k = 10 ∧ f = 5) ∨ (k = 12 + 4 * i ∧ (f = 5 ∨ f = 8))) h (jw_setI h (12 + 4 * i) 8 (pxJ u)) := pxF.setI (by omega)
  have G1 := G.fr F1 (fun k f z => by omega)
  have tg1 : (jw_t (jw_setI h (12 + 4 * i) 8 (pxJ u)) 10).1 = 6 := tg
  have hp1 : pxM (jw_setI h (12 + 4 * i) 8 (pxJ u)) 10 5 = u := by rw [pxM_ne (by omega)]; exact hp
  have ps := s_X6_pass G1 hp1 h0 (c := 47) (by omega) (by omega)
  unfold g_X6_readReplace_b132 g_X6_readReplace_b169
  refine ⟨fun c => ?_, fun c => ?_⟩
  · have lt := pxP_lt (s := s) (p := u) (by omega)
    rw [if_pos c, if_pos c] at ps
    have G2 : pxPG (pxPl (jw_setI h (12 + 4 * i) 8 (pxJ u)) (u + 1)) b s := pxPl_G G1
    have hp2 : pxM (pxPl (jw_setI h (12 + 4 * i) 8 (pxJ u)) (u + 1)) 10 5 = u + 1 := pxPl_p (by omega) (by omega)
    have tg2 : (jw_t (pxPl (jw_setI h (12 + 4 * i) 8 (pxJ u)) (u + 1)) 10).1 = 6 := tg
    have ps2 := s_X6_pass G2 hp2 (by omega) (c := 103) (by omega) (by omega)
    rw [pxPl_2] at ps2
    by_cases cg : pxP s (u + 1) = 103
    · rw [if_pos cg, if_pos cg] at ps2
      rw [if_pos (Or.inl cg), if_pos cg]
      have t52 : (jw_t (pxPl (jw_setI h (12 + 4 * i) 8 (pxJ u)) (u + 1 + 1)) (12 + 4 * i)).1 = 5 := t5
      refine ⟨jw_setI (pxPl (jw_setI h (12 + 4 * i) 8 (pxJ u)) (u + 1 + 1)) (12 + 4 * i) 5 (pxJ 0), ?_, (F1.trans (pxPl_F.mono (fun k f z => by omega))).trans (pxF.setI (by omega)), ?_, ?_, pxM_eq (by omega) (by omega)⟩
      · simp (disch := first | assumption | omega | (simp only [jw_t_I, px_cpt]; done) | (simp only [jw_t_I, px_cpt]; omega)) only [pxL0, pxL1, pxL2, pxL3, pxL4, pxL5, pxL6, pxL7, pxL8, pxL9, pxL10, pxL11, pxL12, pxL13, pxL14, pxL15, pxL16, pxL17, pxL18, pxL19, pxL20, pxL21, pxL22, pxL23, pxL24, pxL25, pxL26, pxL27, pxL28, pxL29, pxL30, pxL31, pxL32, pxL33, pxL34, pxL35, pxL36, pxL37, pxL38, pxL39, pxL40, pxL41, pxL42, pxL43, pxL44, pxL45, pxL46, pxL47, pxL48, pxL49, pxL51, pxL57, pxL58, pxL59, pxL60, pxL61, pxL62, pxL63, pxL64, pxL65, pxL66, pxL67, pxL68, pxL69, pxL70, pxL71, pxL72, pxL73, pxL74, pxL75, pxL76, pxL77, pxL78, pxL79, pxL80, pxL81, pxL82, pxL83, pxL84, pxL85, pxL86, pxL87, pxL88, pxL89, pxL90, pxL91, pxL92, pxL93, pxL94, pxL95, pxL96, pxL97, pxL98, pxL99, pxL100, pxL101, pxL102, pxL103, pxL104, pxL105, pxL106, pxL107, pxL108, pxL109, pxL110, pxL111, pxL112, pxL113, pxL114, pxL115, pxL116, pxL117, pxL118, pxL119, pxL120, pxL121, pxL122, pxL123, pxL124, pxL125, pxL126, pxL200, pxL240, pxL287, pxL388, pxL400, pxL429, pxL431, pxL440, pxL1240, pxL1600, pxL1681, pxL12028, pxL13849, pxL14880, pxL25173, pxL26908, pxL49600, pxL65535, pxL65536, ↓reduceIte, pxJ_add, pxJ_sub, pxJ_mul, pxJ_neg, pxD_lt_t, pxD_lt_f, pxD_le_t, pxD_le_f, pxD_eq_t, pxD_eq_f, pxJ_lt, pxJ_le, pxJ_eq, px_gI, px_gR, px_pI, px_rc, px_ai, px_ar, px_si, px_ln, px_cp, pxJ_div, pxJ_b8, pxJ_byte, px_b2, px_bs, px_rb0, px_rb1, px_min, px_max, px_compare, pxW_some, jw_t_I, px_cpt, jw_r_I, px_cpr, jw_l_I, px_cpl, Option.some.injEq, hp, ps, ps2]
      · rw [pxM_ne (by omega), pxPl_p (by omega) (by omega)]; omega
      · rw [pxM_ne (by omega), pxPl_n (by omega), pxM_eq (by omega) (by omega)]
    · rw [if_neg cg, if_neg cg] at ps2
      rw [if_neg cg]
      have rf := s_X6_readFrom G2 hp2 (by omega) (lo := 49) (hi := 57) (by omega) (by omega) (by omega) (by omega)
      rw [pxPl_2] at rf
      by_cases cd : 49 ≤ pxP s (u + 1) ∧ pxP s (u + 1) ≤ 57
      · have lt2 := pxP_lt (s := s) (p := u + 1) (by omega)
        rw [if_pos cd, if_pos cd] at rf
        rw [if_pos (Or.inr cd), if_pos cd]
        have t52 : (jw_t (pxPl (jw_setI h (12 + 4 * i) 8 (pxJ u)) (u + 1 + 1)) (12 + 4 * i)).1 = 5 := t5
        have rd : f_X6_readFindNumber (pxPl (jw_setI h (12 + 4 * i) 8 (pxJ u)) (u + 1)) 10 = some (pxJ (pxP s (u + 1) - 48), pxPl (jw_setI h (12 + 4 * i) 8 (pxJ u)) (u + 1 + 1)) := by
          unfold f_X6_readFindNumber g_X6_readFindNumber_b21
          simp (disch := first | assumption | omega | (simp only [jw_t_I, px_cpt]; done) | (simp only [jw_t_I, px_cpt]; omega)) only [pxL0, pxL1, pxL2, pxL3, pxL4, pxL5, pxL6, pxL7, pxL8, pxL9, pxL10, pxL11, pxL12, pxL13, pxL14, pxL15, pxL16, pxL17, pxL18, pxL19, pxL20, pxL21, pxL22, pxL23, pxL24, pxL25, pxL26, pxL27, pxL28, pxL29, pxL30, pxL31, pxL32, pxL33, pxL34, pxL35, pxL36, pxL37, pxL38, pxL39, pxL40, pxL41, pxL42, pxL43, pxL44, pxL45, pxL46, pxL47, pxL48, pxL49, pxL51, pxL57, pxL58, pxL59, pxL60, pxL61, pxL62, pxL63, pxL64, pxL65, pxL66, pxL67, pxL68, pxL69, pxL70, pxL71, pxL72, pxL73, pxL74, pxL75, pxL76, pxL77, pxL78, pxL79, pxL80, pxL81, pxL82, pxL83, pxL84, pxL85, pxL86, pxL87, pxL88, pxL89, pxL90, pxL91, pxL92, pxL93, pxL94, pxL95, pxL96, pxL97, pxL98, pxL99, pxL100, pxL101, pxL102, pxL103, pxL104, pxL105, pxL106, pxL107, pxL108, pxL109, pxL110, pxL111, pxL112, pxL113, pxL114, pxL115, pxL116, pxL117, pxL118, pxL119, pxL120, pxL121, pxL122, pxL123, pxL124, pxL125, pxL126, pxL200, pxL240, pxL287, pxL388, pxL400, pxL429, pxL431, pxL440, pxL1240, pxL1600, pxL1681, pxL12028, pxL13849, pxL14880, pxL25173, pxL26908, pxL49600, pxL65535, pxL65536, ↓reduceIte, pxJ_add, pxJ_sub, pxJ_mul, pxJ_neg, pxD_lt_t, pxD_lt_f, pxD_le_t, pxD_le_f, pxD_eq_t, pxD_eq_f, pxJ_lt, pxJ_le, pxJ_eq, px_gI, px_gR, px_pI, px_rc, px_ai, px_ar, px_si, px_ln, px_cp, pxJ_div, pxJ_b8, pxJ_byte, px_b2, px_bs, px_rb0, px_rb1, px_min, px_max, px_compare, pxW_some, jw_t_I, px_cpt, jw_r_I, px_cpr, jw_l_I, px_cpl, Option.some.injEq, rf]
          rw [show pxP s (u + 1) - 49 + 1 = pxP s (u + 1) - 48 by omega]
        refine ⟨jw_setI (pxPl (jw_setI h (12 + 4 * i) 8 (pxJ u)) (u + 1 + 1)) (12 + 4 * i) 5 (pxJ (pxP s (u + 1) - 48)), ?_, (F1.trans (pxPl_F.mono (fun k f z => by omega))).trans (pxF.setI (by omega)), ?_, ?_, pxM_eq (by omega) (by omega)⟩
        · simp (disch := first | assumption | omega | (simp only [jw_t_I, px_cpt]; done) | (simp only [jw_t_I, px_cpt]; omega)) only [pxL0, pxL1, pxL2, pxL3, pxL4, pxL5, pxL6, pxL7, pxL8, pxL9, pxL10, pxL11, pxL12, pxL13, pxL14, pxL15, pxL16, pxL17, pxL18, pxL19, pxL20, pxL21, pxL22, pxL23, pxL24, pxL25, pxL26, pxL27, pxL28, pxL29, pxL30, pxL31, pxL32, pxL33, pxL34, pxL35, pxL36, pxL37, pxL38, pxL39, pxL40, pxL41, pxL42, pxL43, pxL44, pxL45, pxL46, pxL47, pxL48, pxL49, pxL51, pxL57, pxL58, pxL59, pxL60, pxL61, pxL62, pxL63, pxL64, pxL65, pxL66, pxL67, pxL68, pxL69, pxL70, pxL71, pxL72, pxL73, pxL74, pxL75, pxL76, pxL77, pxL78, pxL79, pxL80, pxL81, pxL82, pxL83, pxL84, pxL85, pxL86, pxL87, pxL88, pxL89, pxL90, pxL91, pxL92, pxL93, pxL94, pxL95, pxL96, pxL97, pxL98, pxL99, pxL100, pxL101, pxL102, pxL103, pxL104, pxL105, pxL106, pxL107, pxL108, pxL109, pxL110, pxL111, pxL112, pxL113, pxL114, pxL115, pxL116, pxL117, pxL118, pxL119, pxL120, pxL121, pxL122, pxL123, pxL124, pxL125, pxL126, pxL200, pxL240, pxL287, pxL388, pxL400, pxL429, pxL431, pxL440, pxL1240, pxL1600, pxL1681, pxL12028, pxL13849, pxL14880, pxL25173, pxL26908, pxL49600, pxL65535, pxL65536, ↓reduceIte, pxJ_add, pxJ_sub, pxJ_mul, pxJ_neg, pxD_lt_t, pxD_lt_f, pxD_le_t, pxD_le_f, pxD_eq_t, pxD_eq_f, pxJ_lt, pxJ_le, pxJ_eq, px_gI, px_gR, px_pI, px_rc, px_ai, px_ar, px_si, px_ln, px_cp, pxJ_div, pxJ_b8, pxJ_byte, px_b2, px_bs, px_rb0, px_rb1, px_min, px_max, px_compare, pxW_some, jw_t_I, px_cpt, jw_r_I, px_cpr, jw_l_I, px_cpl, Option.some.injEq, hp, ps, ps2, rd]
        · rw [pxM_ne (by omega), pxPl_p (by omega) (by omega)]; omega
        · rw [pxM_ne (by omega), pxPl_n (by omega), pxM_eq (by omega) (by omega)]
      · rw [if_neg cd, if_neg cd] at rf
        have nn : ¬ (pxP s (u + 1) = 103 ∨ (49 ≤ pxP s (u + 1) ∧ pxP s (u + 1) ≤ 57)) := by omega
        rw [if_neg nn, if_neg cd]
        have t52 : (jw_t (pxPl (jw_setI h (12 + 4 * i) 8 (pxJ u)) (u + 1)) (12 + 4 * i)).1 = 5 := t5
        have rd : f_X6_readFindNumber (pxPl (jw_setI h (12 + 4 * i) 8 (pxJ u)) (u + 1)) 10 = some (pxJ 1, pxPl (jw_setI h (12 + 4 * i) 8 (pxJ u)) (u + 1)) := by
          unfold f_X6_readFindNumber g_X6_readFindNumber_b21
          simp (disch := first | assumption | omega | (simp only [jw_t_I, px_cpt]; done) | (simp only [jw_t_I, px_cpt]; omega)) only [pxL0, pxL1, pxL2, pxL3, pxL4, pxL5, pxL6, pxL7, pxL8, pxL9, pxL10, pxL11, pxL12, pxL13, pxL14, pxL15, pxL16, pxL17, pxL18, pxL19, pxL20, pxL21, pxL22, pxL23, pxL24, pxL25, pxL26, pxL27, pxL28, pxL29, pxL30, pxL31, pxL32, pxL33, pxL34, pxL35, pxL36, pxL37, pxL38, pxL39, pxL40, pxL41, pxL42, pxL43, pxL44, pxL45, pxL46, pxL47, pxL48, pxL49, pxL51, pxL57, pxL58, pxL59, pxL60, pxL61, pxL62, pxL63, pxL64, pxL65, pxL66, pxL67, pxL68, pxL69, pxL70, pxL71, pxL72, pxL73, pxL74, pxL75, pxL76, pxL77, pxL78, pxL79, pxL80, pxL81, pxL82, pxL83, pxL84, pxL85, pxL86, pxL87, pxL88, pxL89, pxL90, pxL91, pxL92, pxL93, pxL94, pxL95, pxL96, pxL97, pxL98, pxL99, pxL100, pxL101, pxL102, pxL103, pxL104, pxL105, pxL106, pxL107, pxL108, pxL109, pxL110, pxL111, pxL112, pxL113, pxL114, pxL115, pxL116, pxL117, pxL118, pxL119, pxL120, pxL121, pxL122, pxL123, pxL124, pxL125, pxL126, pxL200, pxL240, pxL287, pxL388, pxL400, pxL429, pxL431, pxL440, pxL1240, pxL1600, pxL1681, pxL12028, pxL13849, pxL14880, pxL25173, pxL26908, pxL49600, pxL65535, pxL65536, ↓reduceIte, pxJ_add, pxJ_sub, pxJ_mul, pxJ_neg, pxD_lt_t, pxD_lt_f, pxD_le_t, pxD_le_f, pxD_eq_t, pxD_eq_f, pxJ_lt, pxJ_le, pxJ_eq, px_gI, px_gR, px_pI, px_rc, px_ai, px_ar, px_si, px_ln, px_cp, pxJ_div, pxJ_b8, pxJ_byte, px_b2, px_bs, px_rb0, px_rb1, px_min, px_max, px_compare, pxW_some, jw_t_I, px_cpt, jw_r_I, px_cpr, jw_l_I, px_cpl, Option.some.injEq, rf]
        refine ⟨jw_setI (pxPl (jw_setI h (12 + 4 * i) 8 (pxJ u)) (u + 1)) (12 + 4 * i) 5 (pxJ 1), ?_, (F1.trans (pxPl_F.mono (fun k f z => by omega))).trans (pxF.setI (by omega)), ?_, ?_, pxM_eq (by omega) (by omega)⟩
        · simp (disch := first | assumption | omega | (simp only [jw_t_I, px_cpt]; done) | (simp only [jw_t_I, px_cpt]; omega)) only [pxL0, pxL1, pxL2, pxL3, pxL4, pxL5, pxL6, pxL7, pxL8, pxL9, pxL10, pxL11, pxL12, pxL13, pxL14, pxL15, pxL16, pxL17, pxL18, pxL19, pxL20, pxL21, pxL22, pxL23, pxL24, pxL25, pxL26, pxL27, pxL28, pxL29, pxL30, pxL31, pxL32, pxL33, pxL34, pxL35, pxL36, pxL37, pxL38, pxL39, pxL40, pxL41, pxL42, pxL43, pxL44, pxL45, pxL46, pxL47, pxL48, pxL49, pxL51, pxL57, pxL58, pxL59, pxL60, pxL61, pxL62, pxL63, pxL64, pxL65, pxL66, pxL67, pxL68, pxL69, pxL70, pxL71, pxL72, pxL73, pxL74, pxL75, pxL76, pxL77, pxL78, pxL79, pxL80, pxL81, pxL82, pxL83, pxL84, pxL85, pxL86, pxL87, pxL88, pxL89, pxL90, pxL91, pxL92, pxL93, pxL94, pxL95, pxL96, pxL97, pxL98, pxL99, pxL100, pxL101, pxL102, pxL103, pxL104, pxL105, pxL106, pxL107, pxL108, pxL109, pxL110, pxL111, pxL112, pxL113, pxL114, pxL115, pxL116, pxL117, pxL118, pxL119, pxL120, pxL121, pxL122, pxL123, pxL124, pxL125, pxL126, pxL200, pxL240, pxL287, pxL388, pxL400, pxL429, pxL431, pxL440, pxL1240, pxL1600, pxL1681, pxL12028, pxL13849, pxL14880, pxL25173, pxL26908, pxL49600, pxL65535, pxL65536, ↓reduceIte, pxJ_add, pxJ_sub, pxJ_mul, pxJ_neg, pxD_lt_t, pxD_lt_f, pxD_le_t, pxD_le_f, pxD_eq_t, pxD_eq_f, pxJ_lt, pxJ_le, pxJ_eq, px_gI, px_gR, px_pI, px_rc, px_ai, px_ar, px_si, px_ln, px_cp, pxJ_div, pxJ_b8, pxJ_byte, px_b2, px_bs, px_rb0, px_rb1, px_min, px_max, px_compare, pxW_some, jw_t_I, px_cpt, jw_r_I, px_cpr, jw_l_I, px_cpl, Option.some.injEq, hp, ps, ps2, rd]
        · rw [pxM_ne (by omega), pxPl_p (by omega) (by omega)]
        · rw [pxM_ne (by omega), pxPl_n (by omega), pxM_eq (by omega) (by omega)]
  · rw [if_neg c, if_neg c, pxPl_id hp1] at ps
    refine ⟨jw_setI h (12 + 4 * i) 8 (pxJ u), ?_, F1, hp1⟩
    simp (disch := first | assumption | omega | (simp only [jw_t_I, px_cpt]; done) | (simp only [jw_t_I, px_cpt]; omega)) only [pxL0, pxL1, pxL2, pxL3, pxL4, pxL5, pxL6, pxL7, pxL8, pxL9, pxL10, pxL11, pxL12, pxL13, pxL14, pxL15, pxL16, pxL17, pxL18, pxL19, pxL20, pxL21, pxL22, pxL23, pxL24, pxL25, pxL26, pxL27, pxL28, pxL29, pxL30, pxL31, pxL32, pxL33, pxL34, pxL35, pxL36, pxL37, pxL38, pxL39, pxL40, pxL41, pxL42, pxL43, pxL44, pxL45, pxL46, pxL47, pxL48, pxL49, pxL51, pxL57, pxL58, pxL59, pxL60, pxL61, pxL62, pxL63, pxL64, pxL65, pxL66, pxL67, pxL68, pxL69, pxL70, pxL71, pxL72, pxL73, pxL74, pxL75, pxL76, pxL77, pxL78, pxL79, pxL80, pxL81, pxL82, pxL83, pxL84, pxL85, pxL86, pxL87, pxL88, pxL89, pxL90, pxL91, pxL92, pxL93, pxL94, pxL95, pxL96, pxL97, pxL98, pxL99, pxL100, pxL101, pxL102, pxL103, pxL104, pxL105, pxL106, pxL107, pxL108, pxL109, pxL110, pxL111, pxL112, pxL113, pxL114, pxL115, pxL116, pxL117, pxL118, pxL119, pxL120, pxL121, pxL122, pxL123, pxL124, pxL125, pxL126, pxL200, pxL240, pxL287, pxL388, pxL400, pxL429, pxL431, pxL440, pxL1240, pxL1600, pxL1681, pxL12028, pxL13849, pxL14880, pxL25173, pxL26908, pxL49600, pxL65535, pxL65536, ↓reduceIte, pxJ_add, pxJ_sub, pxJ_mul, pxJ_neg, pxD_lt_t, pxD_lt_f, pxD_le_t, pxD_le_f, pxD_eq_t, pxD_eq_f, pxJ_lt, pxJ_le, pxJ_eq, px_gI, px_gR, px_pI, px_rc, px_ai, px_ar, px_si, px_ln, px_cp, pxJ_div, pxJ_b8, pxJ_byte, px_b2, px_bs, px_rb0, px_rb1, px_min, px_max, px_compare, pxW_some, jw_t_I, px_cpt, jw_r_I, px_cpr, jw_l_I, px_cpl, Option.some.injEq, hp, ps]
theorem s_X6_readReplace {h : jw_H} {i : Nat} {p e : Int} (hi : i < 60) (G : pxPG h b s) (hp : pxM h 10 5 = p) (he : pxM h 10 7 = e) (h0 : 0 ≤ p) (h1 : p ≤ s.length) (e0 : 0 ≤ e) (e1 : e ≤ 2 * p) :
    ((pxRep s p).1 = true → ∃ h', f_X6_readReplace h 10 (some (12 + 4 * i)) = some (pxJ 1, h') ∧ pxF (fun k f => pxQe e k f ∨ (k = 12 + 4 * i ∧ 5 ≤ f ∧ f ≤ 8)) h h' ∧ pxM h' 10 5 = (pxRep s p).2 ∧ pxM h' (12 + 4 * i) 6 = e ∧ pxM h' 10 7 = e + (pxFull s (p + 1)).length ∧ pxEls h' s e (pxFull s (p + 1)) ∧ pxM h' (12 + 4 * i) 7 = (pxPtn s p).2 ∧ pxM h' (12 + 4 * i) 8 = (pxRepU s p).2 ∧ pxM h' (12 + 4 * i) 5 = pxRepN s p) ∧
    ((pxRep s p).1 = false → ∃ h', f_X6_readReplace h 10 (some (12 + 4 * i)) = some (pxJ 0, h') ∧ pxF (fun k f => pxQe e k f ∨ (k = 12 + 4 * i ∧ 5 ≤ f ∧ f ≤ 8)) h h' ∧ pxM h' 10 5 = (pxRep s p).2) := by
  have tg := G.1.1
  have n60 := G.2.2.2.2.1.1
  obtain ⟨r1, t5, ra, rb, rc, t13, t14, t15⟩ := G.1.2.2.2.2.2.2.2 i hi
  have ps := s_X6_pass G hp h0 (c := 47) (by omega) (by omega)
  have FG : ∀ {h' : jw_H}, pxF (fun k f => pxQe e k f ∨ (k = 12 + 4 * i ∧ 5 ≤ f ∧ f ≤ 8)) h h' → pxPG h' b s := fun F => G.fr F (fun k f q => by unfold pxQe; omega)
  unfold f_X6_readReplace
  by_cases c : pxP s p = 47
  · have lt := pxP_lt (s := s) (p := p) (by omega)
    rw [if_pos c, if_pos c] at ps
    have G1 : pxPG (pxPl h (p + 1)) b s := pxPl_G G
    have F1 : pxF (fun k f => pxQe e k f ∨ (k = 12 + 4 * i ∧ 5 ≤ f ∧ f ≤ 8)) h (pxPl h (p + 1)) := pxPl_F.mono (fun k f z => by unfold pxQe; omega)
    have tg1 : (jw_t (pxPl h (p + 1)) 10).1 = 6 := tg
    have hp1 : pxM (pxPl h (p + 1)) 10 5 = p + 1 := pxPl_p (by omega) (by omega)
    have he1 : pxM (pxPl h (p + 1)) 10 7 = e := by rw [pxPl_n (by omega)]; exact he
    obtain ⟨y1, y2⟩ := s_X6_readPattern G1 hp1 he1 (by omega) (by omega) e0 (by omega)
    have pb := pxPat_b (s := s) (p := p + 1) (by omega) (by omega)
    by_cases co : (pxPat s (p + 1)).1 = true
    · obtain ⟨h2, w1, w2, w3, w4, w5, w6⟩ := y1 co
      have F2 : pxF (fun k f => pxQe e k f ∨ (k = 12 + 4 * i ∧ 5 ≤ f ∧ f ≤ 8)) h (jw_setI h2 (12 + 4 * i) 6 (pxJ e)) := (F1.trans (w2.mono (fun k f z => Or.inl z))).trans (pxF.setI (by omega))
      have G2 := FG F2
      have t52 : (jw_t h2 (12 + 4 * i)).1 = 5 := by rw [w2.t]; exact t5
      have t53 : (jw_t (jw_setI h2 (12 + 4 * i) 6 (pxJ e)) (12 + 4 * i)).1 = 5 := t52
      have hp2 : pxM (jw_setI h2 (12 + 4 * i) 6 (pxJ e)) 10 5 = (pxPat s (p + 1)).2 := by rw [pxM_ne (by omega)]; exact w3
      have v2 : pxM (jw_setI h2 (12 + 4 * i) 6 (pxJ e)) (12 + 4 * i) 6 = e := pxM_eq (by omega) (by omega)
      have tg2 := G2.1.1
      have ps2 := s_X6_pass G2 hp2 (by omega) (c := 47) (by omega) (by omega)
      by_cases c2 : pxP s (pxPat s (p + 1)).2 = 47
      · rw [if_pos c2, if_pos c2] at ps2
        have lt2 := pxP_lt (s := s) (p := (pxPat s (p + 1)).2) (by omega)
        have eP : pxPtn s p = (true, (pxPat s (p + 1)).2 + 1) := by unfold pxPtn; rw [if_pos c, if_pos co, if_pos c2]
        have F3 : pxF (fun k f => pxQe e k f ∨ (k = 12 + 4 * i ∧ 5 ≤ f ∧ f ≤ 8)) h (jw_setI (pxPl (jw_setI h2 (12 + 4 * i) 6 (pxJ e)) ((pxPat s (p + 1)).2 + 1)) (12 + 4 * i) 7 (pxJ ((pxPat s (p + 1)).2 + 1))) := (F2.trans (pxPl_F.mono (fun k f z => by unfold pxQe; omega))).trans (pxF.setI (by omega))
        have G3 := FG F3
        have tg3 : (jw_t (pxPl (jw_setI h2 (12 + 4 * i) 6 (pxJ e)) ((pxPat s (p + 1)).2 + 1)) 10).1 = 6 := tg2
        have t54 : (jw_t (pxPl (jw_setI h2 (12 + 4 * i) 6 (pxJ e)) ((pxPat s (p + 1)).2 + 1)) (12 + 4 * i)).1 = 5 := t52
        have hp3' : pxM (pxPl (jw_setI h2 (12 + 4 * i) 6 (pxJ e)) ((pxPat s (p + 1)).2 + 1)) 10 5 = (pxPat s (p + 1)).2 + 1 := pxPl_p (by omega) (by omega)
        have hp3 : pxM (jw_setI (pxPl (jw_setI h2 (12 + 4 * i) 6 (pxJ e)) ((pxPat s (p + 1)).2 + 1)) (12 + 4 * i) 7 (pxJ ((pxPat s (p + 1)).2 + 1))) 10 5 = (pxPat s (p + 1)).2 + 1 := by rw [pxM_ne (by omega)]; exact hp3'
        have hk3 : pxM (jw_setI (pxPl (jw_setI h2 (12 + 4 * i) 6 (pxJ e)) ((pxPat s (p + 1)).2 + 1)) (12 + 4 * i) 7 (pxJ ((pxPat s (p + 1)).2 + 1))) 10 9 = pxPatK s (p + 1) := by rw [pxM_ne (by omega), pxPl_n (by omega), pxM_ne (by omega)]; exact w4
        have kb := pxPatK_b (s := s) (p := p + 1)
        have lp := s_X6_readReplace_b48 (i := i) kb.1 kb.2 61 jw_FU (jw_setI (pxPl (jw_setI h2 (12 + 4 * i) 6 (pxJ e)) ((pxPat s (p + 1)).2 + 1)) (12 + 4 * i) 7 (pxJ ((pxPat s (p + 1)).2 + 1))) ((pxPat s (p + 1)).2 + 1) 0 (by omega) (by unfold jw_FU; omega) G3 hp3 hk3 (by omega) (by omega) (by omega) (by omega)
        have eU : pxPut s (pxPatK s (p + 1)) 61 ((pxPat s (p + 1)).2 + 1) = pxRepU s p := by unfold pxRepU; rw [eP]
        rw [eU] at lp
        have ub := pxPut_b (s := s) (k := pxPatK s (p + 1)) 61 ((pxPat s (p + 1)).2 + 1) (by omega) (by omega)
        rw [eU] at ub
        have eR : pxRep s p = (if (pxRepU s p).1 = true then (if pxP s (pxRepU s p).2 = 47 then (true, if pxP s ((pxRepU s p).2 + 1) = 103 ∨ (49 ≤ pxP s ((pxRepU s p).2 + 1) ∧ pxP s ((pxRepU s p).2 + 1) ≤ 57) then (pxRepU s p).2 + 2 else (pxRepU s p).2 + 1) else (false, (pxRepU s p).2)) else pxRepU s p) := by unfold pxRep; rw [eP, if_pos (by trivial)]
        have F4 : pxF (fun k f => pxQe e k f ∨ (k = 12 + 4 * i ∧ 5 ≤ f ∧ f ≤ 8)) h (pxPl (jw_setI (pxPl (jw_setI h2 (12 + 4 * i) 6 (pxJ e)) ((pxPat s (p + 1)).2 + 1)) (12 + 4 * i) 7 (pxJ ((pxPat s (p + 1)).2 + 1))) (pxRepU s p).2) := F3.trans (pxPl_F.mono (fun k f z => by unfold pxQe; omega))
        have eD : jw_b2 (f_X6_readPattern (pxPl h (p + 1)) 10) (fun w7 h6 => (jw_pI h6 5 (some (12 + 4 * i)) 6 w7).bind fun h8 => (jw_gI h8 5 (some (12 + 4 * i)) 6).bind fun v9 => if v9 = (-1 : Int32) then (some ((0 : Int32), h8)) else ((jw_rc h8 6 (some 10)).bind fun a11 => jw_b2 (f_X6_pass h8 a11 (47 : Int32)) fun w13 h12 => if w13 = 0 then (some ((0 : Int32), h12)) else ((jw_gI h12 6 (some 10) 5).bind fun v15 => (jw_pI h12 5 (some (12 + 4 * i)) 7 v15).bind fun h16 => f_X6_readReplace_b48 jw_FU h16 10 (some (12 + 4 * i)) (0 : Int32)))) = f_X6_readReplace_b48 jw_FU (jw_setI (pxPl (jw_setI h2 (12 + 4 * i) 6 (pxJ e)) ((pxPat s (p + 1)).2 + 1)) (12 + 4 * i) 7 (pxJ ((pxPat s (p + 1)).2 + 1))) 10 (some (12 + 4 * i)) (pxJ 0) := by
          simp (disch := first | assumption | omega | (simp only [jw_t_I, px_cpt]; done) | (simp only [jw_t_I, px_cpt]; omega)) only [pxL0, pxL1, pxL2, pxL3, pxL4, pxL5, pxL6, pxL7, pxL8, pxL9, pxL10, pxL11, pxL12, pxL13, pxL14, pxL15, pxL16, pxL17, pxL18, pxL19, pxL20, pxL21, pxL22, pxL23, pxL24, pxL25, pxL26, pxL27, pxL28, pxL29, pxL30, pxL31, pxL32, pxL33, pxL34, pxL35, pxL36, pxL37, pxL38, pxL39, pxL40, pxL41, pxL42, pxL43, pxL44, pxL45, pxL46, pxL47, pxL48, pxL49, pxL51, pxL57, pxL58, pxL59, pxL60, pxL61, pxL62, pxL63, pxL64, pxL65, pxL66, pxL67, pxL68, pxL69, pxL70, pxL71, pxL72, pxL73, pxL74, pxL75, pxL76, pxL77, pxL78, pxL79, pxL80, pxL81, pxL82, pxL83, pxL84, pxL85, pxL86, pxL87, pxL88, pxL89, pxL90, pxL91, pxL92, pxL93, pxL94, pxL95, pxL96, pxL97, pxL98, pxL99, pxL100, pxL101, pxL102, pxL103, pxL104, pxL105, pxL106, pxL107, pxL108, pxL109, pxL110, pxL111, pxL112, pxL113, pxL114, pxL115, pxL116, pxL117, pxL118, pxL119, pxL120, pxL121, pxL122, pxL123, pxL124, pxL125, pxL126, pxL200, pxL240, pxL287, pxL388, pxL400, pxL429, pxL431, pxL440, pxL1240, pxL1600, pxL1681, pxL12028, pxL13849, pxL14880, pxL25173, pxL26908, pxL49600, pxL65535, pxL65536, ↓reduceIte, pxJ_add, pxJ_sub, pxJ_mul, pxJ_neg, pxD_lt_t, pxD_lt_f, pxD_le_t, pxD_le_f, pxD_eq_t, pxD_eq_f, pxJ_lt, pxJ_le, pxJ_eq, px_gI, px_gR, px_pI, px_rc, px_ai, px_ar, px_si, px_ln, px_cp, pxJ_div, pxJ_b8, pxJ_byte, px_b2, px_bs, px_rb0, px_rb1, px_min, px_max, px_compare, pxW_some, jw_t_I, px_cpt, jw_r_I, px_cpr, jw_l_I, px_cpl, Option.some.injEq, w1, v2, ps2, hp3']
        have eE : ((jw_rc h 6 (some 10)).bind fun a1 => jw_b2 (f_X6_pass h a1 (47 : Int32)) fun w3 h2 => if w3 = 0 then (some ((0 : Int32), h2)) else ((jw_rc h2 6 (some 10)).bind fun a5 => jw_b2 (f_X6_readPattern h2 a5) fun w7 h6 => (jw_pI h6 5 (some (12 + 4 * i)) 6 w7).bind fun h8 => (jw_gI h8 5 (some (12 + 4 * i)) 6).bind fun v9 => if v9 = (-1 : Int32) then (some ((0 : Int32), h8)) else ((jw_rc h8 6 (some 10)).bind fun a11 => jw_b2 (f_X6_pass h8 a11 (47 : Int32)) fun w13 h12 => if w13 = 0 then (some ((0 : Int32), h12)) else ((jw_gI h12 6 (some 10) 5).bind fun v15 => (jw_pI h12 5 (some (12 + 4 * i)) 7 v15).bind fun h16 => f_X6_readReplace_b48 jw_FU h16 10 (some (12 + 4 * i)) (0 : Int32))))) = f_X6_readReplace_b48 jw_FU (jw_setI (pxPl (jw_setI h2 (12 + 4 * i) 6 (pxJ e)) ((pxPat s (p + 1)).2 + 1)) (12 + 4 * i) 7 (pxJ ((pxPat s (p + 1)).2 + 1))) 10 (some (12 + 4 * i)) (pxJ 0) := by
          rw [← eD]
          simp (disch := first | assumption | omega | (simp only [jw_t_I, px_cpt]; done) | (simp only [jw_t_I, px_cpt]; omega)) only [pxL0, pxL1, pxL2, pxL3, pxL4, pxL5, pxL6, pxL7, pxL8, pxL9, pxL10, pxL11, pxL12, pxL13, pxL14, pxL15, pxL16, pxL17, pxL18, pxL19, pxL20, pxL21, pxL22, pxL23, pxL24, pxL25, pxL26, pxL27, pxL28, pxL29, pxL30, pxL31, pxL32, pxL33, pxL34, pxL35, pxL36, pxL37, pxL38, pxL39, pxL40, pxL41, pxL42, pxL43, pxL44, pxL45, pxL46, pxL47, pxL48, pxL49, pxL51, pxL57, pxL58, pxL59, pxL60, pxL61, pxL62, pxL63, pxL64, pxL65, pxL66, pxL67, pxL68, pxL69, pxL70, pxL71, pxL72, pxL73, pxL74, pxL75, pxL76, pxL77, pxL78, pxL79, pxL80, pxL81, pxL82, pxL83, pxL84, pxL85, pxL86, pxL87, pxL88, pxL89, pxL90, pxL91, pxL92, pxL93, pxL94, pxL95, pxL96, pxL97, pxL98, pxL99, pxL100, pxL101, pxL102, pxL103, pxL104, pxL105, pxL106, pxL107, pxL108, pxL109, pxL110, pxL111, pxL112, pxL113, pxL114, pxL115, pxL116, pxL117, pxL118, pxL119, pxL120, pxL121, pxL122, pxL123, pxL124, pxL125, pxL126, pxL200, pxL240, pxL287, pxL388, pxL400, pxL429, pxL431, pxL440, pxL1240, pxL1600, pxL1681, pxL12028, pxL13849, pxL14880, pxL25173, pxL26908, pxL49600, pxL65535, pxL65536, ↓reduceIte, pxJ_add, pxJ_sub, pxJ_mul, pxJ_neg, pxD_lt_t, pxD_lt_f, pxD_le_t, pxD_le_f, pxD_eq_t, pxD_eq_f, pxJ_lt, pxJ_le, pxJ_eq, px_gI, px_gR, px_pI, px_rc, px_ai, px_ar, px_si, px_ln, px_cp, pxJ_div, pxJ_b8, pxJ_byte, px_b2, px_bs, px_rb0, px_rb1, px_min, px_max, px_compare, pxW_some, jw_t_I, px_cpt, jw_r_I, px_cpr, jw_l_I, px_cpl, Option.some.injEq, ps]
        rw [eE, lp, eR]
        by_cases cu : (pxRepU s p).1 = true
        · rw [if_pos cu, if_pos cu]
          have G4 := FG F4
          obtain ⟨x1, x2⟩ := s_X6_readReplace_b132 hi G4 (pxPl_p (by omega) (by omega)) (by omega) ub.2
          by_cases c47 : pxP s (pxRepU s p).2 = 47
          · obtain ⟨h5, z1, z2, z3, z4, z5⟩ := x1 c47
            rw [if_pos c47]
            refine ⟨fun _ => ⟨h5, z1, F4.trans (z2.mono (fun k f z => by unfold pxQe; omega)), z3, ?_, ?_, ?_, ?_, z4, z5⟩, fun z => (by cases z)⟩
            · rw [z2.m (by omega), pxPl_n (by omega), pxM_ne (by omega), pxPl_n (by omega)]; exact v2
            · rw [z2.m (by omega), pxPl_n (by omega), pxM_ne (by omega), pxPl_n (by omega), pxM_ne (by omega)]; exact w5
            · have Fx : pxF (fun k f => (k = 12 + 4 * i) ∨ (k = 10 ∧ f = 5)) h2 h5 := ((((pxF.setI (by omega)).trans (pxPl_F.mono (fun k f q => by omega))).trans (pxF.setI (by omega))).trans (pxPl_F.mono (fun k f q => by omega))).trans (z2.mono (fun k f q => by omega))
              exact w6.fr Fx _ _ e0 (fun k f q1 q2 q3 => by omega)
            · rw [z2.m (by omega), pxPl_n (by omega), pxM_eq (by omega) (by omega), eP]
          · obtain ⟨h5, z1, z2, z3⟩ := x2 c47
            rw [if_neg c47]
            exact ⟨fun z => (by cases z), fun _ => ⟨h5, z1, F4.trans (z2.mono (fun k f z => by unfold pxQe; omega)), z3⟩⟩
        · rw [if_neg cu, if_neg cu]
          exact ⟨fun z => absurd z cu, fun _ => ⟨_, rfl, F4, pxPl_p (by omega) (by omega)⟩⟩
      · rw [if_neg c2, if_neg c2, pxPl_id hp2] at ps2
        have eP : pxPtn s p = (false, (pxPat s (p + 1)).2) := by unfold pxPtn; rw [if_pos c, if_pos co, if_neg c2]
        have eR : pxRep s p = (false, (pxPat s (p + 1)).2) := by unfold pxRep; rw [eP, if_neg (by simp : ¬ (false = true))]
        rw [eR]
        refine ⟨fun z => (by cases z), fun _ => ⟨jw_setI h2 (12 + 4 * i) 6 (pxJ e), ?_, F2, hp2⟩⟩
        simp (disch := first | assumption | omega | (simp only [jw_t_I, px_cpt]; done) | (simp only [jw_t_I, px_cpt]; omega)) only [pxL0, pxL1, pxL2, pxL3, pxL4, pxL5, pxL6, pxL7, pxL8, pxL9, pxL10, pxL11, pxL12, pxL13, pxL14, pxL15, pxL16, pxL17, pxL18, pxL19, pxL20, pxL21, pxL22, pxL23, pxL24, pxL25, pxL26, pxL27, pxL28, pxL29, pxL30, pxL31, pxL32, pxL33, pxL34, pxL35, pxL36, pxL37, pxL38, pxL39, pxL40, pxL41, pxL42, pxL43, pxL44, pxL45, pxL46, pxL47, pxL48, pxL49, pxL51, pxL57, pxL58, pxL59, pxL60, pxL61, pxL62, pxL63, pxL64, pxL65, pxL66, pxL67, pxL68, pxL69, pxL70, pxL71, pxL72, pxL73, pxL74, pxL75, pxL76, pxL77, pxL78, pxL79, pxL80, pxL81, pxL82, pxL83, pxL84, pxL85, pxL86, pxL87, pxL88, pxL89, pxL90, pxL91, pxL92, pxL93, pxL94, pxL95, pxL96, pxL97, pxL98, pxL99, pxL100, pxL101, pxL102, pxL103, pxL104, pxL105, pxL106, pxL107, pxL108, pxL109, pxL110, pxL111, pxL112, pxL113, pxL114, pxL115, pxL116, pxL117, pxL118, pxL119, pxL120, pxL121, pxL122, pxL123, pxL124, pxL125, pxL126, pxL200, pxL240, pxL287, pxL388, pxL400, pxL429, pxL431, pxL440, pxL1240, pxL1600, pxL1681, pxL12028, pxL13849, pxL14880, pxL25173, pxL26908, pxL49600, pxL65535, pxL65536, ↓reduceIte, pxJ_add, pxJ_sub, pxJ_mul, pxJ_neg, pxD_lt_t, pxD_lt_f, pxD_le_t, pxD_le_f, pxD_eq_t, pxD_eq_f, pxJ_lt, pxJ_le, pxJ_eq, px_gI, px_gR, px_pI, px_rc, px_ai, px_ar, px_si, px_ln, px_cp, pxJ_div, pxJ_b8, pxJ_byte, px_b2, px_bs, px_rb0, px_rb1, px_min, px_max, px_compare, pxW_some, jw_t_I, px_cpt, jw_r_I, px_cpr, jw_l_I, px_cpl, Option.some.injEq, ps, w1, v2, ps2]
    · obtain ⟨h2, w1, w2, w3⟩ := y2 (by simpa using co)
      have eP : pxPtn s p = (false, (pxPat s (p + 1)).2) := by unfold pxPtn; rw [if_pos c, if_neg co]
      have eR : pxRep s p = (false, (pxPat s (p + 1)).2) := by unfold pxRep; rw [eP, if_neg (by simp : ¬ (false = true))]
      have t52 : (jw_t h2 (12 + 4 * i)).1 = 5 := by rw [w2.t]; exact t5
      have t53 : (jw_t (jw_setI h2 (12 + 4 * i) 6 (pxJ (-1))) (12 + 4 * i)).1 = 5 := t52
      have v2 : pxM (jw_setI h2 (12 + 4 * i) 6 (pxJ (-1))) (12 + 4 * i) 6 = -1 := pxM_eq (by omega) (by omega)
      rw [eR]
      refine ⟨fun z => (by cases z), fun _ => ⟨jw_setI h2 (12 + 4 * i) 6 (pxJ (-1)), ?_, (F1.trans (w2.mono (fun k f z => Or.inl z))).trans (pxF.setI (by omega)), by rw [pxM_ne (by omega)]; exact w3⟩⟩
      simp (disch := first | assumption | omega | (simp only [jw_t_I, px_cpt]; done) | (simp only [jw_t_I, px_cpt]; omega)) only [pxL0, pxL1, pxL2, pxL3, pxL4, pxL5, pxL6, pxL7, pxL8, pxL9, pxL10, pxL11, pxL12, pxL13, pxL14, pxL15, pxL16, pxL17, pxL18, pxL19, pxL20, pxL21, pxL22, pxL23, pxL24, pxL25, pxL26, pxL27, pxL28, pxL29, pxL30, pxL31, pxL32, pxL33, pxL34, pxL35, pxL36, pxL37, pxL38, pxL39, pxL40, pxL41, pxL42, pxL43, pxL44, pxL45, pxL46, pxL47, pxL48, pxL49, pxL51, pxL57, pxL58, pxL59, pxL60, pxL61, pxL62, pxL63, pxL64, pxL65, pxL66, pxL67, pxL68, pxL69, pxL70, pxL71, pxL72, pxL73, pxL74, pxL75, pxL76, pxL77, pxL78, pxL79, pxL80, pxL81, pxL82, pxL83, pxL84, pxL85, pxL86, pxL87, pxL88, pxL89, pxL90, pxL91, pxL92, pxL93, pxL94, pxL95, pxL96, pxL97, pxL98, pxL99, pxL100, pxL101, pxL102, pxL103, pxL104, pxL105, pxL106, pxL107, pxL108, pxL109, pxL110, pxL111, pxL112, pxL113, pxL114, pxL115, pxL116, pxL117, pxL118, pxL119, pxL120, pxL121, pxL122, pxL123, pxL124, pxL125, pxL126, pxL200, pxL240, pxL287, pxL388, pxL400, pxL429, pxL431, pxL440, pxL1240, pxL1600, pxL1681, pxL12028, pxL13849, pxL14880, pxL25173, pxL26908, pxL49600, pxL65535, pxL65536, ↓reduceIte, pxJ_add, pxJ_sub, pxJ_mul, pxJ_neg, pxD_lt_t, pxD_lt_f, pxD_le_t, pxD_le_f, pxD_eq_t, pxD_eq_f, pxJ_lt, pxJ_le, pxJ_eq, px_gI, px_gR, px_pI, px_rc, px_ai, px_ar, px_si, px_ln, px_cp, pxJ_div, pxJ_b8, pxJ_byte, px_b2, px_bs, px_rb0, px_rb1, px_min, px_max, px_compare, pxW_some, jw_t_I, px_cpt, jw_r_I, px_cpr, jw_l_I, px_cpl, Option.some.injEq, ps, w1, v2]
  · have eP : pxPtn s p = (false, p) := by unfold pxPtn; rw [if_neg c]
    have eR : pxRep s p = (false, p) := by unfold pxRep; rw [eP, if_neg (by simp : ¬ (false = true))]
    rw [eR]
    rw [if_neg c, if_neg c, pxPl_id hp] at ps
    refine ⟨fun z => (by cases z), fun _ => ⟨h, ?_, pxF.rfl, hp⟩⟩
    simp (disch := first | assumption | omega | (simp only [jw_t_I, px_cpt]; done) | (simp only [jw_t_I, px_cpt]; omega)) only [pxL0, pxL1, pxL2, pxL3, pxL4, pxL5, pxL6, pxL7, pxL8, pxL9, pxL10, pxL11, pxL12, pxL13, pxL14, pxL15, pxL16, pxL17, pxL18, pxL19, pxL20, pxL21, pxL22, pxL23, pxL24, pxL25, pxL26, pxL27, pxL28, pxL29, pxL30, pxL31, pxL32, pxL33, pxL34, pxL35, pxL36, pxL37, pxL38, pxL39, pxL40, pxL41, pxL42, pxL43, pxL44, pxL45, pxL46, pxL47, pxL48, pxL49, pxL51, pxL57, pxL58, pxL59, pxL60, pxL61, pxL62, pxL63, pxL64, pxL65, pxL66, pxL67, pxL68, pxL69, pxL70, pxL71, pxL72, pxL73, pxL74, pxL75, pxL76, pxL77, pxL78, pxL79, pxL80, pxL81, pxL82, pxL83, pxL84, pxL85, pxL86, pxL87, pxL88, pxL89, pxL90, pxL91, pxL92, pxL93, pxL94, pxL95, pxL96, pxL97, pxL98, pxL99, pxL100, pxL101, pxL102, pxL103, pxL104, pxL105, pxL106, pxL107, pxL108, pxL109, pxL110, pxL111, pxL112, pxL113, pxL114, pxL115, pxL116, pxL117, pxL118, pxL119, pxL120, pxL121, pxL122, pxL123, pxL124, pxL125, pxL126, pxL200, pxL240, pxL287, pxL388, pxL400, pxL429, pxL431, pxL440, pxL1240, pxL1600, pxL1681, pxL12028, pxL13849, pxL14880, pxL25173, pxL26908, pxL49600, pxL65535, pxL65536, ↓reduceIte, pxJ_add, pxJ_sub, pxJ_mul, pxJ_neg, pxD_lt_t, pxD_lt_f, pxD_le_t, pxD_le_f, pxD_eq_t, pxD_eq_f, pxJ_lt, pxJ_le, pxJ_eq, px_gI, px_gR, px_pI, px_rc, px_ai, px_ar, px_si, px_ln, px_cp, pxJ_div, pxJ_b8, pxJ_byte, px_b2, px_bs, px_rb0, px_rb1, px_min, px_max, px_compare, pxW_some, jw_t_I, px_cpt, jw_r_I, px_cpr, jw_l_I, px_cpl, Option.some.injEq, ps]
end
