/-! rows: loops -/
theorem px_fu {m N : Nat} (h : m < N) : ∃ N', N = N' + 1 ∧ m ≤ N' := ⟨N - 1, by omega, by omega⟩
theorem px_FU : jw_FU = 99999 + 1 := rfl
section
variable {h : jw_H} {ρ cap : Nat} {rs : List (List Int)}
theorem s_X7_same_b22 (H : pxIR h ρ cap rs) {ρ2 cap2 : Nat} {rs2 : List (List Int)} (H2 : pxIR h ρ2 cap2 rs2) {x y : Int} (hx1 : 1 ≤ x) (hx2 : x ≤ rs.length) (hy1 : 1 ≤ y) (hy2 : y ≤ rs2.length) (he : pxLn rs x = pxLn rs2 y) :
    ∀ (m N : Nat) (z : Int), z + m = pxLn rs x → 0 ≤ z → m < N → f_X7_same_b22 N h ρ (pxJ x) (some ρ2) (pxJ y) (pxJ (pxLn rs x)) (pxJ z) = some (pxJ (if (pxRw rs x).drop z.toNat = (pxRw rs2 y).drop z.toNat then 1 else 0), h) := by
  have e1 := H.2.1
  have e2 := H2.2.1
  have e3 := H.1.2.2.2.2.2
  have e4 := H2.1.2.2.2.2.2
  have t0 := H.1.1
  have t0' := H2.1.1
  have l1 := pxLn_le H.2.2.1 x
  have lE : pxLn rs x = (pxRw rs x).length := rfl
  have lE2 : pxLn rs2 y = (pxRw rs2 y).length := rfl
  intro m
  induction m with
  | zero =>
    intro N z hz h0 hN
    obtain ⟨N, rfl, -⟩ := px_fu hN
    rw [u_X7_same_b22]
    unfold g_X7_same_b22
    rw [if_pos (show (pxRw rs x).drop z.toNat = (pxRw rs2 y).drop z.toNat by rw [List.drop_of_length_le (by omega), List.drop_of_length_le (by omega)])]
    simp (disch := first | assumption | omega | (simp only [jw_t_I, px_cpt]; done) | (simp only [jw_t_I, px_cpt]; omega)) only [pxL0, pxL1, pxL2, pxL3, pxL4, pxL5, pxL6, pxL7, pxL8, pxL9, pxL10, pxL11, pxL12, pxL13, pxL14, pxL15, pxL16, pxL17, pxL18, pxL19, pxL20, pxL21, pxL22, pxL23, pxL24, pxL25, pxL26, pxL27, pxL28, pxL29, pxL30, pxL31, pxL32, pxL33, pxL34, pxL35, pxL36, pxL37, pxL38, pxL39, pxL40, pxL41, pxL42, pxL43, pxL44, pxL45, pxL46, pxL47, pxL48, pxL49, pxL51, pxL57, pxL58, pxL59, pxL60, pxL61, pxL62, pxL63, pxL64, pxL65, pxL66, pxL67, pxL68, pxL69, pxL70, pxL71, pxL72, pxL73, pxL74, pxL75, pxL76, pxL77, pxL78, pxL79, pxL80, pxL81, pxL82, pxL83, pxL84, pxL85, pxL86, pxL87, pxL88, pxL89, pxL90, pxL91, pxL92, pxL93, pxL94, pxL95, pxL96, pxL97, pxL98, pxL99, pxL100, pxL101, pxL102, pxL103, pxL104, pxL105, pxL106, pxL107, pxL108, pxL109, pxL110, pxL111, pxL112, pxL113, pxL114, pxL115, pxL116, pxL117, pxL118, pxL119, pxL120, pxL121, pxL122, pxL123, pxL124, pxL125, pxL126, pxL200, pxL240, pxL287, pxL388, pxL400, pxL429, pxL431, pxL440, pxL1240, pxL1600, pxL1681, pxL12028, pxL13849, pxL14880, pxL25173, pxL26908, pxL49600, pxL65535, pxL65536, ↓reduceIte, pxJ_add, pxJ_sub, pxJ_mul, pxJ_neg, pxD_lt_t, pxD_lt_f, pxD_le_t, pxD_le_f, pxD_eq_t, pxD_eq_f, pxJ_lt, pxJ_le, pxJ_eq, px_gI, px_gR, px_pI, px_rc, px_ai, px_ar, px_si, px_ln, px_cp, pxJ_div, pxJ_b8, pxJ_byte, px_b2, px_bs, px_rb0, px_rb1, px_min, px_max, px_compare, pxW_some, jw_t_I, px_cpt, jw_r_I, px_cpr, jw_l_I, px_cpl, Option.some.injEq]
  | succ m ih =>
    intro N z hz h0 hN
    obtain ⟨N, rfl, hN⟩ := px_fu hN
    rw [u_X7_same_b22]
    unfold g_X7_same_b22
    have s1 := s_X7_signAt H (x := x) (y := z) (by omega) (by omega) (by omega) (by omega)
    have s2 := s_X7_signAt H2 (x := y) (y := z) (by omega) (by omega) (by omega) (by omega)
    rw [pxSgA_t (by omega)] at s1 s2
    rw [pxE_drop h0 (by omega), pxE_drop (r := pxRw rs2 y) h0 (by omega)]
    have c1 := pxCh_in (pxE_ch (pxRw_or H.2.2.1 x) h0 (by omega))
    have c2 := pxCh_in (pxE_ch (pxRw_or H2.2.2.1 y) h0 (by omega))
    have ih' := ih N (z + 1) (by omega) (by omega) (by omega)
    unfold pxSg at s1 s2
    by_cases hc : pxE (pxRw rs x) z = pxE (pxRw rs2 y) z
    · simp (disch := first | assumption | omega | (simp only [jw_t_I, px_cpt]; done) | (simp only [jw_t_I, px_cpt]; omega)) only [pxL0, pxL1, pxL2, pxL3, pxL4, pxL5, pxL6, pxL7, pxL8, pxL9, pxL10, pxL11, pxL12, pxL13, pxL14, pxL15, pxL16, pxL17, pxL18, pxL19, pxL20, pxL21, pxL22, pxL23, pxL24, pxL25, pxL26, pxL27, pxL28, pxL29, pxL30, pxL31, pxL32, pxL33, pxL34, pxL35, pxL36, pxL37, pxL38, pxL39, pxL40, pxL41, pxL42, pxL43, pxL44, pxL45, pxL46, pxL47, pxL48, pxL49, pxL51, pxL57, pxL58, pxL59, pxL60, pxL61, pxL62, pxL63, pxL64, pxL65, pxL66, pxL67, pxL68, pxL69, pxL70, pxL71, pxL72, pxL73, pxL74, pxL75, pxL76, pxL77, pxL78, pxL79, pxL80, pxL81, pxL82, pxL83, pxL84, pxL85, pxL86, pxL87, pxL88, pxL89, pxL90, pxL91, pxL92, pxL93, pxL94, pxL95, pxL96, pxL97, pxL98, pxL99, pxL100, pxL101, pxL102, pxL103, pxL104, pxL105, pxL106, pxL107, pxL108, pxL109, pxL110, pxL111, pxL112, pxL113, pxL114, pxL115, pxL116, pxL117, pxL118, pxL119, pxL120, pxL121, pxL122, pxL123, pxL124, pxL125, pxL126, pxL200, pxL240, pxL287, pxL388, pxL400, pxL429, pxL431, pxL440, pxL1240, pxL1600, pxL1681, pxL12028, pxL13849, pxL14880, pxL25173, pxL26908, pxL49600, pxL65535, pxL65536, ↓reduceIte, pxJ_add, pxJ_sub, pxJ_mul, pxJ_neg, pxD_lt_t, pxD_lt_f, pxD_le_t, pxD_le_f, pxD_eq_t, pxD_eq_f, pxJ_lt, pxJ_le, pxJ_eq, px_gI, px_gR, px_pI, px_rc, px_ai, px_ar, px_si, px_ln, px_cp, pxJ_div, pxJ_b8, pxJ_byte, px_b2, px_bs, px_rb0, px_rb1, px_min, px_max, px_compare, pxW_some, jw_t_I, px_cpt, jw_r_I, px_cpr, jw_l_I, px_cpl, Option.some.injEq, s1, s2, hc, ih', List.cons.injEq, true_and]
    · simp (disch := first | assumption | omega | (simp only [jw_t_I, px_cpt]; done) | (simp only [jw_t_I, px_cpt]; omega)) only [pxL0, pxL1, pxL2, pxL3, pxL4, pxL5, pxL6, pxL7, pxL8, pxL9, pxL10, pxL11, pxL12, pxL13, pxL14, pxL15, pxL16, pxL17, pxL18, pxL19, pxL20, pxL21, pxL22, pxL23, pxL24, pxL25, pxL26, pxL27, pxL28, pxL29, pxL30, pxL31, pxL32, pxL33, pxL34, pxL35, pxL36, pxL37, pxL38, pxL39, pxL40, pxL41, pxL42, pxL43, pxL44, pxL45, pxL46, pxL47, pxL48, pxL49, pxL51, pxL57, pxL58, pxL59, pxL60, pxL61, pxL62, pxL63, pxL64, pxL65, pxL66, pxL67, pxL68, pxL69, pxL70, pxL71, pxL72, pxL73, pxL74, pxL75, pxL76, pxL77, pxL78, pxL79, pxL80, pxL81, pxL82, pxL83, pxL84, pxL85, pxL86, pxL87, pxL88, pxL89, pxL90, pxL91, pxL92, pxL93, pxL94, pxL95, pxL96, pxL97, pxL98, pxL99, pxL100, pxL101, pxL102, pxL103, pxL104, pxL105, pxL106, pxL107, pxL108, pxL109, pxL110, pxL111, pxL112, pxL113, pxL114, pxL115, pxL116, pxL117, pxL118, pxL119, pxL120, pxL121, pxL122, pxL123, pxL124, pxL125, pxL126, pxL200, pxL240, pxL287, pxL388, pxL400, pxL429, pxL431, pxL440, pxL1240, pxL1600, pxL1681, pxL12028, pxL13849, pxL14880, pxL25173, pxL26908, pxL49600, pxL65535, pxL65536, ↓reduceIte, pxJ_add, pxJ_sub, pxJ_mul, pxJ_neg, pxD_lt_t, pxD_lt_f, pxD_le_t, pxD_le_f, pxD_eq_t, pxD_eq_f, pxJ_lt, pxJ_le, pxJ_eq, px_gI, px_gR, px_pI, px_rc, px_ai, px_ar, px_si, px_ln, px_cp, pxJ_div, pxJ_b8, pxJ_byte, px_b2, px_bs, px_rb0, px_rb1, px_min, px_max, px_compare, pxW_some, jw_t_I, px_cpt, jw_r_I, px_cpr, jw_l_I, px_cpl, Option.some.injEq, s1, s2, hc, List.cons.injEq, false_and]
theorem s_X7_same (H : pxIR h ρ cap rs) {ρ2 cap2 : Nat} {rs2 : List (List Int)} (H2 : pxIR h ρ2 cap2 rs2) {x y : Int} (hx1 : 1 ≤ x) (hx2 : x ≤ rs.length) (hy1 : 1 ≤ y) (hy2 : y ≤ rs2.length) :
    f_X7_same h ρ (pxJ x) (some ρ2) (pxJ y) = some (pxJ (if pxRw rs x = pxRw rs2 y then 1 else 0), h) := by
  have e1 := H.2.1
  have e2 := H2.2.1
  have e3 := H.1.2.2.2.2.2
  have e4 := H2.1.2.2.2.2.2
  have t0 := H.1.1
  have t0' := H2.1.1
  have l1 := pxLn_le H.2.2.1 x
  have l2 := pxLn_le H2.2.2.1 y
  have l3 := pxLn_0 rs x
  have l4 := pxLn_0 rs2 y
  have s1 := s_X7_lengthOf H (x := x) (by omega) (by omega)
  have s2 := s_X7_lengthOf H2 (x := y) (by omega) (by omega)
  rw [pxLnA_t ⟨by omega, by omega⟩] at s1 s2
  unfold f_X7_same
  by_cases hc : pxLn rs x = pxLn rs2 y
  · have := s_X7_same_b22 H H2 hx1 hx2 hy1 hy2 hc (pxLn rs x).toNat jw_FU 0 (by omega) (by omega) (by unfold jw_FU; omega)
    rw [show (0 : Int).toNat = 0 from rfl, List.drop_zero, List.drop_zero] at this
    simp (disch := first | assumption | omega | (simp only [jw_t_I, px_cpt]; done) | (simp only [jw_t_I, px_cpt]; omega)) only [pxL0, pxL1, pxL2, pxL3, pxL4, pxL5, pxL6, pxL7, pxL8, pxL9, pxL10, pxL11, pxL12, pxL13, pxL14, pxL15, pxL16, pxL17, pxL18, pxL19, pxL20, pxL21, pxL22, pxL23, pxL24, pxL25, pxL26, pxL27, pxL28, pxL29, pxL30, pxL31, pxL32, pxL33, pxL34, pxL35, pxL36, pxL37, pxL38, pxL39, pxL40, pxL41, pxL42, pxL43, pxL44, pxL45, pxL46, pxL47, pxL48, pxL49, pxL51, pxL57, pxL58, pxL59, pxL60, pxL61, pxL62, pxL63, pxL64, pxL65, pxL66, pxL67, pxL68, pxL69, pxL70, pxL71, pxL72, pxL73, pxL74, pxL75, pxL76, pxL77, pxL78, pxL79, pxL80, pxL81, pxL82, pxL83, pxL84, pxL85, pxL86, pxL87, pxL88, pxL89, pxL90, pxL91, pxL92, pxL93, pxL94, pxL95, pxL96, pxL97, pxL98, pxL99, pxL100, pxL101, pxL102, pxL103, pxL104, pxL105, pxL106, pxL107, pxL108, pxL109, pxL110, pxL111, pxL112, pxL113, pxL114, pxL115, pxL116, pxL117, pxL118, pxL119, pxL120, pxL121, pxL122, pxL123, pxL124, pxL125, pxL126, pxL200, pxL240, pxL287, pxL388, pxL400, pxL429, pxL431, pxL440, pxL1240, pxL1600, pxL1681, pxL12028, pxL13849, pxL14880, pxL25173, pxL26908, pxL49600, pxL65535, pxL65536, ↓reduceIte, pxJ_add, pxJ_sub, pxJ_mul, pxJ_neg, pxD_lt_t, pxD_lt_f, pxD_le_t, pxD_le_f, pxD_eq_t, pxD_eq_f, pxJ_lt, pxJ_le, pxJ_eq, px_gI, px_gR, px_pI, px_rc, px_ai, px_ar, px_si, px_ln, px_cp, pxJ_div, pxJ_b8, pxJ_byte, px_b2, px_bs, px_rb0, px_rb1, px_min, px_max, px_compare, pxW_some, jw_t_I, px_cpt, jw_r_I, px_cpr, jw_l_I, px_cpl, Option.some.injEq, s1, s2, ← hc, this]
  · have : ¬ pxRw rs x = pxRw rs2 y := fun e => hc (by unfold pxLn; rw [e])
    rw [if_neg this]
    simp (disch := first | assumption | omega | (simp only [jw_t_I, px_cpt]; done) | (simp only [jw_t_I, px_cpt]; omega)) only [pxL0, pxL1, pxL2, pxL3, pxL4, pxL5, pxL6, pxL7, pxL8, pxL9, pxL10, pxL11, pxL12, pxL13, pxL14, pxL15, pxL16, pxL17, pxL18, pxL19, pxL20, pxL21, pxL22, pxL23, pxL24, pxL25, pxL26, pxL27, pxL28, pxL29, pxL30, pxL31, pxL32, pxL33, pxL34, pxL35, pxL36, pxL37, pxL38, pxL39, pxL40, pxL41, pxL42, pxL43, pxL44, pxL45, pxL46, pxL47, pxL48, pxL49, pxL51, pxL57, pxL58, pxL59, pxL60, pxL61, pxL62, pxL63, pxL64, pxL65, pxL66, pxL67, pxL68, pxL69, pxL70, pxL71, pxL72, pxL73, pxL74, pxL75, pxL76, pxL77, pxL78, pxL79, pxL80, pxL81, pxL82, pxL83, pxL84, pxL85, pxL86, pxL87, pxL88, pxL89, pxL90, pxL91, pxL92, pxL93, pxL94, pxL95, pxL96, pxL97, pxL98, pxL99, pxL100, pxL101, pxL102, pxL103, pxL104, pxL105, pxL106, pxL107, pxL108, pxL109, pxL110, pxL111, pxL112, pxL113, pxL114, pxL115, pxL116, pxL117, pxL118, pxL119, pxL120, pxL121, pxL122, pxL123, pxL124, pxL125, pxL126, pxL200, pxL240, pxL287, pxL388, pxL400, pxL429, pxL431, pxL440, pxL1240, pxL1600, pxL1681, pxL12028, pxL13849, pxL14880, pxL25173, pxL26908, pxL49600, pxL65535, pxL65536, ↓reduceIte, pxJ_add, pxJ_sub, pxJ_mul, pxJ_neg, pxD_lt_t, pxD_lt_f, pxD_le_t, pxD_le_f, pxD_eq_t, pxD_eq_f, pxJ_lt, pxJ_le, pxJ_eq, px_gI, px_gR, px_pI, px_rc, px_ai, px_ar, px_si, px_ln, px_cp, pxJ_div, pxJ_b8, pxJ_byte, px_b2, px_bs, px_rb0, px_rb1, px_min, px_max, px_compare, pxW_some, jw_t_I, px_cpt, jw_r_I, px_cpr, jw_l_I, px_cpl, Option.some.injEq, s1, s2]
/-- -1, 0 or 1, as the one comes ahead of, with or behind the other -/
def pxCmp : List Int → List Int → Int
  | [], [] => 0
  | [], _ :: _ => -1
  | _ :: _, [] => 1
  | a :: l, b :: m => if a < b then -1 else if a = b then pxCmp l m else 1
theorem s_X7_compareFrom_b3 (H : pxIR h ρ cap rs) {x y : Int} (hx1 : 1 ≤ x) (hx2 : x ≤ rs.length) (hy1 : 1 ≤ y) (hy2 : y ≤ rs.length) :
    ∀ (m N : Nat) (z : Int), 30 ≤ z + m → 0 ≤ z → z ≤ 1000 → m < N → f_X7_compareFrom_b3 N h ρ (pxJ x) (pxJ y) (pxJ z) = some (pxJ (pxCmp ((pxRw rs x).drop z.toNat) ((pxRw rs y).drop z.toNat)), h) := by
  have e1 := H.2.1
  have e3 := H.1.2.2.2.2.2
  have t0 := H.1.1
  have l1 := pxLn_le H.2.2.1 x
  have l2 := pxLn_le H.2.2.1 y
  have lE : pxLn rs x = (pxRw rs x).length := rfl
  have lE2 : pxLn rs y = (pxRw rs y).length := rfl
  have base : ∀ z : Int, 30 ≤ z → pxCmp ((pxRw rs x).drop z.toNat) ((pxRw rs y).drop z.toNat) = 0 := fun z hz => by
    rw [List.drop_of_length_le (by omega), List.drop_of_length_le (by omega)]; rfl
  intro m
  induction m with
  | zero =>
    intro N z hz h0 h9 hN
    obtain ⟨N, rfl, -⟩ := px_fu hN
    rw [u_X7_compareFrom_b3, base z (by omega)]
    unfold g_X7_compareFrom_b3
    simp (disch := first | assumption | omega | (simp only [jw_t_I, px_cpt]; done) | (simp only [jw_t_I, px_cpt]; omega)) only [pxL0, pxL1, pxL2, pxL3, pxL4, pxL5, pxL6, pxL7, pxL8, pxL9, pxL10, pxL11, pxL12, pxL13, pxL14, pxL15, pxL16, pxL17, pxL18, pxL19, pxL20, pxL21, pxL22, pxL23, pxL24, pxL25, pxL26, pxL27, pxL28, pxL29, pxL30, pxL31, pxL32, pxL33, pxL34, pxL35, pxL36, pxL37, pxL38, pxL39, pxL40, pxL41, pxL42, pxL43, pxL44, pxL45, pxL46, pxL47, pxL48, pxL49, pxL51, pxL57, pxL58, pxL59, pxL60, pxL61, pxL62, pxL63, pxL64, pxL65, pxL66, pxL67, pxL68, pxL69, pxL70, pxL71, pxL72, pxL73, pxL74, pxL75, pxL76, pxL77, pxL78, pxL79, pxL80, pxL81, pxL82, pxL83, pxL84, pxL85, pxL86, pxL87, pxL88, pxL89, pxL90, pxL91, pxL92, pxL93, pxL94, pxL95, pxL96, pxL97, pxL98, pxL99, pxL100, pxL101, pxL102, pxL103, pxL104, pxL105, pxL106, pxL107, pxL108, pxL109, pxL110, pxL111, pxL112, pxL113, pxL114, pxL115, pxL116, pxL117, pxL118, pxL119, pxL120, pxL121, pxL122, pxL123, pxL124, pxL125, pxL126, pxL200, pxL240, pxL287, pxL388, pxL400, pxL429, pxL431, pxL440, pxL1240, pxL1600, pxL1681, pxL12028, pxL13849, pxL14880, pxL25173, pxL26908, pxL49600, pxL65535, pxL65536, ↓reduceIte, pxJ_add, pxJ_sub, pxJ_mul, pxJ_neg, pxD_lt_t, pxD_lt_f, pxD_le_t, pxD_le_f, pxD_eq_t, pxD_eq_f, pxJ_lt, pxJ_le, pxJ_eq, px_gI, px_gR, px_pI, px_rc, px_ai, px_ar, px_si, px_ln, px_cp, pxJ_div, pxJ_b8, pxJ_byte, px_b2, px_bs, px_rb0, px_rb1, px_min, px_max, px_compare, pxW_some, jw_t_I, px_cpt, jw_r_I, px_cpr, jw_l_I, px_cpl, Option.some.injEq]
  | succ m ih =>
    intro N z hz h0 h9 hN
    obtain ⟨N, rfl, hN⟩ := px_fu hN
    rw [u_X7_compareFrom_b3]
    unfold g_X7_compareFrom_b3
    by_cases h30 : 30 ≤ z
    · rw [base z h30]
      simp (disch := first | assumption | omega | (simp only [jw_t_I, px_cpt]; done) | (simp only [jw_t_I, px_cpt]; omega)) only [pxL0, pxL1, pxL2, pxL3, pxL4, pxL5, pxL6, pxL7, pxL8, pxL9, pxL10, pxL11, pxL12, pxL13, pxL14, pxL15, pxL16, pxL17, pxL18, pxL19, pxL20, pxL21, pxL22, pxL23, pxL24, pxL25, pxL26, pxL27, pxL28, pxL29, pxL30, pxL31, pxL32, pxL33, pxL34, pxL35, pxL36, pxL37, pxL38, pxL39, pxL40, pxL41, pxL42, pxL43, pxL44, pxL45, pxL46, pxL47, pxL48, pxL49, pxL51, pxL57, pxL58, pxL59, pxL60, pxL61, pxL62, pxL63, pxL64, pxL65, pxL66, pxL67, pxL68, pxL69, pxL70, pxL71, pxL72, pxL73, pxL74, pxL75, pxL76, pxL77, pxL78, pxL79, pxL80, pxL81, pxL82, pxL83, pxL84, pxL85, pxL86, pxL87, pxL88, pxL89, pxL90, pxL91, pxL92, pxL93, pxL94, pxL95, pxL96, pxL97, pxL98, pxL99, pxL100, pxL101, pxL102, pxL103, pxL104, pxL105, pxL106, pxL107, pxL108, pxL109, pxL110, pxL111, pxL112, pxL113, pxL114, pxL115, pxL116, pxL117, pxL118, pxL119, pxL120, pxL121, pxL122, pxL123, pxL124, pxL125, pxL126, pxL200, pxL240, pxL287, pxL388, pxL400, pxL429, pxL431, pxL440, pxL1240, pxL1600, pxL1681, pxL12028, pxL13849, pxL14880, pxL25173, pxL26908, pxL49600, pxL65535, pxL65536, ↓reduceIte, pxJ_add, pxJ_sub, pxJ_mul, pxJ_neg, pxD_lt_t, pxD_lt_f, pxD_le_t, pxD_le_f, pxD_eq_t, pxD_eq_f, pxJ_lt, pxJ_le, pxJ_eq, px_gI, px_gR, px_pI, px_rc, px_ai, px_ar, px_si, px_ln, px_cp, pxJ_div, pxJ_b8, pxJ_byte, px_b2, px_bs, px_rb0, px_rb1, px_min, px_max, px_compare, pxW_some, jw_t_I, px_cpt, jw_r_I, px_cpr, jw_l_I, px_cpl, Option.some.injEq]
    have s1 := s_X7_signAt H (x := x) (y := z) (by omega) (by omega) (by omega) (by omega)
    have s2 := s_X7_signAt H (x := y) (y := z) (by omega) (by omega) (by omega) (by omega)
    have ih' := ih N (z + 1) (by omega) (by omega) (by omega) (by omega)
    by_cases hcx : z < pxLn rs x
    · rw [pxSgA_t (by omega)] at s1
      have c1 := pxCh_in (pxE_ch (pxRw_or H.2.2.1 x) h0 (by omega))
      rw [pxE_drop h0 (by omega)]
      unfold pxSg at s1
      by_cases hcy : z < pxLn rs y
      · rw [pxSgA_t (by omega)] at s2
        have c2 := pxCh_in (pxE_ch (pxRw_or H.2.2.1 y) h0 (by omega))
        rw [pxE_drop (r := pxRw rs y) h0 (by omega)]
        unfold pxSg at s2
        unfold pxCmp
        by_cases hc : pxE (pxRw rs x) z = pxE (pxRw rs y) z
        · have hlt : ¬ pxE (pxRw rs x) z < pxE (pxRw rs y) z := by omega
          rw [if_neg hlt, if_pos hc]
          simp (disch := first | assumption | omega | (simp only [jw_t_I, px_cpt]; done) | (simp only [jw_t_I, px_cpt]; omega)) only [pxL0, pxL1, pxL2, pxL3, pxL4, pxL5, pxL6, pxL7, pxL8, pxL9, pxL10, pxL11, pxL12, pxL13, pxL14, pxL15, pxL16, pxL17, pxL18, pxL19, pxL20, pxL21, pxL22, pxL23, pxL24, pxL25, pxL26, pxL27, pxL28, pxL29, pxL30, pxL31, pxL32, pxL33, pxL34, pxL35, pxL36, pxL37, pxL38, pxL39, pxL40, pxL41, pxL42, pxL43, pxL44, pxL45, pxL46, pxL47, pxL48, pxL49, pxL51, pxL57, pxL58, pxL59, pxL60, pxL61, pxL62, pxL63, pxL64, pxL65, pxL66, pxL67, pxL68, pxL69, pxL70, pxL71, pxL72, pxL73, pxL74, pxL75, pxL76, pxL77, pxL78, pxL79, pxL80, pxL81, pxL82, pxL83, pxL84, pxL85, pxL86, pxL87, pxL88, pxL89, pxL90, pxL91, pxL92, pxL93, pxL94, pxL95, pxL96, pxL97, pxL98, pxL99, pxL100, pxL101, pxL102, pxL103, pxL104, pxL105, pxL106, pxL107, pxL108, pxL109, pxL110, pxL111, pxL112, pxL113, pxL114, pxL115, pxL116, pxL117, pxL118, pxL119, pxL120, pxL121, pxL122, pxL123, pxL124, pxL125, pxL126, pxL200, pxL240, pxL287, pxL388, pxL400, pxL429, pxL431, pxL440, pxL1240, pxL1600, pxL1681, pxL12028, pxL13849, pxL14880, pxL25173, pxL26908, pxL49600, pxL65535, pxL65536, ↓reduceIte, pxJ_add, pxJ_sub, pxJ_mul, pxJ_neg, pxD_lt_t, pxD_lt_f, pxD_le_t, pxD_le_f, pxD_eq_t, pxD_eq_f, pxJ_lt, pxJ_le, pxJ_eq, px_gI, px_gR, px_pI, px_rc, px_ai, px_ar, px_si, px_ln, px_cp, pxJ_div, pxJ_b8, pxJ_byte, px_b2, px_bs, px_rb0, px_rb1, px_min, px_max, px_compare, pxW_some, jw_t_I, px_cpt, jw_r_I, px_cpr, jw_l_I, px_cpl, Option.some.injEq, s1, s2, hc, ih']
        · simp (disch := first | assumption | omega | (simp only [jw_t_I, px_cpt]; done) | (simp only [jw_t_I, px_cpt]; omega)) only [pxL0, pxL1, pxL2, pxL3, pxL4, pxL5, pxL6, pxL7, pxL8, pxL9, pxL10, pxL11, pxL12, pxL13, pxL14, pxL15, pxL16, pxL17, pxL18, pxL19, pxL20, pxL21, pxL22, pxL23, pxL24, pxL25, pxL26, pxL27, pxL28, pxL29, pxL30, pxL31, pxL32, pxL33, pxL34, pxL35, pxL36, pxL37, pxL38, pxL39, pxL40, pxL41, pxL42, pxL43, pxL44, pxL45, pxL46, pxL47, pxL48, pxL49, pxL51, pxL57, pxL58, pxL59, pxL60, pxL61, pxL62, pxL63, pxL64, pxL65, pxL66, pxL67, pxL68, pxL69, pxL70, pxL71, pxL72, pxL73, pxL74, pxL75, pxL76, pxL77, pxL78, pxL79, pxL80, pxL81, pxL82, pxL83, pxL84, pxL85, pxL86, pxL87, pxL88, pxL89, pxL90, pxL91, pxL92, pxL93, pxL94, pxL95, pxL96, pxL97, pxL98, pxL99, pxL100, pxL101, pxL102, pxL103, pxL104, pxL105, pxL106, pxL107, pxL108, pxL109, pxL110, pxL111, pxL112, pxL113, pxL114, pxL115, pxL116, pxL117, pxL118, pxL119, pxL120, pxL121, pxL122, pxL123, pxL124, pxL125, pxL126, pxL200, pxL240, pxL287, pxL388, pxL400, pxL429, pxL431, pxL440, pxL1240, pxL1600, pxL1681, pxL12028, pxL13849, pxL14880, pxL25173, pxL26908, pxL49600, pxL65535, pxL65536, ↓reduceIte, pxJ_add, pxJ_sub, pxJ_mul, pxJ_neg, pxD_lt_t, pxD_lt_f, pxD_le_t, pxD_le_f, pxD_eq_t, pxD_eq_f, pxJ_lt, pxJ_le, pxJ_eq, px_gI, px_gR, px_pI, px_rc, px_ai, px_ar, px_si, px_ln, px_cp, pxJ_div, pxJ_b8, pxJ_byte, px_b2, px_bs, px_rb0, px_rb1, px_min, px_max, px_compare, pxW_some, jw_t_I, px_cpt, jw_r_I, px_cpr, jw_l_I, px_cpl, Option.some.injEq, s1, s2, hc]
      · rw [pxSgA_f (by omega)] at s2
        rw [List.drop_of_length_le (l := pxRw rs y) (by omega)]
        unfold pxCmp
        simp (disch := first | assumption | omega | (simp only [jw_t_I, px_cpt]; done) | (simp only [jw_t_I, px_cpt]; omega)) only [pxL0, pxL1, pxL2, pxL3, pxL4, pxL5, pxL6, pxL7, pxL8, pxL9, pxL10, pxL11, pxL12, pxL13, pxL14, pxL15, pxL16, pxL17, pxL18, pxL19, pxL20, pxL21, pxL22, pxL23, pxL24, pxL25, pxL26, pxL27, pxL28, pxL29, pxL30, pxL31, pxL32, pxL33, pxL34, pxL35, pxL36, pxL37, pxL38, pxL39, pxL40, pxL41, pxL42, pxL43, pxL44, pxL45, pxL46, pxL47, pxL48, pxL49, pxL51, pxL57, pxL58, pxL59, pxL60, pxL61, pxL62, pxL63, pxL64, pxL65, pxL66, pxL67, pxL68, pxL69, pxL70, pxL71, pxL72, pxL73, pxL74, pxL75, pxL76, pxL77, pxL78, pxL79, pxL80, pxL81, pxL82, pxL83, pxL84, pxL85, pxL86, pxL87, pxL88, pxL89, pxL90, pxL91, pxL92, pxL93, pxL94, pxL95, pxL96, pxL97, pxL98, pxL99, pxL100, pxL101, pxL102, pxL103, pxL104, pxL105, pxL106, pxL107, pxL108, pxL109, pxL110, pxL111, pxL112, pxL113, pxL114, pxL115, pxL116, pxL117, pxL118, pxL119, pxL120, pxL121, pxL122, pxL123, pxL124, pxL125, pxL126, pxL200, pxL240, pxL287, pxL388, pxL400, pxL429, pxL431, pxL440, pxL1240, pxL1600, pxL1681, pxL12028, pxL13849, pxL14880, pxL25173, pxL26908, pxL49600, pxL65535, pxL65536, ↓reduceIte, pxJ_add, pxJ_sub, pxJ_mul, pxJ_neg, pxD_lt_t, pxD_lt_f, pxD_le_t, pxD_le_f, pxD_eq_t, pxD_eq_f, pxJ_lt, pxJ_le, pxJ_eq, px_gI, px_gR, px_pI, px_rc, px_ai, px_ar, px_si, px_ln, px_cp, pxJ_div, pxJ_b8, pxJ_byte, px_b2, px_bs, px_rb0, px_rb1, px_min, px_max, px_compare, pxW_some, jw_t_I, px_cpt, jw_r_I, px_cpr, jw_l_I, px_cpl, Option.some.injEq, s1, s2]
        rw [if_neg (by omega), if_neg (by omega)]
    · rw [pxSgA_f (by omega)] at s1
      by_cases hcy : z < pxLn rs y
      · rw [pxSgA_t (by omega)] at s2
        have c2 := pxCh_in (pxE_ch (pxRw_or H.2.2.1 y) h0 (by omega))
        rw [pxE_drop (r := pxRw rs y) h0 (by omega), List.drop_of_length_le (l := pxRw rs x) (by omega)]
        unfold pxSg at s2
        unfold pxCmp
        simp (disch := first | assumption | omega | (simp only [jw_t_I, px_cpt]; done) | (simp only [jw_t_I, px_cpt]; omega)) only [pxL0, pxL1, pxL2, pxL3, pxL4, pxL5, pxL6, pxL7, pxL8, pxL9, pxL10, pxL11, pxL12, pxL13, pxL14, pxL15, pxL16, pxL17, pxL18, pxL19, pxL20, pxL21, pxL22, pxL23, pxL24, pxL25, pxL26, pxL27, pxL28, pxL29, pxL30, pxL31, pxL32, pxL33, pxL34, pxL35, pxL36, pxL37, pxL38, pxL39, pxL40, pxL41, pxL42, pxL43, pxL44, pxL45, pxL46, pxL47, pxL48, pxL49, pxL51, pxL57, pxL58, pxL59, pxL60, pxL61, pxL62, pxL63, pxL64, pxL65, pxL66, pxL67, pxL68, pxL69, pxL70, pxL71, pxL72, pxL73, pxL74, pxL75, pxL76, pxL77, pxL78, pxL79, pxL80, pxL81, pxL82, pxL83, pxL84, pxL85, pxL86, pxL87, pxL88, pxL89, pxL90, pxL91, pxL92, pxL93, pxL94, pxL95, pxL96, pxL97, pxL98, pxL99, pxL100, pxL101, pxL102, pxL103, pxL104, pxL105, pxL106, pxL107, pxL108, pxL109, pxL110, pxL111, pxL112, pxL113, pxL114, pxL115, pxL116, pxL117, pxL118, pxL119, pxL120, pxL121, pxL122, pxL123, pxL124, pxL125, pxL126, pxL200, pxL240, pxL287, pxL388, pxL400, pxL429, pxL431, pxL440, pxL1240, pxL1600, pxL1681, pxL12028, pxL13849, pxL14880, pxL25173, pxL26908, pxL49600, pxL65535, pxL65536, ↓reduceIte, pxJ_add, pxJ_sub, pxJ_mul, pxJ_neg, pxD_lt_t, pxD_lt_f, pxD_le_t, pxD_le_f, pxD_eq_t, pxD_eq_f, pxJ_lt, pxJ_le, pxJ_eq, px_gI, px_gR, px_pI, px_rc, px_ai, px_ar, px_si, px_ln, px_cp, pxJ_div, pxJ_b8, pxJ_byte, px_b2, px_bs, px_rb0, px_rb1, px_min, px_max, px_compare, pxW_some, jw_t_I, px_cpt, jw_r_I, px_cpr, jw_l_I, px_cpl, Option.some.injEq, s1, s2]
        rw [if_pos (by omega)]
      · rw [pxSgA_f (by omega)] at s2
        have e0 : pxCmp ((pxRw rs x).drop z.toNat) ((pxRw rs y).drop z.toNat) = pxCmp ((pxRw rs x).drop (z + 1).toNat) ((pxRw rs y).drop (z + 1).toNat) := by
          rw [List.drop_of_length_le (by omega), List.drop_of_length_le (by omega), List.drop_of_length_le (by omega), List.drop_of_length_le (by omega)]
        rw [e0]
        simp (disch := first | assumption | omega | (simp only [jw_t_I, px_cpt]; done) | (simp only [jw_t_I, px_cpt]; omega)) only [pxL0, pxL1, pxL2, pxL3, pxL4, pxL5, pxL6, pxL7, pxL8, pxL9, pxL10, pxL11, pxL12, pxL13, pxL14, pxL15, pxL16, pxL17, pxL18, pxL19, pxL20, pxL21, pxL22, pxL23, pxL24, pxL25, pxL26, pxL27, pxL28, pxL29, pxL30, pxL31, pxL32, pxL33, pxL34, pxL35, pxL36, pxL37, pxL38, pxL39, pxL40, pxL41, pxL42, pxL43, pxL44, pxL45, pxL46, pxL47, pxL48, pxL49, pxL51, pxL57, pxL58, pxL59, pxL60, pxL61, pxL62, pxL63, pxL64, pxL65, pxL66, pxL67, pxL68, pxL69, pxL70, pxL71, pxL72, pxL73, pxL74, pxL75, pxL76, pxL77, pxL78, pxL79, pxL80, pxL81, pxL82, pxL83, pxL84, pxL85, pxL86, pxL87, pxL88, pxL89, pxL90, pxL91, pxL92, pxL93, pxL94, pxL95, pxL96, pxL97, pxL98, pxL99, pxL100, pxL101, pxL102, pxL103, pxL104, pxL105, pxL106, pxL107, pxL108, pxL109, pxL110, pxL111, pxL112, pxL113, pxL114, pxL115, pxL116, pxL117, pxL118, pxL119, pxL120, pxL121, pxL122, pxL123, pxL124, pxL125, pxL126, pxL200, pxL240, pxL287, pxL388, pxL400, pxL429, pxL431, pxL440, pxL1240, pxL1600, pxL1681, pxL12028, pxL13849, pxL14880, pxL25173, pxL26908, pxL49600, pxL65535, pxL65536, ↓reduceIte, pxJ_add, pxJ_sub, pxJ_mul, pxJ_neg, pxD_lt_t, pxD_lt_f, pxD_le_t, pxD_le_f, pxD_eq_t, pxD_eq_f, pxJ_lt, pxJ_le, pxJ_eq, px_gI, px_gR, px_pI, px_rc, px_ai, px_ar, px_si, px_ln, px_cp, pxJ_div, pxJ_b8, pxJ_byte, px_b2, px_bs, px_rb0, px_rb1, px_min, px_max, px_compare, pxW_some, jw_t_I, px_cpt, jw_r_I, px_cpr, jw_l_I, px_cpl, Option.some.injEq, s1, s2, ih']
theorem s_X7_compareFrom (H : pxIR h ρ cap rs) {x y z : Int} (hx1 : 1 ≤ x) (hx2 : x ≤ rs.length) (hy1 : 1 ≤ y) (hy2 : y ≤ rs.length) (hz1 : 0 ≤ z) (hz2 : z ≤ 1000) :
    f_X7_compareFrom h ρ (pxJ z) (pxJ x) (pxJ y) = some (pxJ (pxCmp ((pxRw rs x).drop z.toNat) ((pxRw rs y).drop z.toNat)), h) :=
  s_X7_compareFrom_b3 H hx1 hx2 hy1 hy2 30 jw_FU z (by omega) hz1 hz2 (by unfold jw_FU; omega)
theorem s_X7_open_b96 {a n c : Int} (ha : 1 ≤ a) (hn : 0 ≤ n) (hc : a - 1 + n ≤ cap) (hc2 : cap ≤ 100) (hc3 : 0 ≤ c) (hc4 : c ≤ 100) :
    ∀ (m N : Nat) (h : jw_H) (x : Int), x + m = a + n → a ≤ x → m < N → (jw_t h ρ).1 = 7 → jw_t h (ρ + 1) = (20, cap) → jw_r h ρ 0 = some (ρ + 1) → pxM h ρ 2 = c →
      pxW (f_X7_open_b96 N h ρ (pxJ a) (pxJ n) (pxJ x)) fun q h' => q = pxJ 1 ∧ pxF (fun k f => (k = ρ ∧ f = 2) ∨ k = ρ + 1) h h' ∧ jw_r h' (ρ + 1) = jw_r h (ρ + 1) ∧ pxM h' ρ 2 = c + n ∧ ∀ z : Int, 0 ≤ z → pxM h' (ρ + 1) z.toNat = if x - 1 ≤ z ∧ z < a + n - 1 then 0 else pxM h (ρ + 1) z.toNat := by
  intro m
  induction m with
  | zero =>
    intro N h x hx hax hN t0 t1 r0 m2
    obtain ⟨N, rfl, -⟩ := px_fu hN
    rw [u_X7_open_b96]
    unfold g_X7_open_b96
    simp (disch := first | assumption | omega | (simp only [jw_t_I, px_cpt, t1]; done) | (simp only [jw_t_I, px_cpt, t1]; omega)) only [pxL0, pxL1, pxL2, pxL3, pxL4, pxL5, pxL6, pxL7, pxL8, pxL9, pxL10, pxL11, pxL12, pxL13, pxL14, pxL15, pxL16, pxL17, pxL18, pxL19, pxL20, pxL21, pxL22, pxL23, pxL24, pxL25, pxL26, pxL27, pxL28, pxL29, pxL30, pxL31, pxL32, pxL33, pxL34, pxL35, pxL36, pxL37, pxL38, pxL39, pxL40, pxL41, pxL42, pxL43, pxL44, pxL45, pxL46, pxL47, pxL48, pxL49, pxL51, pxL57, pxL58, pxL59, pxL60, pxL61, pxL62, pxL63, pxL64, pxL65, pxL66, pxL67, pxL68, pxL69, pxL70, pxL71, pxL72, pxL73, pxL74, pxL75, pxL76, pxL77, pxL78, pxL79, pxL80, pxL81, pxL82, pxL83, pxL84, pxL85, pxL86, pxL87, pxL88, pxL89, pxL90, pxL91, pxL92, pxL93, pxL94, pxL95, pxL96, pxL97, pxL98, pxL99, pxL100, pxL101, pxL102, pxL103, pxL104, pxL105, pxL106, pxL107, pxL108, pxL109, pxL110, pxL111, pxL112, pxL113, pxL114, pxL115, pxL116, pxL117, pxL118, pxL119, pxL120, pxL121, pxL122, pxL123, pxL124, pxL125, pxL126, pxL200, pxL240, pxL287, pxL388, pxL400, pxL429, pxL431, pxL440, pxL1240, pxL1600, pxL1681, pxL12028, pxL13849, pxL14880, pxL25173, pxL26908, pxL49600, pxL65535, pxL65536, ↓reduceIte, pxJ_add, pxJ_sub, pxJ_mul, pxJ_neg, pxD_lt_t, pxD_lt_f, pxD_le_t, pxD_le_f, pxD_eq_t, pxD_eq_f, pxJ_lt, pxJ_le, pxJ_eq, px_gI, px_gR, px_pI, px_rc, px_ai, px_ar, px_si, px_ln, px_cp, pxJ_div, pxJ_b8, pxJ_byte, px_b2, px_bs, px_rb0, px_rb1, px_min, px_max, px_compare, pxW_some, jw_t_I, px_cpt, jw_r_I, px_cpr, jw_l_I, px_cpl, Option.some.injEq, t1, m2]
    refine ⟨trivial, pxF.setI (Or.inl ⟨rfl, rfl⟩), trivial, by rw [pxM_eq (by omega) (by omega)], fun z z1 => ?_⟩
    rw [pxM_ne (by omega), if_neg (by omega)]
  | succ m ih =>
    intro N h x hx hax hN t0 t1 r0 m2
    obtain ⟨N, rfl, hN⟩ := px_fu hN
    rw [u_X7_open_b96]
    unfold g_X7_open_b96
    simp (disch := first | assumption | omega | (simp only [jw_t_I, px_cpt, t1]; done) | (simp only [jw_t_I, px_cpt, t1]; omega)) only [pxL0, pxL1, pxL2, pxL3, pxL4, pxL5, pxL6, pxL7, pxL8, pxL9, pxL10, pxL11, pxL12, pxL13, pxL14, pxL15, pxL16, pxL17, pxL18, pxL19, pxL20, pxL21, pxL22, pxL23, pxL24, pxL25, pxL26, pxL27, pxL28, pxL29, pxL30, pxL31, pxL32, pxL33, pxL34, pxL35, pxL36, pxL37, pxL38, pxL39, pxL40, pxL41, pxL42, pxL43, pxL44, pxL45, pxL46, pxL47, pxL48, pxL49, pxL51, pxL57, pxL58, pxL59, pxL60, pxL61, pxL62, pxL63, pxL64, pxL65, pxL66, pxL67, pxL68, pxL69, pxL70, pxL71, pxL72, pxL73, pxL74, pxL75, pxL76, pxL77, pxL78, pxL79, pxL80, pxL81, pxL82, pxL83, pxL84, pxL85, pxL86, pxL87, pxL88, pxL89, pxL90, pxL91, pxL92, pxL93, pxL94, pxL95, pxL96, pxL97, pxL98, pxL99, pxL100, pxL101, pxL102, pxL103, pxL104, pxL105, pxL106, pxL107, pxL108, pxL109, pxL110, pxL111, pxL112, pxL113, pxL114, pxL115, pxL116, pxL117, pxL118, pxL119, pxL120, pxL121, pxL122, pxL123, pxL124, pxL125, pxL126, pxL200, pxL240, pxL287, pxL388, pxL400, pxL429, pxL431, pxL440, pxL1240, pxL1600, pxL1681, pxL12028, pxL13849, pxL14880, pxL25173, pxL26908, pxL49600, pxL65535, pxL65536, ↓reduceIte, pxJ_add, pxJ_sub, pxJ_mul, pxJ_neg, pxD_lt_t, pxD_lt_f, pxD_le_t, pxD_le_f, pxD_eq_t, pxD_eq_f, pxJ_lt, pxJ_le, pxJ_eq, px_gI, px_gR, px_pI, px_rc, px_ai, px_ar, px_si, px_ln, px_cp, pxJ_div, pxJ_b8, pxJ_byte, px_b2, px_bs, px_rb0, px_rb1, px_min, px_max, px_compare, pxW_some, jw_t_I, px_cpt, jw_r_I, px_cpr, jw_l_I, px_cpl, Option.some.injEq, t1, r0]
    refine (ih N (jw_setI h (ρ + 1) (x - 1).toNat (pxJ 0)) (x + 1) (by omega) (by omega) (by omega) t0 t1 r0 (by rw [pxM_ne (by omega), m2])).mono fun q h' k => ?_
    obtain ⟨k1, k2, k3, k4, k5⟩ := k
    refine ⟨k1, (pxF.setI (Or.inr rfl)).trans k2, k3, k4, fun z z1 => ?_⟩
    rw [k5 z z1]
    by_cases hz : z = x - 1
    · subst hz
      rw [if_neg (by omega), if_pos (by omega), pxM_eq (by omega) (by omega)]
    · rw [pxM_ne (by omega)]
      by_cases h1 : x - 1 ≤ z ∧ z < a + n - 1
      · rw [if_pos h1, if_pos (by omega)]
      · rw [if_neg h1, if_neg (by omega)]
theorem s_X7_open (H : pxIR h ρ cap rs) {x n : Int} (hx1 : 1 ≤ x) (hx2 : x ≤ rs.length + 1) (hn1 : 0 ≤ n) (hn2 : n ≤ 1000) :
    pxW (f_X7_open h ρ (pxJ x) (pxJ n)) fun q h' => pxF (pxC ρ (ρ + 2)) h h' ∧ q = pxJ (if rs.length + n ≤ cap then 1 else 0) ∧ pxIR h' ρ cap (if rs.length + n ≤ cap then pxIns rs x (List.replicate n.toNat []) else rs) := by
  have H' := H
  obtain ⟨⟨t0, t1, t2, r0, r1, hc⟩, hn, ok, m2, mx⟩ := H
  unfold f_X7_open
  by_cases hz : rs.length + n ≤ cap
  · have K := s_X7_open_b96 (ρ := ρ) (cap := cap) (a := x) (n := n) (c := rs.length) hx1 hn1 (by omega) hc (by omega) (by omega) n.toNat jw_FU (px_cpH (px_cpH h (ρ + 1) (x - 1).toNat (ρ + 1) (x - 1 + n).toNat ((rs.length : Int) - x + 1).toNat) (ρ + 2) ((x - 1) * 30).toNat (ρ + 2) ((x - 1 + n) * 30).toNat (((rs.length : Int) - x + 1) * 30).toNat) x (by omega) (by omega) (by unfold jw_FU; omega) t0 t1 r0 (by rw [px_cpM_ne (by omega), px_cpM_ne (by omega), m2])
    simp only [if_pos hz]
    simp (disch := first | assumption | omega | (simp only [jw_t_I, px_cpt, t1, t2]; done) | (simp only [jw_t_I, px_cpt, t1, t2]; omega)) only [pxL0, pxL1, pxL2, pxL3, pxL4, pxL5, pxL6, pxL7, pxL8, pxL9, pxL10, pxL11, pxL12, pxL13, pxL14, pxL15, pxL16, pxL17, pxL18, pxL19, pxL20, pxL21, pxL22, pxL23, pxL24, pxL25, pxL26, pxL27, pxL28, pxL29, pxL30, pxL31, pxL32, pxL33, pxL34, pxL35, pxL36, pxL37, pxL38, pxL39, pxL40, pxL41, pxL42, pxL43, pxL44, pxL45, pxL46, pxL47, pxL48, pxL49, pxL51, pxL57, pxL58, pxL59, pxL60, pxL61, pxL62, pxL63, pxL64, pxL65, pxL66, pxL67, pxL68, pxL69, pxL70, pxL71, pxL72, pxL73, pxL74, pxL75, pxL76, pxL77, pxL78, pxL79, pxL80, pxL81, pxL82, pxL83, pxL84, pxL85, pxL86, pxL87, pxL88, pxL89, pxL90, pxL91, pxL92, pxL93, pxL94, pxL95, pxL96, pxL97, pxL98, pxL99, pxL100, pxL101, pxL102, pxL103, pxL104, pxL105, pxL106, pxL107, pxL108, pxL109, pxL110, pxL111, pxL112, pxL113, pxL114, pxL115, pxL116, pxL117, pxL118, pxL119, pxL120, pxL121, pxL122, pxL123, pxL124, pxL125, pxL126, pxL200, pxL240, pxL287, pxL388, pxL400, pxL429, pxL431, pxL440, pxL1240, pxL1600, pxL1681, pxL12028, pxL13849, pxL14880, pxL25173, pxL26908, pxL49600, pxL65535, pxL65536, ↓reduceIte, pxJ_add, pxJ_sub, pxJ_mul, pxJ_neg, pxD_lt_t, pxD_lt_f, pxD_le_t, pxD_le_f, pxD_eq_t, pxD_eq_f, pxJ_lt, pxJ_le, pxJ_eq, px_gI, px_gR, px_pI, px_rc, px_ai, px_ar, px_si, px_ln, px_cp, pxJ_div, pxJ_b8, pxJ_byte, px_b2, px_bs, px_rb0, px_rb1, px_min, px_max, px_compare, pxW_some, jw_t_I, px_cpt, jw_r_I, px_cpr, jw_l_I, px_cpl, Option.some.injEq, t1, t2, r0, r1, m2]
    refine K.mono fun q h' k => ?_
    obtain ⟨k1, k2, k3, k4, k5⟩ := k
    have F : pxF (pxC ρ (ρ + 2)) h h' := ((pxF.cpH (fun f _ _ => by unfold pxC; omega)).trans (pxF.cpH (fun f _ _ => by unfold pxC; omega))).trans (k2.mono (fun k f e => by unfold pxC; omega))
    have hl : ((pxIns rs x (List.replicate n.toNat [])).length : Int) = rs.length + n := by rw [pxIns_len, List.length_replicate]; omega
    have hrl : ((List.replicate n.toNat ([] : List Int)).length : Int) = n := by rw [List.length_replicate]; omega
    refine ⟨F, k1, ⟨?_, ?_, ?_, ?_, ?_, hc⟩, by omega, pxOk_ins ok (fun r hr => by rw [List.eq_of_mem_replicate hr]; exact pxOr_nil), by rw [k4, hl], fun y y1 y2 => ?_⟩
    · rw [F.t]; exact t0
    · rw [F.t]; exact t1
    · rw [F.t]; exact t2
    · rw [k2.r (by omega)]; exact r0
    · rw [k2.r (by omega)]; exact r1
    rw [hl] at y2
    rw [k5 (y - 1) (by omega)]
    by_cases hy : y < x
    · have e : pxRw (pxIns rs x (List.replicate n.toNat [])) y = pxRw rs y := pxIns_lo y1 hy hx2
      have l1 := pxLn_le ok y
      unfold pxLn pxSg at *
      rw [e, if_neg (by omega)]
      refine ⟨?_, fun z z1 z2 => ?_⟩
      · rw [px_cpM_ne (by omega), px_cpM_out (by omega) (by omega) (by omega), (mx y y1 (by omega)).1]
      · rw [k2.m (by omega), px_cpM_out (by omega) (by omega) (by omega), px_cpM_ne (by omega), (mx y y1 (by omega)).2 z z1 z2]
    · by_cases hy2 : y < x + n
      · have e : pxRw (pxIns rs x (List.replicate n.toNat [])) y = [] := by
          show pxG [] _ _ = _
          rw [pxIns_in (by omega) (by omega) hx2 hx1]
          unfold pxG
          rw [List.getD_eq_getElem?_getD, List.getElem?_replicate]
          split <;> rfl
        unfold pxLn pxSg at *
        rw [e, if_pos (by omega)]
        exact ⟨rfl, fun z z1 z2 => by simp at z2; omega⟩
      · have e : pxRw (pxIns rs x (List.replicate n.toNat [])) y = pxRw rs (y - n) := by
          show pxG [] _ _ = _
          rw [pxIns_hi (by omega) hx2 hx1, hrl]
        have l1 := pxLn_le ok (y - n)
        unfold pxLn pxSg at *
        rw [e, if_neg (by omega)]
        refine ⟨?_, fun z z1 z2 => ?_⟩
        · rw [px_cpM_ne (by omega), px_cpM_in (by omega) (by omega) (by omega) (by omega), ← (mx (y - n) (by omega) (by omega)).1]
          congr 2; omega
        · rw [k2.m (by omega), px_cpM_in (by omega) (by omega) (by omega) (by omega), px_cpM_ne (by omega), ← (mx (y - n) (by omega) (by omega)).2 z z1 z2]
          congr 2; omega
  · simp only [if_neg hz]
    simp (disch := first | assumption | omega | (simp only [jw_t_I, px_cpt, t1, t2]; done) | (simp only [jw_t_I, px_cpt, t1, t2]; omega)) only [pxL0, pxL1, pxL2, pxL3, pxL4, pxL5, pxL6, pxL7, pxL8, pxL9, pxL10, pxL11, pxL12, pxL13, pxL14, pxL15, pxL16, pxL17, pxL18, pxL19, pxL20, pxL21, pxL22, pxL23, pxL24, pxL25, pxL26, pxL27, pxL28, pxL29, pxL30, pxL31, pxL32, pxL33, pxL34, pxL35, pxL36, pxL37, pxL38, pxL39, pxL40, pxL41, pxL42, pxL43, pxL44, pxL45, pxL46, pxL47, pxL48, pxL49, pxL51, pxL57, pxL58, pxL59, pxL60, pxL61, pxL62, pxL63, pxL64, pxL65, pxL66, pxL67, pxL68, pxL69, pxL70, pxL71, pxL72, pxL73, pxL74, pxL75, pxL76, pxL77, pxL78, pxL79, pxL80, pxL81, pxL82, pxL83, pxL84, pxL85, pxL86, pxL87, pxL88, pxL89, pxL90, pxL91, pxL92, pxL93, pxL94, pxL95, pxL96, pxL97, pxL98, pxL99, pxL100, pxL101, pxL102, pxL103, pxL104, pxL105, pxL106, pxL107, pxL108, pxL109, pxL110, pxL111, pxL112, pxL113, pxL114, pxL115, pxL116, pxL117, pxL118, pxL119, pxL120, pxL121, pxL122, pxL123, pxL124, pxL125, pxL126, pxL200, pxL240, pxL287, pxL388, pxL400, pxL429, pxL431, pxL440, pxL1240, pxL1600, pxL1681, pxL12028, pxL13849, pxL14880, pxL25173, pxL26908, pxL49600, pxL65535, pxL65536, ↓reduceIte, pxJ_add, pxJ_sub, pxJ_mul, pxJ_neg, pxD_lt_t, pxD_lt_f, pxD_le_t, pxD_le_f, pxD_eq_t, pxD_eq_f, pxJ_lt, pxJ_le, pxJ_eq, px_gI, px_gR, px_pI, px_rc, px_ai, px_ar, px_si, px_ln, px_cp, pxJ_div, pxJ_b8, pxJ_byte, px_b2, px_bs, px_rb0, px_rb1, px_min, px_max, px_compare, pxW_some, jw_t_I, px_cpt, jw_r_I, px_cpr, jw_l_I, px_cpl, Option.some.injEq, t1, t2, r0, r1, m2]
    exact ⟨pxF.rfl, trivial, H'⟩
end
