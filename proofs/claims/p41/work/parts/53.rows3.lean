/-! rows: opened, closed, copied, compared -/
theorem pxE_drop {r : List Int} {z : Int} (h1 : 0 ≤ z) (h2 : z < r.length) : r.drop z.toNat = pxE r z :: r.drop (z + 1).toNat := by
  rw [List.drop_eq_getElem_cons (show z.toNat < r.length by omega), show (z + 1).toNat = z.toNat + 1 by omega]
  unfold pxE
  rw [List.getD_eq_getElem?_getD, List.getElem?_eq_getElem (show z.toNat < r.length by omega)]
  rfl
theorem pxE_app1 {r s : List Int} {y : Int} (h1 : 0 ≤ y) (h2 : y < r.length) : pxE (r ++ s) y = pxE r y := by
  unfold pxE
  rw [List.getD_eq_getElem?_getD, List.getD_eq_getElem?_getD, List.getElem?_append_left (by omega)]
theorem pxE_app2 {r s : List Int} {y : Int} (h1 : r.length ≤ y) : pxE (r ++ s) y = pxE s (y - r.length) := by
  unfold pxE
  rw [List.getD_eq_getElem?_getD, List.getD_eq_getElem?_getD, List.getElem?_append_right (by omega)]
  congr 2; omega
theorem pxE_take {r : List Int} {n y : Int} (h1 : y < n) (h0 : 0 ≤ y) : pxE (r.take n.toNat) y = pxE r y := by
  unfold pxE
  rw [List.getD_eq_getElem?_getD, List.getD_eq_getElem?_getD, List.getElem?_take, if_pos (by omega)]
theorem pxE_drop2 {r : List Int} {n y : Int} (h0 : 0 ≤ y) (h1 : 0 ≤ n) : pxE (r.drop n.toNat) y = pxE r (y + n) := by
  unfold pxE
  rw [List.getD_eq_getElem?_getD, List.getD_eq_getElem?_getD, List.getElem?_drop]
  congr 2; omega
theorem pxOr_app {r s : List Int} (h1 : pxOr r) (h2 : pxOr s) (h : r.length + s.length ≤ 30) : pxOr (r ++ s) := ⟨by rw [List.length_append]; omega, fun c hc => (List.mem_append.mp hc).elim (h1.2 c) (h2.2 c)⟩
theorem pxOr_take {r : List Int} {n : Nat} (h1 : pxOr r) : pxOr (r.take n) := ⟨by rw [List.length_take]; have := h1.1; omega, fun c hc => h1.2 c (List.mem_of_mem_take hc)⟩
theorem pxOr_drop {r : List Int} {n : Nat} (h1 : pxOr r) : pxOr (r.drop n) := ⟨by rw [List.length_drop]; have := h1.1; omega, fun c hc => h1.2 c (List.mem_of_mem_drop hc)⟩
section
variable {h : jw_H} {ρ cap : Nat} {rs : List (List Int)}
theorem s_X7_extend (H : pxIR h ρ cap rs) {ρ2 cap2 : Nat} {rs2 : List (List Int)} (H2 : pxIR h ρ2 cap2 rs2) {x y : Int} (hx1 : 1 ≤ x) (hx2 : x ≤ rs.length) (hy1 : 1 ≤ y) (hy2 : y ≤ rs2.length) :
    pxW (f_X7_extend h ρ (pxJ x) (some ρ2) (pxJ y)) fun q h' => pxF (pxC ρ (ρ + 2)) h h' ∧ q = pxJ (if pxLn rs x + pxLn rs2 y ≤ 30 then 1 else 0) ∧ pxIR h' ρ cap (if pxLn rs x + pxLn rs2 y ≤ 30 then pxSet rs x (pxRw rs x ++ pxRw rs2 y) else rs) := by
  have H' := H
  have e1 := H.2.1
  have e2 := H2.2.1
  have e3 := H.1.2.2.2.2.2
  have e4 := H2.1.2.2.2.2.2
  have hh := s_X7_has H (x := x) (by omega) (by omega)
  have hl := s_X7_lengthOf H2 (x := y) (by omega) (by omega)
  rw [pxLnA_t ⟨hy1, hy2⟩] at hl
  obtain ⟨len, tb, b0, b1, b2, hr, mb⟩ := H2.by hy1 hy2
  have t0' := H2.1.1
  have r1' := H2.1.2.2.2.2.1
  obtain ⟨⟨t0, t1, t2, r0, r1, hc⟩, hn, ok, C⟩ := H
  obtain ⟨m2, mx⟩ := id C
  have ln := pxLn_le ok x
  have ln0 := pxLn_0 rs x
  have lm := pxLn_le H2.2.2.1 y
  have lm0 := pxLn_0 rs2 y
  have lm2 : pxLn rs2 y = (pxRw rs2 y).length := rfl
  have ln2 : pxLn rs x = (pxRw rs x).length := rfl
  unfold f_X7_extend
  by_cases hz : pxLn rs x + pxLn rs2 y ≤ 30
  · have ee : pxM (px_cpH h (ρ2 + 2) ((y - 1) * 30).toNat (ρ + 2) ((x - 1) * 30 + pxLn rs x).toNat (pxLn rs2 y).toNat) (ρ + 1) (x - 1).toNat = pxLn rs x := by
      rw [px_cpM_ne (by omega), (mx x hx1 hx2).1]
    simp only [if_pos hz]
    simp (disch := first | assumption | omega | (simp only [jw_t_I, px_cpt, t1, t2, tb]; done) | (simp only [jw_t_I, px_cpt, t1, t2, tb]; omega)) only [pxL0, pxL1, pxL2, pxL3, pxL4, pxL5, pxL6, pxL7, pxL8, pxL9, pxL10, pxL11, pxL12, pxL13, pxL14, pxL15, pxL16, pxL17, pxL18, pxL19, pxL20, pxL21, pxL22, pxL23, pxL24, pxL25, pxL26, pxL27, pxL28, pxL29, pxL30, pxL31, pxL32, pxL33, pxL34, pxL35, pxL36, pxL37, pxL38, pxL39, pxL40, pxL41, pxL42, pxL43, pxL44, pxL45, pxL46, pxL47, pxL48, pxL49, pxL51, pxL57, pxL58, pxL59, pxL60, pxL61, pxL62, pxL63, pxL64, pxL65, pxL66, pxL67, pxL68, pxL69, pxL70, pxL71, pxL72, pxL73, pxL74, pxL75, pxL76, pxL77, pxL78, pxL79, pxL80, pxL81, pxL82, pxL83, pxL84, pxL85, pxL86, pxL87, pxL88, pxL89, pxL90, pxL91, pxL92, pxL93, pxL94, pxL95, pxL96, pxL97, pxL98, pxL99, pxL100, pxL101, pxL102, pxL103, pxL104, pxL105, pxL106, pxL107, pxL108, pxL109, pxL110, pxL111, pxL112, pxL113, pxL114, pxL115, pxL116, pxL117, pxL118, pxL119, pxL120, pxL121, pxL122, pxL123, pxL124, pxL125, pxL126, pxL200, pxL240, pxL287, pxL388, pxL400, pxL429, pxL431, pxL440, pxL1240, pxL1600, pxL1681, pxL12028, pxL13849, pxL14880, pxL25173, pxL26908, pxL49600, pxL65535, pxL65536, ↓reduceIte, pxJ_add, pxJ_sub, pxJ_mul, pxJ_neg, pxD_lt_t, pxD_lt_f, pxD_le_t, pxD_le_f, pxD_eq_t, pxD_eq_f, pxJ_lt, pxJ_le, pxJ_eq, px_gI, px_gR, px_pI, px_rc, px_ai, px_ar, px_si, px_ln, px_cp, pxJ_div, pxJ_b8, pxJ_byte, px_b2, px_bs, px_rb0, px_rb1, px_min, px_max, px_compare, pxW_some, jw_t_I, px_cpt, jw_r_I, px_cpr, jw_l_I, px_cpl, Option.some.injEq, t1, t2, tb, hh, hl, r0, r1, r1', m2, (mx x hx1 hx2).1, and_self, hx1, hx2, ee]
    have el : ((pxRw rs x ++ pxRw rs2 y).length : Int) = pxLn rs x + pxLn rs2 y := by rw [List.length_append]; omega
    refine ⟨(pxF.cpH (fun f _ _ => by unfold pxC; omega)).trans (pxF.setI (by unfold pxC; omega)), trivial, ⟨t0, t1, t2, r0, r1, hc⟩, by rw [pxSet_len]; exact hn, pxOk_set ok (pxOr_app (pxRw_or ok x) hr (by omega)), pxCR_set C ok hx1 hx2 ?_ ?_ ?_ ?_ ?_⟩
    · rw [pxM_ne (by omega), px_cpM_ne (by omega)]
    · rw [pxM_eq (by omega) (by omega), el]
    · intro z z1 z2
      rw [pxM_ne (by omega), px_cpM_ne (by omega)]
    · intro z z1 z2
      by_cases hq : z < pxLn rs x
      · rw [pxM_ne (by omega), px_cpM_out (by omega) (by omega) (by omega), (mx x hx1 hx2).2 z z1 hq, pxE_app1 z1 (by omega)]
      · rw [pxM_ne (by omega), px_cpM_in (by omega) (by omega) (by omega) (by omega), pxE_app2 (by omega), ← mb (z - ((pxRw rs x).length : Int)) (by omega) (by omega)]
        congr 2; omega
    · intro z z1 z2
      rw [pxM_ne (by omega), px_cpM_out (by omega) (by omega) (by omega)]
  · simp only [if_neg hz]
    simp (disch := first | assumption | omega | (simp only [jw_t_I, px_cpt, t1, t2, tb]; done) | (simp only [jw_t_I, px_cpt, t1, t2, tb]; omega)) only [pxL0, pxL1, pxL2, pxL3, pxL4, pxL5, pxL6, pxL7, pxL8, pxL9, pxL10, pxL11, pxL12, pxL13, pxL14, pxL15, pxL16, pxL17, pxL18, pxL19, pxL20, pxL21, pxL22, pxL23, pxL24, pxL25, pxL26, pxL27, pxL28, pxL29, pxL30, pxL31, pxL32, pxL33, pxL34, pxL35, pxL36, pxL37, pxL38, pxL39, pxL40, pxL41, pxL42, pxL43, pxL44, pxL45, pxL46, pxL47, pxL48, pxL49, pxL51, pxL57, pxL58, pxL59, pxL60, pxL61, pxL62, pxL63, pxL64, pxL65, pxL66, pxL67, pxL68, pxL69, pxL70, pxL71, pxL72, pxL73, pxL74, pxL75, pxL76, pxL77, pxL78, pxL79, pxL80, pxL81, pxL82, pxL83, pxL84, pxL85, pxL86, pxL87, pxL88, pxL89, pxL90, pxL91, pxL92, pxL93, pxL94, pxL95, pxL96, pxL97, pxL98, pxL99, pxL100, pxL101, pxL102, pxL103, pxL104, pxL105, pxL106, pxL107, pxL108, pxL109, pxL110, pxL111, pxL112, pxL113, pxL114, pxL115, pxL116, pxL117, pxL118, pxL119, pxL120, pxL121, pxL122, pxL123, pxL124, pxL125, pxL126, pxL200, pxL240, pxL287, pxL388, pxL400, pxL429, pxL431, pxL440, pxL1240, pxL1600, pxL1681, pxL12028, pxL13849, pxL14880, pxL25173, pxL26908, pxL49600, pxL65535, pxL65536, ↓reduceIte, pxJ_add, pxJ_sub, pxJ_mul, pxJ_neg, pxD_lt_t, pxD_lt_f, pxD_le_t, pxD_le_f, pxD_eq_t, pxD_eq_f, pxJ_lt, pxJ_le, pxJ_eq, px_gI, px_gR, px_pI, px_rc, px_ai, px_ar, px_si, px_ln, px_cp, pxJ_div, pxJ_b8, pxJ_byte, px_b2, px_bs, px_rb0, px_rb1, px_min, px_max, px_compare, pxW_some, jw_t_I, px_cpt, jw_r_I, px_cpr, jw_l_I, px_cpl, Option.some.injEq, t1, t2, tb, hh, hl, r0, r1, r1', m2, (mx x hx1 hx2).1, and_self, hx1, hx2]
    exact ⟨pxF.rfl, trivial, H'⟩
theorem pxSet_id {rs : List (List Int)} {x : Int} (h2 : x ≤ rs.length) : pxSet rs x (pxRw rs x) = rs := by
  apply pxG_ext (d := []) pxSet_len
  intro y y1 y2
  rw [pxSet_len] at y2
  by_cases hy : y = x
  · subst hy; rw [pxG_setE y1 h2]
  · by_cases hx : 1 ≤ x
    · rw [pxG_setN hx y1 hy]
    · unfold pxSet pxG
      by_cases hq : y = 1
      · subst hq
        rw [List.getD_eq_getElem?_getD, show (x - 1).toNat = ((1 : Int) - 1).toNat by omega, List.getElem?_set_self (by omega)]
        unfold pxRw pxG
        rw [show (x - 1).toNat = ((1 : Int) - 1).toNat by omega]; rfl
      · rw [List.getD_eq_getElem?_getD, List.getElem?_set_ne (by omega)]; rfl
theorem s_X7_moveRest (H : pxIR h ρ cap rs) {x n : Int} (hx1 : 1 ≤ x) (hx2 : x + 1 ≤ rs.length) (hn1 : 0 ≤ n) (hn2 : n < pxLn rs x) :
    pxW (f_X7_moveRest h ρ (pxJ x) (pxJ n)) fun _ h' => pxF (pxC ρ (ρ + 2)) h h' ∧ pxIR h' ρ cap (pxSet (pxSet rs (x + 1) ((pxRw rs x).drop n.toNat)) x ((pxRw rs x).take n.toNat)) := by
  have H' := H
  have hh := s_X7_has H (x := x) (by omega) (by have := H.2.1; have := H.1.2.2.2.2.2; omega)
  obtain ⟨⟨t0, t1, t2, r0, r1, hc⟩, hn, ok, C⟩ := H
  obtain ⟨m2, mx⟩ := id C
  have ln := pxLn_le ok x
  have lnE : pxLn rs x = (pxRw rs x).length := rfl
  have ld : (((pxRw rs x).drop n.toNat).length : Int) = pxLn rs x - n := by rw [List.length_drop]; omega
  have lt : (((pxRw rs x).take n.toNat).length : Int) = n := by rw [List.length_take]; omega
  have hx2' : x ≤ rs.length := by omega
  have B : pxBy h (ρ + 2) ((x - 1) * 30 + n) ((pxRw rs x).drop n.toNat) := by
    refine ⟨cap * 30, t2, by omega, by omega, by omega, pxOr_drop (pxRw_or ok x), fun y y1 y2 => ?_⟩
    rw [pxE_drop2 y1 hn1, show pxE (pxRw rs x) (y + n) = pxSg rs x (y + n) from rfl, ← (mx x hx1 hx2').2 (y + n) (by omega) (by omega)]
    congr 2; omega
  unfold f_X7_moveRest
  simp (disch := first | assumption | omega | (simp only [jw_t_I, px_cpt, t1, t2]; done) | (simp only [jw_t_I, px_cpt, t1, t2]; omega)) only [pxL0, pxL1, pxL2, pxL3, pxL4, pxL5, pxL6, pxL7, pxL8, pxL9, pxL10, pxL11, pxL12, pxL13, pxL14, pxL15, pxL16, pxL17, pxL18, pxL19, pxL20, pxL21, pxL22, pxL23, pxL24, pxL25, pxL26, pxL27, pxL28, pxL29, pxL30, pxL31, pxL32, pxL33, pxL34, pxL35, pxL36, pxL37, pxL38, pxL39, pxL40, pxL41, pxL42, pxL43, pxL44, pxL45, pxL46, pxL47, pxL48, pxL49, pxL51, pxL57, pxL58, pxL59, pxL60, pxL61, pxL62, pxL63, pxL64, pxL65, pxL66, pxL67, pxL68, pxL69, pxL70, pxL71, pxL72, pxL73, pxL74, pxL75, pxL76, pxL77, pxL78, pxL79, pxL80, pxL81, pxL82, pxL83, pxL84, pxL85, pxL86, pxL87, pxL88, pxL89, pxL90, pxL91, pxL92, pxL93, pxL94, pxL95, pxL96, pxL97, pxL98, pxL99, pxL100, pxL101, pxL102, pxL103, pxL104, pxL105, pxL106, pxL107, pxL108, pxL109, pxL110, pxL111, pxL112, pxL113, pxL114, pxL115, pxL116, pxL117, pxL118, pxL119, pxL120, pxL121, pxL122, pxL123, pxL124, pxL125, pxL126, pxL200, pxL240, pxL287, pxL388, pxL400, pxL429, pxL431, pxL440, pxL1240, pxL1600, pxL1681, pxL12028, pxL13849, pxL14880, pxL25173, pxL26908, pxL49600, pxL65535, pxL65536, ↓reduceIte, pxJ_add, pxJ_sub, pxJ_mul, pxJ_neg, pxD_lt_t, pxD_lt_f, pxD_le_t, pxD_le_f, pxD_eq_t, pxD_eq_f, pxJ_lt, pxJ_le, pxJ_eq, px_gI, px_gR, px_pI, px_rc, px_ai, px_ar, px_si, px_ln, px_cp, pxJ_div, pxJ_b8, pxJ_byte, px_b2, px_bs, px_rb0, px_rb1, px_min, px_max, px_compare, pxW_some, jw_t_I, px_cpt, jw_r_I, px_cpr, jw_l_I, px_cpl, Option.some.injEq, t1, t2, hh, r0, r1, m2, (mx x hx1 hx2').1, and_self, hx1, hx2']
  rw [← ld]
  refine pxW_b2 (s_X7_write H' B (x := x + 1) (by omega) (by omega)) fun a h1 q => ?_
  obtain ⟨q1, q2⟩ := q
  rw [if_pos ⟨by omega, hx2⟩] at q2
  have K := q2
  obtain ⟨⟨t0, t1, t2, r0, r1, hc⟩, hn, ok2, C2⟩ := q2
  obtain ⟨n2, nx⟩ := id C2
  have hx3 : x ≤ (pxSet rs (x + 1) ((pxRw rs x).drop n.toNat)).length := by rw [pxSet_len]; omega
  simp (disch := first | assumption | omega | (simp only [jw_t_I, px_cpt, t1, t2]; done) | (simp only [jw_t_I, px_cpt, t1, t2]; omega)) only [pxL0, pxL1, pxL2, pxL3, pxL4, pxL5, pxL6, pxL7, pxL8, pxL9, pxL10, pxL11, pxL12, pxL13, pxL14, pxL15, pxL16, pxL17, pxL18, pxL19, pxL20, pxL21, pxL22, pxL23, pxL24, pxL25, pxL26, pxL27, pxL28, pxL29, pxL30, pxL31, pxL32, pxL33, pxL34, pxL35, pxL36, pxL37, pxL38, pxL39, pxL40, pxL41, pxL42, pxL43, pxL44, pxL45, pxL46, pxL47, pxL48, pxL49, pxL51, pxL57, pxL58, pxL59, pxL60, pxL61, pxL62, pxL63, pxL64, pxL65, pxL66, pxL67, pxL68, pxL69, pxL70, pxL71, pxL72, pxL73, pxL74, pxL75, pxL76, pxL77, pxL78, pxL79, pxL80, pxL81, pxL82, pxL83, pxL84, pxL85, pxL86, pxL87, pxL88, pxL89, pxL90, pxL91, pxL92, pxL93, pxL94, pxL95, pxL96, pxL97, pxL98, pxL99, pxL100, pxL101, pxL102, pxL103, pxL104, pxL105, pxL106, pxL107, pxL108, pxL109, pxL110, pxL111, pxL112, pxL113, pxL114, pxL115, pxL116, pxL117, pxL118, pxL119, pxL120, pxL121, pxL122, pxL123, pxL124, pxL125, pxL126, pxL200, pxL240, pxL287, pxL388, pxL400, pxL429, pxL431, pxL440, pxL1240, pxL1600, pxL1681, pxL12028, pxL13849, pxL14880, pxL25173, pxL26908, pxL49600, pxL65535, pxL65536, ↓reduceIte, pxJ_add, pxJ_sub, pxJ_mul, pxJ_neg, pxD_lt_t, pxD_lt_f, pxD_le_t, pxD_le_f, pxD_eq_t, pxD_eq_f, pxJ_lt, pxJ_le, pxJ_eq, px_gI, px_gR, px_pI, px_rc, px_ai, px_ar, px_si, px_ln, px_cp, pxJ_div, pxJ_b8, pxJ_byte, px_b2, px_bs, px_rb0, px_rb1, px_min, px_max, px_compare, pxW_some, jw_t_I, px_cpt, jw_r_I, px_cpr, jw_l_I, px_cpl, Option.some.injEq, t1, t2, r0]
  refine ⟨q1.trans (pxF.setI (by unfold pxC; omega)), ⟨t0, t1, t2, r0, r1, hc⟩, by rw [pxSet_len]; exact hn, pxOk_set ok2 (pxOr_take (pxRw_or ok x)), pxCR_set C2 ok2 hx1 hx3 ?_ ?_ ?_ ?_ ?_⟩
  · rw [pxM_ne (by omega)]
  · rw [pxM_eq (by omega) (by omega), lt]
  · intro z z1 z2
    rw [pxM_ne (by omega)]
  · intro z z1 z2
    have e : pxRw (pxSet rs (x + 1) ((pxRw rs x).drop n.toNat)) x = pxRw rs x := pxG_setN (by omega) hx1 (by omega)
    have := (nx x hx1 hx3).2 z z1 (by unfold pxLn; rw [e]; omega)
    rw [pxM_ne (by omega), this, pxE_take (by omega) z1]
    unfold pxSg
    rw [e]
  · intro z z1 z2
    rw [pxM_ne (by omega)]
theorem s_X7_copy (H : pxSR h ρ cap) {ρ2 cap2 : Nat} {rs2 : List (List Int)} (H2 : pxIR h ρ2 cap2 rs2) (hd : ρ2 + 2 < ρ ∨ ρ + 2 < ρ2) (hl : rs2.length ≤ cap) :
    pxW (f_X7_copy h ρ (some ρ2)) fun _ h' => pxF (pxC ρ (ρ + 2)) h h' ∧ pxIR h' ρ cap rs2 := by
  obtain ⟨t0, t1, t2, r0, r1, hc⟩ := H
  obtain ⟨⟨s0, s1, s2, q0, q1, qc⟩, hn, ok, m2, mx⟩ := H2
  unfold f_X7_copy
  have em : min (rs2.length : Int) (min (cap : Int) (cap2 : Int)) = rs2.length := by omega
  have e7 : jw_t h ρ = (7, (jw_t h ρ).2) := by rw [← t0]
  simp (disch := first | assumption | omega | (simp only [jw_t_I, px_cpt, t1, t2, s1, s2]; done) | (simp only [jw_t_I, px_cpt, t1, t2, s1, s2]; omega)) only [pxL0, pxL1, pxL2, pxL3, pxL4, pxL5, pxL6, pxL7, pxL8, pxL9, pxL10, pxL11, pxL12, pxL13, pxL14, pxL15, pxL16, pxL17, pxL18, pxL19, pxL20, pxL21, pxL22, pxL23, pxL24, pxL25, pxL26, pxL27, pxL28, pxL29, pxL30, pxL31, pxL32, pxL33, pxL34, pxL35, pxL36, pxL37, pxL38, pxL39, pxL40, pxL41, pxL42, pxL43, pxL44, pxL45, pxL46, pxL47, pxL48, pxL49, pxL51, pxL57, pxL58, pxL59, pxL60, pxL61, pxL62, pxL63, pxL64, pxL65, pxL66, pxL67, pxL68, pxL69, pxL70, pxL71, pxL72, pxL73, pxL74, pxL75, pxL76, pxL77, pxL78, pxL79, pxL80, pxL81, pxL82, pxL83, pxL84, pxL85, pxL86, pxL87, pxL88, pxL89, pxL90, pxL91, pxL92, pxL93, pxL94, pxL95, pxL96, pxL97, pxL98, pxL99, pxL100, pxL101, pxL102, pxL103, pxL104, pxL105, pxL106, pxL107, pxL108, pxL109, pxL110, pxL111, pxL112, pxL113, pxL114, pxL115, pxL116, pxL117, pxL118, pxL119, pxL120, pxL121, pxL122, pxL123, pxL124, pxL125, pxL126, pxL200, pxL240, pxL287, pxL388, pxL400, pxL429, pxL431, pxL440, pxL1240, pxL1600, pxL1681, pxL12028, pxL13849, pxL14880, pxL25173, pxL26908, pxL49600, pxL65535, pxL65536, ↓reduceIte, pxJ_add, pxJ_sub, pxJ_mul, pxJ_neg, pxD_lt_t, pxD_lt_f, pxD_le_t, pxD_le_f, pxD_eq_t, pxD_eq_f, pxJ_lt, pxJ_le, pxJ_eq, px_gI, px_gR, px_pI, px_rc, px_ai, px_ar, px_si, px_ln, px_cp, pxJ_div, pxJ_b8, pxJ_byte, px_b2, px_bs, px_rb0, px_rb1, px_min, px_max, px_compare, pxW_some, jw_t_I, px_cpt, jw_r_I, px_cpr, jw_l_I, px_cpl, Option.some.injEq, t1, t2, s1, s2, r0, r1, q0, q1, m2, em]
  refine ⟨((pxF.cpH (fun f _ _ => by unfold pxC; omega)).trans (pxF.cpH (fun f _ _ => by unfold pxC; omega))).trans (pxF.setI (by unfold pxC; omega)), ⟨t0, t1, t2, r0, r1, hc⟩, hl, ok, ?_, fun x x1 x2 => ?_⟩
  · rw [pxM_eq (by omega) (by omega)]
  · have l1 := pxLn_le ok x
    refine ⟨?_, fun y y1 y2 => ?_⟩
    · rw [pxM_ne (by omega), px_cpM_ne (by omega), px_cpM_in (by omega) (by omega) (by omega) (by omega), ← (mx x x1 x2).1]
      congr 2; omega
    · rw [pxM_ne (by omega), px_cpM_in (by omega) (by omega) (by omega) (by omega), px_cpM_ne (by omega), ← (mx x x1 x2).2 y y1 y2]
      congr 2; omega
theorem s_X7_close (H : pxIR h ρ cap rs) {x n : Int} (hx1 : 1 ≤ x) (hn1 : 0 ≤ n) (hx2 : x - 1 + n ≤ rs.length) :
    pxW (f_X7_close h ρ (pxJ x) (pxJ n)) fun _ h' => pxF (pxC ρ (ρ + 2)) h h' ∧ pxIR h' ρ cap (pxDel rs x n) := by
  obtain ⟨⟨t0, t1, t2, r0, r1, hc⟩, hn, ok, m2, mx⟩ := H
  have hl := pxDel_len hx1 hn1 hx2
  unfold f_X7_close
  have ee : pxM (px_cpH (px_cpH h (ρ + 1) (x - 1 + n).toNat (ρ + 1) (x - 1).toNat ((rs.length : Int) - x + 1 - n).toNat) (ρ + 2) ((x - 1 + n) * 30).toNat (ρ + 2) ((x - 1) * 30).toNat (((rs.length : Int) - x + 1 - n) * 30).toNat) ρ 2 = rs.length := by
    rw [px_cpM_ne (by omega), px_cpM_ne (by omega), m2]
  simp (disch := first | assumption | omega | (simp only [jw_t_I, px_cpt, t1, t2]; done) | (simp only [jw_t_I, px_cpt, t1, t2]; omega)) only [pxL0, pxL1, pxL2, pxL3, pxL4, pxL5, pxL6, pxL7, pxL8, pxL9, pxL10, pxL11, pxL12, pxL13, pxL14, pxL15, pxL16, pxL17, pxL18, pxL19, pxL20, pxL21, pxL22, pxL23, pxL24, pxL25, pxL26, pxL27, pxL28, pxL29, pxL30, pxL31, pxL32, pxL33, pxL34, pxL35, pxL36, pxL37, pxL38, pxL39, pxL40, pxL41, pxL42, pxL43, pxL44, pxL45, pxL46, pxL47, pxL48, pxL49, pxL51, pxL57, pxL58, pxL59, pxL60, pxL61, pxL62, pxL63, pxL64, pxL65, pxL66, pxL67, pxL68, pxL69, pxL70, pxL71, pxL72, pxL73, pxL74, pxL75, pxL76, pxL77, pxL78, pxL79, pxL80, pxL81, pxL82, pxL83, pxL84, pxL85, pxL86, pxL87, pxL88, pxL89, pxL90, pxL91, pxL92, pxL93, pxL94, pxL95, pxL96, pxL97, pxL98, pxL99, pxL100, pxL101, pxL102, pxL103, pxL104, pxL105, pxL106, pxL107, pxL108, pxL109, pxL110, pxL111, pxL112, pxL113, pxL114, pxL115, pxL116, pxL117, pxL118, pxL119, pxL120, pxL121, pxL122, pxL123, pxL124, pxL125, pxL126, pxL200, pxL240, pxL287, pxL388, pxL400, pxL429, pxL431, pxL440, pxL1240, pxL1600, pxL1681, pxL12028, pxL13849, pxL14880, pxL25173, pxL26908, pxL49600, pxL65535, pxL65536, ↓reduceIte, pxJ_add, pxJ_sub, pxJ_mul, pxJ_neg, pxD_lt_t, pxD_lt_f, pxD_le_t, pxD_le_f, pxD_eq_t, pxD_eq_f, pxJ_lt, pxJ_le, pxJ_eq, px_gI, px_gR, px_pI, px_rc, px_ai, px_ar, px_si, px_ln, px_cp, pxJ_div, pxJ_b8, pxJ_byte, px_b2, px_bs, px_rb0, px_rb1, px_min, px_max, px_compare, pxW_some, jw_t_I, px_cpt, jw_r_I, px_cpr, jw_l_I, px_cpl, Option.some.injEq, t1, t2, r0, r1, m2, ee]
  refine ⟨((pxF.cpH (fun f _ _ => by unfold pxC; omega)).trans (pxF.cpH (fun f _ _ => by unfold pxC; omega))).trans (pxF.setI (by unfold pxC; omega)), ⟨t0, t1, t2, r0, r1, hc⟩, by omega, pxOk_del ok, ?_, fun y y1 y2 => ?_⟩
  · rw [pxM_eq (by omega) (by omega), hl]
  · by_cases hy : y < x
    · have e : pxRw (pxDel rs x n) y = pxRw rs y := pxDel_lo y1 hy (by omega)
      have l1 := pxLn_le ok y
      unfold pxLn pxSg at *
      rw [e]
      refine ⟨?_, fun z z1 z2 => ?_⟩
      · rw [pxM_ne (by omega), px_cpM_ne (by omega), px_cpM_out (by omega) (by omega) (by omega), (mx y y1 (by omega)).1]
      · rw [pxM_ne (by omega), px_cpM_out (by omega) (by omega) (by omega), px_cpM_ne (by omega), (mx y y1 (by omega)).2 z z1 z2]
    · have e : pxRw (pxDel rs x n) y = pxRw rs (y + n) := pxDel_hi (by omega) hn1 (by omega) hx1
      have l1 := pxLn_le ok (y + n)
      unfold pxLn pxSg at *
      rw [e]
      refine ⟨?_, fun z z1 z2 => ?_⟩
      · rw [pxM_ne (by omega), px_cpM_ne (by omega), px_cpM_in (by omega) (by omega) (by omega) (by omega), ← (mx (y + n) (by omega) (by omega)).1]
        congr 2; omega
      · rw [pxM_ne (by omega), px_cpM_in (by omega) (by omega) (by omega) (by omega), px_cpM_ne (by omega), ← (mx (y + n) (by omega) (by omega)).2 z z1 z2]
        congr 2; omega
end
