/-! rows: what changes them -/
/-- a slice of an array of bytes -/
def pxBy (h : jw_H) (b : Nat) (fr : Int) (r : List Int) : Prop := ∃ len : Nat, jw_t h b = (21, len) ∧ 0 ≤ fr ∧ fr + r.length ≤ len ∧ len ≤ 10000 ∧ pxOr r ∧ ∀ y : Int, 0 ≤ y → y < r.length → pxM h b (fr + y).toNat = pxE r y
theorem pxIR.by {h : jw_H} {ρ cap : Nat} {rs : List (List Int)} (H : pxIR h ρ cap rs) {x : Int} (h1 : 1 ≤ x) (h2 : x ≤ rs.length) : pxBy h (ρ + 2) ((x - 1) * 30) (pxRw rs x) := by
  obtain ⟨⟨t0, t1, t2, r0, r1, hc⟩, hn, ok, m2, mx⟩ := H
  have l1 := pxLn_le ok x
  refine ⟨cap * 30, t2, by omega, ?_, by omega, pxRw_or ok x, (mx x h1 h2).2⟩
  unfold pxLn at l1
  omega
theorem pxOk_set {rs : List (List Int)} {x : Int} {r : List Int} (ok : pxOk rs) (hr : pxOr r) : pxOk (pxSet rs x r) := by
  intro q hq
  rcases List.mem_or_eq_of_mem_set hq with h | h
  · exact ok q h
  · rw [h]; exact hr
theorem pxOk_app {rs ys : List (List Int)} (ok : pxOk rs) (hr : pxOk ys) : pxOk (rs ++ ys) := fun q hq => (List.mem_append.mp hq).elim (ok q) (hr q)
theorem pxOk_take {rs : List (List Int)} {n : Nat} (ok : pxOk rs) : pxOk (rs.take n) := fun q hq => ok q (List.mem_of_mem_take hq)
theorem pxOk_drop {rs : List (List Int)} {n : Nat} (ok : pxOk rs) : pxOk (rs.drop n) := fun q hq => ok q (List.mem_of_mem_drop hq)
theorem pxOk_one {r : List Int} (hr : pxOr r) : pxOk [r] := fun q hq => by rw [List.mem_singleton.mp hq]; exact hr
theorem pxOk_nil : pxOk [] := fun q hq => by cases hq
theorem pxOr_nil : pxOr [] := ⟨by simp, by simp⟩
theorem pxOk_ins {rs ys : List (List Int)} {x : Int} (ok : pxOk rs) (hr : pxOk ys) : pxOk (pxIns rs x ys) := pxOk_app (pxOk_take ok) (pxOk_app hr (pxOk_drop ok))
theorem pxOk_del {rs : List (List Int)} {x n : Int} (ok : pxOk rs) : pxOk (pxDel rs x n) := pxOk_app (pxOk_take ok) (pxOk_drop ok)
theorem pxCR_set {m m' : Nat → Nat → Int} {ρ : Nat} {rs : List (List Int)} {x : Int} {r : List Int} (C : pxCR m ρ rs) (ok : pxOk rs) (h1 : 1 ≤ x) (h2 : x ≤ rs.length)
    (e2 : m' ρ 2 = m ρ 2) (eL : m' (ρ + 1) (x - 1).toNat = r.length) (eL' : ∀ z : Int, 0 ≤ z → z ≠ x - 1 → m' (ρ + 1) z.toNat = m (ρ + 1) z.toNat)
    (eS : ∀ y : Int, 0 ≤ y → y < r.length → m' (ρ + 2) ((x - 1) * 30 + y).toNat = pxE r y)
    (eS' : ∀ z : Int, 0 ≤ z → (z < (x - 1) * 30 ∨ (x - 1) * 30 + 30 ≤ z) → m' (ρ + 2) z.toNat = m (ρ + 2) z.toNat) : pxCR m' ρ (pxSet rs x r) := by
  obtain ⟨m2, mx⟩ := C
  refine ⟨by rw [e2, m2, pxSet_len], fun y g1 g2 => ?_⟩
  rw [pxSet_len] at g2
  by_cases hy : y = x
  · subst hy
    have e : pxRw (pxSet rs y r) y = r := pxG_setE h1 h2
    unfold pxLn pxSg
    rw [e]
    exact ⟨eL, eS⟩
  · have e : pxRw (pxSet rs x r) y = pxRw rs y := pxG_setN h1 g1 hy
    have l1 := pxLn_le ok y
    unfold pxLn pxSg at *
    rw [e]
    refine ⟨by rw [eL' _ (by omega) (by omega)]; exact (mx y g1 g2).1, fun z z1 z2 => ?_⟩
    rw [eS' _ (by omega) (by omega)]
    exact (mx y g1 g2).2 z z1 z2
section
variable {h : jw_H} {ρ cap : Nat} {rs : List (List Int)}
theorem s_X7_shrink (H : pxIR h ρ cap rs) {x : Int} (hx1 : -2147483648 ≤ x) (hx2 : x ≤ 2147483647) : pxW (f_X7_shrink h ρ (pxJ x)) fun _ h' => pxF (pxC ρ (ρ + 2)) h h' ∧ pxIR h' ρ cap (if 0 ≤ x ∧ x < rs.length then rs.take x.toNat else rs) := by
  have H' := H
  obtain ⟨⟨t0, t1, t2, r0, r1, hc⟩, hn, ok, m2, mx⟩ := H
  unfold f_X7_shrink
  by_cases hx : 0 ≤ x ∧ x < rs.length
  · rw [if_pos hx]
    simp (disch := first | assumption | omega | (simp only [jw_t_I, px_cpt, t1, t2]; done) | (simp only [jw_t_I, px_cpt, t1, t2]; omega)) only [pxL0, pxL1, pxL2, pxL3, pxL4, pxL5, pxL6, pxL7, pxL8, pxL9, pxL10, pxL11, pxL12, pxL13, pxL14, pxL15, pxL16, pxL17, pxL18, pxL19, pxL20, pxL21, pxL22, pxL23, pxL24, pxL25, pxL26, pxL27, pxL28, pxL29, pxL30, pxL31, pxL32, pxL33, pxL34, pxL35, pxL36, pxL37, pxL38, pxL39, pxL40, pxL41, pxL42, pxL43, pxL44, pxL45, pxL46, pxL47, pxL48, pxL49, pxL51, pxL57, pxL58, pxL59, pxL60, pxL61, pxL62, pxL63, pxL64, pxL65, pxL66, pxL67, pxL68, pxL69, pxL70, pxL71, pxL72, pxL73, pxL74, pxL75, pxL76, pxL77, pxL78, pxL79, pxL80, pxL81, pxL82, pxL83, pxL84, pxL85, pxL86, pxL87, pxL88, pxL89, pxL90, pxL91, pxL92, pxL93, pxL94, pxL95, pxL96, pxL97, pxL98, pxL99, pxL100, pxL101, pxL102, pxL103, pxL104, pxL105, pxL106, pxL107, pxL108, pxL109, pxL110, pxL111, pxL112, pxL113, pxL114, pxL115, pxL116, pxL117, pxL118, pxL119, pxL120, pxL121, pxL122, pxL123, pxL124, pxL125, pxL126, pxL200, pxL240, pxL287, pxL388, pxL400, pxL429, pxL431, pxL440, pxL1240, pxL1600, pxL1681, pxL12028, pxL13849, pxL14880, pxL25173, pxL26908, pxL49600, pxL65535, pxL65536, ↓reduceIte, pxJ_add, pxJ_sub, pxJ_mul, pxJ_neg, pxD_lt_t, pxD_lt_f, pxD_le_t, pxD_le_f, pxD_eq_t, pxD_eq_f, pxJ_lt, pxJ_le, pxJ_eq, px_gI, px_gR, px_pI, px_rc, px_ai, px_ar, px_si, px_ln, px_cp, pxJ_div, pxJ_b8, pxJ_byte, px_b2, px_bs, px_rb0, px_rb1, px_min, px_max, px_compare, pxW_some, jw_t_I, px_cpt, jw_r_I, px_cpr, jw_l_I, px_cpl, Option.some.injEq, t1, t2, m2]
    refine ⟨pxF.setI (by unfold pxC; omega), ⟨t0, t1, t2, r0, r1, hc⟩, by rw [List.length_take]; omega, pxOk_take ok, ?_, fun y g1 g2 => ?_⟩
    · rw [pxM_eq (by omega) (by omega), List.length_take]; omega
    · rw [List.length_take] at g2
      have e : pxRw (rs.take x.toNat) y = pxRw rs y := pxG_take g1 (by omega)
      unfold pxLn pxSg
      rw [e]
      refine ⟨by rw [pxM_ne (by omega)]; exact (mx y g1 (by omega)).1, fun z z1 z2 => ?_⟩
      rw [pxM_ne (by omega)]
      exact (mx y g1 (by omega)).2 z z1 z2
  · rw [if_neg hx]
    by_cases hy : x < 0
    · simp (disch := first | assumption | omega | (simp only [jw_t_I, px_cpt, t1, t2]; done) | (simp only [jw_t_I, px_cpt, t1, t2]; omega)) only [pxL0, pxL1, pxL2, pxL3, pxL4, pxL5, pxL6, pxL7, pxL8, pxL9, pxL10, pxL11, pxL12, pxL13, pxL14, pxL15, pxL16, pxL17, pxL18, pxL19, pxL20, pxL21, pxL22, pxL23, pxL24, pxL25, pxL26, pxL27, pxL28, pxL29, pxL30, pxL31, pxL32, pxL33, pxL34, pxL35, pxL36, pxL37, pxL38, pxL39, pxL40, pxL41, pxL42, pxL43, pxL44, pxL45, pxL46, pxL47, pxL48, pxL49, pxL51, pxL57, pxL58, pxL59, pxL60, pxL61, pxL62, pxL63, pxL64, pxL65, pxL66, pxL67, pxL68, pxL69, pxL70, pxL71, pxL72, pxL73, pxL74, pxL75, pxL76, pxL77, pxL78, pxL79, pxL80, pxL81, pxL82, pxL83, pxL84, pxL85, pxL86, pxL87, pxL88, pxL89, pxL90, pxL91, pxL92, pxL93, pxL94, pxL95, pxL96, pxL97, pxL98, pxL99, pxL100, pxL101, pxL102, pxL103, pxL104, pxL105, pxL106, pxL107, pxL108, pxL109, pxL110, pxL111, pxL112, pxL113, pxL114, pxL115, pxL116, pxL117, pxL118, pxL119, pxL120, pxL121, pxL122, pxL123, pxL124, pxL125, pxL126, pxL200, pxL240, pxL287, pxL388, pxL400, pxL429, pxL431, pxL440, pxL1240, pxL1600, pxL1681, pxL12028, pxL13849, pxL14880, pxL25173, pxL26908, pxL49600, pxL65535, pxL65536, ↓reduceIte, pxJ_add, pxJ_sub, pxJ_mul, pxJ_neg, pxD_lt_t, pxD_lt_f, pxD_le_t, pxD_le_f, pxD_eq_t, pxD_eq_f, pxJ_lt, pxJ_le, pxJ_eq, px_gI, px_gR, px_pI, px_rc, px_ai, px_ar, px_si, px_ln, px_cp, pxJ_div, pxJ_b8, pxJ_byte, px_b2, px_bs, px_rb0, px_rb1, px_min, px_max, px_compare, pxW_some, jw_t_I, px_cpt, jw_r_I, px_cpr, jw_l_I, px_cpl, Option.some.injEq, t1, t2, m2]
      exact ⟨pxF.rfl, H'⟩
    · simp (disch := first | assumption | omega | (simp only [jw_t_I, px_cpt, t1, t2]; done) | (simp only [jw_t_I, px_cpt, t1, t2]; omega)) only [pxL0, pxL1, pxL2, pxL3, pxL4, pxL5, pxL6, pxL7, pxL8, pxL9, pxL10, pxL11, pxL12, pxL13, pxL14, pxL15, pxL16, pxL17, pxL18, pxL19, pxL20, pxL21, pxL22, pxL23, pxL24, pxL25, pxL26, pxL27, pxL28, pxL29, pxL30, pxL31, pxL32, pxL33, pxL34, pxL35, pxL36, pxL37, pxL38, pxL39, pxL40, pxL41, pxL42, pxL43, pxL44, pxL45, pxL46, pxL47, pxL48, pxL49, pxL51, pxL57, pxL58, pxL59, pxL60, pxL61, pxL62, pxL63, pxL64, pxL65, pxL66, pxL67, pxL68, pxL69, pxL70, pxL71, pxL72, pxL73, pxL74, pxL75, pxL76, pxL77, pxL78, pxL79, pxL80, pxL81, pxL82, pxL83, pxL84, pxL85, pxL86, pxL87, pxL88, pxL89, pxL90, pxL91, pxL92, pxL93, pxL94, pxL95, pxL96, pxL97, pxL98, pxL99, pxL100, pxL101, pxL102, pxL103, pxL104, pxL105, pxL106, pxL107, pxL108, pxL109, pxL110, pxL111, pxL112, pxL113, pxL114, pxL115, pxL116, pxL117, pxL118, pxL119, pxL120, pxL121, pxL122, pxL123, pxL124, pxL125, pxL126, pxL200, pxL240, pxL287, pxL388, pxL400, pxL429, pxL431, pxL440, pxL1240, pxL1600, pxL1681, pxL12028, pxL13849, pxL14880, pxL25173, pxL26908, pxL49600, pxL65535, pxL65536, ↓reduceIte, pxJ_add, pxJ_sub, pxJ_mul, pxJ_neg, pxD_lt_t, pxD_lt_f, pxD_le_t, pxD_le_f, pxD_eq_t, pxD_eq_f, pxJ_lt, pxJ_le, pxJ_eq, px_gI, px_gR, px_pI, px_rc, px_ai, px_ar, px_si, px_ln, px_cp, pxJ_div, pxJ_b8, pxJ_byte, px_b2, px_bs, px_rb0, px_rb1, px_min, px_max, px_compare, pxW_some, jw_t_I, px_cpt, jw_r_I, px_cpr, jw_l_I, px_cpl, Option.some.injEq, t1, t2, m2]
      exact ⟨pxF.rfl, H'⟩
theorem s_X7_write (H : pxIR h ρ cap rs) {b : Nat} {fr : Int} {r : List Int} (B : pxBy h b fr r) {x : Int} (hx1 : -2147483648 ≤ x) (hx2 : x ≤ 2147483647) :
    pxW (f_X7_write h ρ (pxJ x) (some b) (pxJ fr) (pxJ (r.length : Int))) fun _ h' => pxF (pxC ρ (ρ + 2)) h h' ∧ pxIR h' ρ cap (if 1 ≤ x ∧ x ≤ rs.length then pxSet rs x r else rs) := by
  have H' := H
  obtain ⟨⟨t0, t1, t2, r0, r1, hc⟩, hn, ok, C⟩ := H
  obtain ⟨m2, mx⟩ := id C
  obtain ⟨len, tb, b0, b1, b2, hr, mb⟩ := B
  have hr30 := hr.1
  unfold f_X7_write
  by_cases hx : 1 ≤ x ∧ x ≤ rs.length
  · rw [if_pos hx]
    simp (disch := first | assumption | omega | (simp only [jw_t_I, px_cpt, t1, t2, tb]; done) | (simp only [jw_t_I, px_cpt, t1, t2, tb]; omega)) only [pxL0, pxL1, pxL2, pxL3, pxL4, pxL5, pxL6, pxL7, pxL8, pxL9, pxL10, pxL11, pxL12, pxL13, pxL14, pxL15, pxL16, pxL17, pxL18, pxL19, pxL20, pxL21, pxL22, pxL23, pxL24, pxL25, pxL26, pxL27, pxL28, pxL29, pxL30, pxL31, pxL32, pxL33, pxL34, pxL35, pxL36, pxL37, pxL38, pxL39, pxL40, pxL41, pxL42, pxL43, pxL44, pxL45, pxL46, pxL47, pxL48, pxL49, pxL51, pxL57, pxL58, pxL59, pxL60, pxL61, pxL62, pxL63, pxL64, pxL65, pxL66, pxL67, pxL68, pxL69, pxL70, pxL71, pxL72, pxL73, pxL74, pxL75, pxL76, pxL77, pxL78, pxL79, pxL80, pxL81, pxL82, pxL83, pxL84, pxL85, pxL86, pxL87, pxL88, pxL89, pxL90, pxL91, pxL92, pxL93, pxL94, pxL95, pxL96, pxL97, pxL98, pxL99, pxL100, pxL101, pxL102, pxL103, pxL104, pxL105, pxL106, pxL107, pxL108, pxL109, pxL110, pxL111, pxL112, pxL113, pxL114, pxL115, pxL116, pxL117, pxL118, pxL119, pxL120, pxL121, pxL122, pxL123, pxL124, pxL125, pxL126, pxL200, pxL240, pxL287, pxL388, pxL400, pxL429, pxL431, pxL440, pxL1240, pxL1600, pxL1681, pxL12028, pxL13849, pxL14880, pxL25173, pxL26908, pxL49600, pxL65535, pxL65536, ↓reduceIte, pxJ_add, pxJ_sub, pxJ_mul, pxJ_neg, pxD_lt_t, pxD_lt_f, pxD_le_t, pxD_le_f, pxD_eq_t, pxD_eq_f, pxJ_lt, pxJ_le, pxJ_eq, px_gI, px_gR, px_pI, px_rc, px_ai, px_ar, px_si, px_ln, px_cp, pxJ_div, pxJ_b8, pxJ_byte, px_b2, px_bs, px_rb0, px_rb1, px_min, px_max, px_compare, pxW_some, jw_t_I, px_cpt, jw_r_I, px_cpr, jw_l_I, px_cpl, Option.some.injEq, t1, t2, tb, r0, r1, m2]
    refine ⟨(pxF.cpH (fun f _ _ => by unfold pxC; omega)).trans (pxF.setI (by unfold pxC; omega)), ⟨t0, t1, t2, r0, r1, hc⟩, by rw [pxSet_len]; exact hn, pxOk_set ok hr, pxCR_set C ok hx.1 hx.2 ?_ ?_ ?_ ?_ ?_⟩
    · rw [pxM_ne (by omega), px_cpM_ne (by omega)]
    · rw [pxM_eq (by omega) (by omega)]
    · intro z z1 z2
      rw [pxM_ne (by omega), px_cpM_ne (by omega)]
    · intro y y1 y2
      rw [pxM_ne (by omega), px_cpM_in (by omega) (by omega) (by omega) (by omega), ← mb y y1 y2]
      congr 2; omega
    · intro z z1 z2
      rw [pxM_ne (by omega), px_cpM_out (by omega) (by omega) (by omega)]
  · rw [if_neg hx]
    by_cases hy : x < 1
    · simp (disch := first | assumption | omega | (simp only [jw_t_I, px_cpt, t1, t2, tb]; done) | (simp only [jw_t_I, px_cpt, t1, t2, tb]; omega)) only [pxL0, pxL1, pxL2, pxL3, pxL4, pxL5, pxL6, pxL7, pxL8, pxL9, pxL10, pxL11, pxL12, pxL13, pxL14, pxL15, pxL16, pxL17, pxL18, pxL19, pxL20, pxL21, pxL22, pxL23, pxL24, pxL25, pxL26, pxL27, pxL28, pxL29, pxL30, pxL31, pxL32, pxL33, pxL34, pxL35, pxL36, pxL37, pxL38, pxL39, pxL40, pxL41, pxL42, pxL43, pxL44, pxL45, pxL46, pxL47, pxL48, pxL49, pxL51, pxL57, pxL58, pxL59, pxL60, pxL61, pxL62, pxL63, pxL64, pxL65, pxL66, pxL67, pxL68, pxL69, pxL70, pxL71, pxL72, pxL73, pxL74, pxL75, pxL76, pxL77, pxL78, pxL79, pxL80, pxL81, pxL82, pxL83, pxL84, pxL85, pxL86, pxL87, pxL88, pxL89, pxL90, pxL91, pxL92, pxL93, pxL94, pxL95, pxL96, pxL97, pxL98, pxL99, pxL100, pxL101, pxL102, pxL103, pxL104, pxL105, pxL106, pxL107, pxL108, pxL109, pxL110, pxL111, pxL112, pxL113, pxL114, pxL115, pxL116, pxL117, pxL118, pxL119, pxL120, pxL121, pxL122, pxL123, pxL124, pxL125, pxL126, pxL200, pxL240, pxL287, pxL388, pxL400, pxL429, pxL431, pxL440, pxL1240, pxL1600, pxL1681, pxL12028, pxL13849, pxL14880, pxL25173, pxL26908, pxL49600, pxL65535, pxL65536, ↓reduceIte, pxJ_add, pxJ_sub, pxJ_mul, pxJ_neg, pxD_lt_t, pxD_lt_f, pxD_le_t, pxD_le_f, pxD_eq_t, pxD_eq_f, pxJ_lt, pxJ_le, pxJ_eq, px_gI, px_gR, px_pI, px_rc, px_ai, px_ar, px_si, px_ln, px_cp, pxJ_div, pxJ_b8, pxJ_byte, px_b2, px_bs, px_rb0, px_rb1, px_min, px_max, px_compare, pxW_some, jw_t_I, px_cpt, jw_r_I, px_cpr, jw_l_I, px_cpl, Option.some.injEq, t1, t2, tb, r0, r1, m2]
      exact ⟨pxF.rfl, H'⟩
    · simp (disch := first | assumption | omega | (simp only [jw_t_I, px_cpt, t1, t2, tb]; done) | (simp only [jw_t_I, px_cpt, t1, t2, tb]; omega)) only [pxL0, pxL1, pxL2, pxL3, pxL4, pxL5, pxL6, pxL7, pxL8, pxL9, pxL10, pxL11, pxL12, pxL13, pxL14, pxL15, pxL16, pxL17, pxL18, pxL19, pxL20, pxL21, pxL22, pxL23, pxL24, pxL25, pxL26, pxL27, pxL28, pxL29, pxL30, pxL31, pxL32, pxL33, pxL34, pxL35, pxL36, pxL37, pxL38, pxL39, pxL40, pxL41, pxL42, pxL43, pxL44, pxL45, pxL46, pxL47, pxL48, pxL49, pxL51, pxL57, pxL58, pxL59, pxL60, pxL61, pxL62, pxL63, pxL64, pxL65, pxL66, pxL67, pxL68, pxL69, pxL70, pxL71, pxL72, pxL73, pxL74, pxL75, pxL76, pxL77, pxL78, pxL79, pxL80, pxL81, pxL82, pxL83, pxL84, pxL85, pxL86, pxL87, pxL88, pxL89, pxL90, pxL91, pxL92, pxL93, pxL94, pxL95, pxL96, pxL97, pxL98, pxL99, pxL100, pxL101, pxL102, pxL103, pxL104, pxL105, pxL106, pxL107, pxL108, pxL109, pxL110, pxL111, pxL112, pxL113, pxL114, pxL115, pxL116, pxL117, pxL118, pxL119, pxL120, pxL121, pxL122, pxL123, pxL124, pxL125, pxL126, pxL200, pxL240, pxL287, pxL388, pxL400, pxL429, pxL431, pxL440, pxL1240, pxL1600, pxL1681, pxL12028, pxL13849, pxL14880, pxL25173, pxL26908, pxL49600, pxL65535, pxL65536, ↓reduceIte, pxJ_add, pxJ_sub, pxJ_mul, pxJ_neg, pxD_lt_t, pxD_lt_f, pxD_le_t, pxD_le_f, pxD_eq_t, pxD_eq_f, pxJ_lt, pxJ_le, pxJ_eq, px_gI, px_gR, px_pI, px_rc, px_ai, px_ar, px_si, px_ln, px_cp, pxJ_div, pxJ_b8, pxJ_byte, px_b2, px_bs, px_rb0, px_rb1, px_min, px_max, px_compare, pxW_some, jw_t_I, px_cpt, jw_r_I, px_cpr, jw_l_I, px_cpl, Option.some.injEq, t1, t2, tb, r0, r1, m2]
      exact ⟨pxF.rfl, H'⟩
theorem s_X7_take (H : pxIR h ρ cap rs) {ρ2 cap2 : Nat} {rs2 : List (List Int)} (H2 : pxIR h ρ2 cap2 rs2) {x y : Int} (hx1 : -2147483648 ≤ x) (hx2 : x ≤ 2147483647) (hy1 : 1 ≤ y) (hy2 : y ≤ rs2.length) :
    pxW (f_X7_take h ρ (pxJ x) (some ρ2) (pxJ y)) fun _ h' => pxF (pxC ρ (ρ + 2)) h h' ∧ pxIR h' ρ cap (if 1 ≤ x ∧ x ≤ rs.length then pxSet rs x (pxRw rs2 y) else rs) := by
  have q1 := H2.2.1
  have q2 := H2.1.2.2.2.2.2
  have t0 := H.1.1
  have t0' := H2.1.1
  have r1 := H2.1.2.2.2.2.1
  unfold f_X7_take
  simp (disch := first | assumption | omega | (simp only [jw_t_I, px_cpt, t0, t0']; done) | (simp only [jw_t_I, px_cpt, t0, t0']; omega)) only [pxL0, pxL1, pxL2, pxL3, pxL4, pxL5, pxL6, pxL7, pxL8, pxL9, pxL10, pxL11, pxL12, pxL13, pxL14, pxL15, pxL16, pxL17, pxL18, pxL19, pxL20, pxL21, pxL22, pxL23, pxL24, pxL25, pxL26, pxL27, pxL28, pxL29, pxL30, pxL31, pxL32, pxL33, pxL34, pxL35, pxL36, pxL37, pxL38, pxL39, pxL40, pxL41, pxL42, pxL43, pxL44, pxL45, pxL46, pxL47, pxL48, pxL49, pxL51, pxL57, pxL58, pxL59, pxL60, pxL61, pxL62, pxL63, pxL64, pxL65, pxL66, pxL67, pxL68, pxL69, pxL70, pxL71, pxL72, pxL73, pxL74, pxL75, pxL76, pxL77, pxL78, pxL79, pxL80, pxL81, pxL82, pxL83, pxL84, pxL85, pxL86, pxL87, pxL88, pxL89, pxL90, pxL91, pxL92, pxL93, pxL94, pxL95, pxL96, pxL97, pxL98, pxL99, pxL100, pxL101, pxL102, pxL103, pxL104, pxL105, pxL106, pxL107, pxL108, pxL109, pxL110, pxL111, pxL112, pxL113, pxL114, pxL115, pxL116, pxL117, pxL118, pxL119, pxL120, pxL121, pxL122, pxL123, pxL124, pxL125, pxL126, pxL200, pxL240, pxL287, pxL388, pxL400, pxL429, pxL431, pxL440, pxL1240, pxL1600, pxL1681, pxL12028, pxL13849, pxL14880, pxL25173, pxL26908, pxL49600, pxL65535, pxL65536, ↓reduceIte, pxJ_add, pxJ_sub, pxJ_mul, pxJ_neg, pxD_lt_t, pxD_lt_f, pxD_le_t, pxD_le_f, pxD_eq_t, pxD_eq_f, pxJ_lt, pxJ_le, pxJ_eq, px_gI, px_gR, px_pI, px_rc, px_ai, px_ar, px_si, px_ln, px_cp, pxJ_div, pxJ_b8, pxJ_byte, px_b2, px_bs, px_rb0, px_rb1, px_min, px_max, px_compare, pxW_some, jw_t_I, px_cpt, jw_r_I, px_cpr, jw_l_I, px_cpl, Option.some.injEq, t0, t0', s_X7_has H2, s_X7_lengthOf H2, pxLnA_t (And.intro hy1 hy2), r1, and_self, hy1, hy2]
  exact pxW_b2 (s_X7_write H (H2.by hy1 hy2) hx1 hx2) fun a h1 q => pxW_some.mpr q
theorem s_X7_add (H : pxIR h ρ cap rs) {b : Nat} {fr : Int} {r : List Int} (B : pxBy h b fr r) :
    pxW (f_X7_add h ρ (some b) (pxJ fr) (pxJ (r.length : Int))) fun q h' => pxF (pxC ρ (ρ + 2)) h h' ∧ q = pxJ (if rs.length < cap then 1 else 0) ∧ pxIR h' ρ cap (if rs.length < cap then rs ++ [r] else rs) := by
  have H' := H
  obtain ⟨⟨t0, t1, t2, r0, r1, hc⟩, hn, ok, m2, mx⟩ := H
  obtain ⟨len, tb, b0, b1, b2, hr, mb⟩ := B
  have hr30 := hr.1
  unfold f_X7_add
  by_cases hx : rs.length < cap
  · have e0 : pxM (jw_setI (px_cpH h b fr.toNat (ρ + 2) ((rs.length : Int) * 30).toNat (r.length : Int).toNat) (ρ + 1) (rs.length : Int).toNat (pxJ (r.length : Int))) ρ 2 = rs.length := by
      rw [pxM_ne (by omega), px_cpM_ne (by omega), m2]
    have e1 : pxM (px_cpH h b fr.toNat (ρ + 2) ((rs.length : Int) * 30).toNat (r.length : Int).toNat) ρ 2 = rs.length := by
      rw [px_cpM_ne (by omega), m2]
    simp only [if_pos hx]
    simp (disch := first | assumption | omega | (simp only [jw_t_I, px_cpt, t1, t2, tb]; done) | (simp only [jw_t_I, px_cpt, t1, t2, tb]; omega)) only [pxL0, pxL1, pxL2, pxL3, pxL4, pxL5, pxL6, pxL7, pxL8, pxL9, pxL10, pxL11, pxL12, pxL13, pxL14, pxL15, pxL16, pxL17, pxL18, pxL19, pxL20, pxL21, pxL22, pxL23, pxL24, pxL25, pxL26, pxL27, pxL28, pxL29, pxL30, pxL31, pxL32, pxL33, pxL34, pxL35, pxL36, pxL37, pxL38, pxL39, pxL40, pxL41, pxL42, pxL43, pxL44, pxL45, pxL46, pxL47, pxL48, pxL49, pxL51, pxL57, pxL58, pxL59, pxL60, pxL61, pxL62, pxL63, pxL64, pxL65, pxL66, pxL67, pxL68, pxL69, pxL70, pxL71, pxL72, pxL73, pxL74, pxL75, pxL76, pxL77, pxL78, pxL79, pxL80, pxL81, pxL82, pxL83, pxL84, pxL85, pxL86, pxL87, pxL88, pxL89, pxL90, pxL91, pxL92, pxL93, pxL94, pxL95, pxL96, pxL97, pxL98, pxL99, pxL100, pxL101, pxL102, pxL103, pxL104, pxL105, pxL106, pxL107, pxL108, pxL109, pxL110, pxL111, pxL112, pxL113, pxL114, pxL115, pxL116, pxL117, pxL118, pxL119, pxL120, pxL121, pxL122, pxL123, pxL124, pxL125, pxL126, pxL200, pxL240, pxL287, pxL388, pxL400, pxL429, pxL431, pxL440, pxL1240, pxL1600, pxL1681, pxL12028, pxL13849, pxL14880, pxL25173, pxL26908, pxL49600, pxL65535, pxL65536, ↓reduceIte, pxJ_add, pxJ_sub, pxJ_mul, pxJ_neg, pxD_lt_t, pxD_lt_f, pxD_le_t, pxD_le_f, pxD_eq_t, pxD_eq_f, pxJ_lt, pxJ_le, pxJ_eq, px_gI, px_gR, px_pI, px_rc, px_ai, px_ar, px_si, px_ln, px_cp, pxJ_div, pxJ_b8, pxJ_byte, px_b2, px_bs, px_rb0, px_rb1, px_min, px_max, px_compare, pxW_some, jw_t_I, px_cpt, jw_r_I, px_cpr, jw_l_I, px_cpl, Option.some.injEq, t1, t2, tb, r0, r1, m2, e0, e1]
    refine ⟨((pxF.cpH (fun f _ _ => by unfold pxC; omega)).trans (pxF.setI (by unfold pxC; omega))).trans (pxF.setI (by unfold pxC; omega)), trivial, ⟨t0, t1, t2, r0, r1, hc⟩, by rw [List.length_append]; simp; omega, pxOk_app ok (pxOk_one hr), ?_, fun y g1 g2 => ?_⟩
    · rw [pxM_eq (by omega) (by omega), List.length_append]; simp
    · rw [List.length_append] at g2
      simp only [List.length_singleton] at g2
      rw [pxM_ne (by omega)]
      by_cases hy : y = rs.length + 1
      · have e : pxRw (rs ++ [r]) y = r := pxG_app1 hy
        unfold pxLn pxSg
        rw [e]
        refine ⟨by rw [show y - 1 = (rs.length : Int) by omega, pxM_eq (by omega) (by omega)], fun z z1 z2 => ?_⟩
        rw [pxM_ne (by omega), pxM_ne (by omega), px_cpM_in (by omega) (by omega) (by omega) (by omega), ← mb z z1 z2]
        congr 2; omega
      · have e : pxRw (rs ++ [r]) y = pxRw rs y := pxG_appL g1 (by omega)
        have l1 := pxLn_le ok y
        unfold pxLn pxSg at *
        rw [e]
        refine ⟨by rw [pxM_ne (by omega), px_cpM_ne (by omega)]; exact (mx y g1 (by omega)).1, fun z z1 z2 => ?_⟩
        rw [pxM_ne (by omega), pxM_ne (by omega), px_cpM_out (by omega) (by omega) (by omega)]
        exact (mx y g1 (by omega)).2 z z1 z2
  · simp only [if_neg hx]
    simp (disch := first | assumption | omega | (simp only [jw_t_I, px_cpt, t1, t2, tb]; done) | (simp only [jw_t_I, px_cpt, t1, t2, tb]; omega)) only [pxL0, pxL1, pxL2, pxL3, pxL4, pxL5, pxL6, pxL7, pxL8, pxL9, pxL10, pxL11, pxL12, pxL13, pxL14, pxL15, pxL16, pxL17, pxL18, pxL19, pxL20, pxL21, pxL22, pxL23, pxL24, pxL25, pxL26, pxL27, pxL28, pxL29, pxL30, pxL31, pxL32, pxL33, pxL34, pxL35, pxL36, pxL37, pxL38, pxL39, pxL40, pxL41, pxL42, pxL43, pxL44, pxL45, pxL46, pxL47, pxL48, pxL49, pxL51, pxL57, pxL58, pxL59, pxL60, pxL61, pxL62, pxL63, pxL64, pxL65, pxL66, pxL67, pxL68, pxL69, pxL70, pxL71, pxL72, pxL73, pxL74, pxL75, pxL76, pxL77, pxL78, pxL79, pxL80, pxL81, pxL82, pxL83, pxL84, pxL85, pxL86, pxL87, pxL88, pxL89, pxL90, pxL91, pxL92, pxL93, pxL94, pxL95, pxL96, pxL97, pxL98, pxL99, pxL100, pxL101, pxL102, pxL103, pxL104, pxL105, pxL106, pxL107, pxL108, pxL109, pxL110, pxL111, pxL112, pxL113, pxL114, pxL115, pxL116, pxL117, pxL118, pxL119, pxL120, pxL121, pxL122, pxL123, pxL124, pxL125, pxL126, pxL200, pxL240, pxL287, pxL388, pxL400, pxL429, pxL431, pxL440, pxL1240, pxL1600, pxL1681, pxL12028, pxL13849, pxL14880, pxL25173, pxL26908, pxL49600, pxL65535, pxL65536, ↓reduceIte, pxJ_add, pxJ_sub, pxJ_mul, pxJ_neg, pxD_lt_t, pxD_lt_f, pxD_le_t, pxD_le_f, pxD_eq_t, pxD_eq_f, pxJ_lt, pxJ_le, pxJ_eq, px_gI, px_gR, px_pI, px_rc, px_ai, px_ar, px_si, px_ln, px_cp, pxJ_div, pxJ_b8, pxJ_byte, px_b2, px_bs, px_rb0, px_rb1, px_min, px_max, px_compare, pxW_some, jw_t_I, px_cpt, jw_r_I, px_cpr, jw_l_I, px_cpl, Option.some.injEq, t1, t2, tb, r0, r1, m2]
    exact ⟨pxF.rfl, trivial, H'⟩
theorem s_X7_addRow (H : pxIR h ρ cap rs) {ρ2 cap2 : Nat} {rs2 : List (List Int)} (H2 : pxIR h ρ2 cap2 rs2) {y : Int} (hy1 : 1 ≤ y) (hy2 : y ≤ rs2.length) :
    pxW (f_X7_addRow h ρ (some ρ2) (pxJ y)) fun q h' => pxF (pxC ρ (ρ + 2)) h h' ∧ q = pxJ (if rs.length < cap then 1 else 0) ∧ pxIR h' ρ cap (if rs.length < cap then rs ++ [pxRw rs2 y] else rs) := by
  have q1 := H2.2.1
  have q2 := H2.1.2.2.2.2.2
  have t0 := H.1.1
  have t0' := H2.1.1
  have r1 := H2.1.2.2.2.2.1
  unfold f_X7_addRow g_X7_addRow_b34 g_X7_addRow_b35
  simp (disch := first | assumption | omega | (simp only [jw_t_I, px_cpt, t0, t0']; done) | (simp only [jw_t_I, px_cpt, t0, t0']; omega)) only [pxL0, pxL1, pxL2, pxL3, pxL4, pxL5, pxL6, pxL7, pxL8, pxL9, pxL10, pxL11, pxL12, pxL13, pxL14, pxL15, pxL16, pxL17, pxL18, pxL19, pxL20, pxL21, pxL22, pxL23, pxL24, pxL25, pxL26, pxL27, pxL28, pxL29, pxL30, pxL31, pxL32, pxL33, pxL34, pxL35, pxL36, pxL37, pxL38, pxL39, pxL40, pxL41, pxL42, pxL43, pxL44, pxL45, pxL46, pxL47, pxL48, pxL49, pxL51, pxL57, pxL58, pxL59, pxL60, pxL61, pxL62, pxL63, pxL64, pxL65, pxL66, pxL67, pxL68, pxL69, pxL70, pxL71, pxL72, pxL73, pxL74, pxL75, pxL76, pxL77, pxL78, pxL79, pxL80, pxL81, pxL82, pxL83, pxL84, pxL85, pxL86, pxL87, pxL88, pxL89, pxL90, pxL91, pxL92, pxL93, pxL94, pxL95, pxL96, pxL97, pxL98, pxL99, pxL100, pxL101, pxL102, pxL103, pxL104, pxL105, pxL106, pxL107, pxL108, pxL109, pxL110, pxL111, pxL112, pxL113, pxL114, pxL115, pxL116, pxL117, pxL118, pxL119, pxL120, pxL121, pxL122, pxL123, pxL124, pxL125, pxL126, pxL200, pxL240, pxL287, pxL388, pxL400, pxL429, pxL431, pxL440, pxL1240, pxL1600, pxL1681, pxL12028, pxL13849, pxL14880, pxL25173, pxL26908, pxL49600, pxL65535, pxL65536, ↓reduceIte, pxJ_add, pxJ_sub, pxJ_mul, pxJ_neg, pxD_lt_t, pxD_lt_f, pxD_le_t, pxD_le_f, pxD_eq_t, pxD_eq_f, pxJ_lt, pxJ_le, pxJ_eq, px_gI, px_gR, px_pI, px_rc, px_ai, px_ar, px_si, px_ln, px_cp, pxJ_div, pxJ_b8, pxJ_byte, px_b2, px_bs, px_rb0, px_rb1, px_min, px_max, px_compare, pxW_some, jw_t_I, px_cpt, jw_r_I, px_cpr, jw_l_I, px_cpl, Option.some.injEq, t0, t0', s_X7_has H2, s_X7_lengthOf H2, pxLnA_t (And.intro hy1 hy2), r1, and_self, hy1, hy2]
  refine pxW_b2 (s_X7_add H (H2.by hy1 hy2)) fun a h1 q => ?_
  obtain ⟨q1, rfl, q3⟩ := q
  by_cases hc : rs.length < cap
  · simp only [if_pos hc] at q3 ⊢
    simp (disch := first | assumption | omega | (simp only [jw_t_I, px_cpt]; done) | (simp only [jw_t_I, px_cpt]; omega)) only [pxL0, pxL1, pxL2, pxL3, pxL4, pxL5, pxL6, pxL7, pxL8, pxL9, pxL10, pxL11, pxL12, pxL13, pxL14, pxL15, pxL16, pxL17, pxL18, pxL19, pxL20, pxL21, pxL22, pxL23, pxL24, pxL25, pxL26, pxL27, pxL28, pxL29, pxL30, pxL31, pxL32, pxL33, pxL34, pxL35, pxL36, pxL37, pxL38, pxL39, pxL40, pxL41, pxL42, pxL43, pxL44, pxL45, pxL46, pxL47, pxL48, pxL49, pxL51, pxL57, pxL58, pxL59, pxL60, pxL61, pxL62, pxL63, pxL64, pxL65, pxL66, pxL67, pxL68, pxL69, pxL70, pxL71, pxL72, pxL73, pxL74, pxL75, pxL76, pxL77, pxL78, pxL79, pxL80, pxL81, pxL82, pxL83, pxL84, pxL85, pxL86, pxL87, pxL88, pxL89, pxL90, pxL91, pxL92, pxL93, pxL94, pxL95, pxL96, pxL97, pxL98, pxL99, pxL100, pxL101, pxL102, pxL103, pxL104, pxL105, pxL106, pxL107, pxL108, pxL109, pxL110, pxL111, pxL112, pxL113, pxL114, pxL115, pxL116, pxL117, pxL118, pxL119, pxL120, pxL121, pxL122, pxL123, pxL124, pxL125, pxL126, pxL200, pxL240, pxL287, pxL388, pxL400, pxL429, pxL431, pxL440, pxL1240, pxL1600, pxL1681, pxL12028, pxL13849, pxL14880, pxL25173, pxL26908, pxL49600, pxL65535, pxL65536, ↓reduceIte, pxJ_add, pxJ_sub, pxJ_mul, pxJ_neg, pxD_lt_t, pxD_lt_f, pxD_le_t, pxD_le_f, pxD_eq_t, pxD_eq_f, pxJ_lt, pxJ_le, pxJ_eq, px_gI, px_gR, px_pI, px_rc, px_ai, px_ar, px_si, px_ln, px_cp, pxJ_div, pxJ_b8, pxJ_byte, px_b2, px_bs, px_rb0, px_rb1, px_min, px_max, px_compare, pxW_some, jw_t_I, px_cpt, jw_r_I, px_cpr, jw_l_I, px_cpl, Option.some.injEq, true_and]
    exact ⟨q1, q3⟩
  · simp only [if_neg hc] at q3 ⊢
    simp (disch := first | assumption | omega | (simp only [jw_t_I, px_cpt]; done) | (simp only [jw_t_I, px_cpt]; omega)) only [pxL0, pxL1, pxL2, pxL3, pxL4, pxL5, pxL6, pxL7, pxL8, pxL9, pxL10, pxL11, pxL12, pxL13, pxL14, pxL15, pxL16, pxL17, pxL18, pxL19, pxL20, pxL21, pxL22, pxL23, pxL24, pxL25, pxL26, pxL27, pxL28, pxL29, pxL30, pxL31, pxL32, pxL33, pxL34, pxL35, pxL36, pxL37, pxL38, pxL39, pxL40, pxL41, pxL42, pxL43, pxL44, pxL45, pxL46, pxL47, pxL48, pxL49, pxL51, pxL57, pxL58, pxL59, pxL60, pxL61, pxL62, pxL63, pxL64, pxL65, pxL66, pxL67, pxL68, pxL69, pxL70, pxL71, pxL72, pxL73, pxL74, pxL75, pxL76, pxL77, pxL78, pxL79, pxL80, pxL81, pxL82, pxL83, pxL84, pxL85, pxL86, pxL87, pxL88, pxL89, pxL90, pxL91, pxL92, pxL93, pxL94, pxL95, pxL96, pxL97, pxL98, pxL99, pxL100, pxL101, pxL102, pxL103, pxL104, pxL105, pxL106, pxL107, pxL108, pxL109, pxL110, pxL111, pxL112, pxL113, pxL114, pxL115, pxL116, pxL117, pxL118, pxL119, pxL120, pxL121, pxL122, pxL123, pxL124, pxL125, pxL126, pxL200, pxL240, pxL287, pxL388, pxL400, pxL429, pxL431, pxL440, pxL1240, pxL1600, pxL1681, pxL12028, pxL13849, pxL14880, pxL25173, pxL26908, pxL49600, pxL65535, pxL65536, ↓reduceIte, pxJ_add, pxJ_sub, pxJ_mul, pxJ_neg, pxD_lt_t, pxD_lt_f, pxD_le_t, pxD_le_f, pxD_eq_t, pxD_eq_f, pxJ_lt, pxJ_le, pxJ_eq, px_gI, px_gR, px_pI, px_rc, px_ai, px_ar, px_si, px_ln, px_cp, pxJ_div, pxJ_b8, pxJ_byte, px_b2, px_bs, px_rb0, px_rb1, px_min, px_max, px_compare, pxW_some, jw_t_I, px_cpt, jw_r_I, px_cpr, jw_l_I, px_cpl, Option.some.injEq, true_and]
    exact ⟨q1, q3⟩
theorem s_X7_cutTo (H : pxIR h ρ cap rs) {x n : Int} (hx1 : 1 ≤ x) (hx2 : x ≤ rs.length) (hy1 : 0 ≤ n) (hy2 : n ≤ 100) :
    pxW (f_X7_cutTo h ρ (pxJ x) (pxJ n)) fun _ h' => pxF (pxC ρ (ρ + 2)) h h' ∧ pxIR h' ρ cap (pxSet rs x ((pxRw rs x).take n.toNat)) := by
  have H' := H
  have hh := s_X7_has H (x := x) (by omega) (by have := H.2.1; have := H.1.2.2.2.2.2; omega)
  obtain ⟨⟨t0, t1, t2, r0, r1, hc⟩, hn, ok, C⟩ := H
  obtain ⟨m2, mx⟩ := id C
  have ln := pxLn_le ok x
  have ln0 := pxLn_0 rs x
  unfold f_X7_cutTo
  by_cases hz : n < pxLn rs x
  · simp (disch := first | assumption | omega | (simp only [jw_t_I, px_cpt, t1, t2]; done) | (simp only [jw_t_I, px_cpt, t1, t2]; omega)) only [pxL0, pxL1, pxL2, pxL3, pxL4, pxL5, pxL6, pxL7, pxL8, pxL9, pxL10, pxL11, pxL12, pxL13, pxL14, pxL15, pxL16, pxL17, pxL18, pxL19, pxL20, pxL21, pxL22, pxL23, pxL24, pxL25, pxL26, pxL27, pxL28, pxL29, pxL30, pxL31, pxL32, pxL33, pxL34, pxL35, pxL36, pxL37, pxL38, pxL39, pxL40, pxL41, pxL42, pxL43, pxL44, pxL45, pxL46, pxL47, pxL48, pxL49, pxL51, pxL57, pxL58, pxL59, pxL60, pxL61, pxL62, pxL63, pxL64, pxL65, pxL66, pxL67, pxL68, pxL69, pxL70, pxL71, pxL72, pxL73, pxL74, pxL75, pxL76, pxL77, pxL78, pxL79, pxL80, pxL81, pxL82, pxL83, pxL84, pxL85, pxL86, pxL87, pxL88, pxL89, pxL90, pxL91, pxL92, pxL93, pxL94, pxL95, pxL96, pxL97, pxL98, pxL99, pxL100, pxL101, pxL102, pxL103, pxL104, pxL105, pxL106, pxL107, pxL108, pxL109, pxL110, pxL111, pxL112, pxL113, pxL114, pxL115, pxL116, pxL117, pxL118, pxL119, pxL120, pxL121, pxL122, pxL123, pxL124, pxL125, pxL126, pxL200, pxL240, pxL287, pxL388, pxL400, pxL429, pxL431, pxL440, pxL1240, pxL1600, pxL1681, pxL12028, pxL13849, pxL14880, pxL25173, pxL26908, pxL49600, pxL65535, pxL65536, ↓reduceIte, pxJ_add, pxJ_sub, pxJ_mul, pxJ_neg, pxD_lt_t, pxD_lt_f, pxD_le_t, pxD_le_f, pxD_eq_t, pxD_eq_f, pxJ_lt, pxJ_le, pxJ_eq, px_gI, px_gR, px_pI, px_rc, px_ai, px_ar, px_si, px_ln, px_cp, pxJ_div, pxJ_b8, pxJ_byte, px_b2, px_bs, px_rb0, px_rb1, px_min, px_max, px_compare, pxW_some, jw_t_I, px_cpt, jw_r_I, px_cpr, jw_l_I, px_cpl, Option.some.injEq, t1, t2, hh, r0, m2, (mx x hx1 hx2).1, and_self, hx1, hx2]
    have el : (((pxRw rs x).take n.toNat).length : Int) = n := by
      rw [List.length_take]; unfold pxLn at hz; omega
    refine ⟨pxF.setI (by unfold pxC; omega), ⟨t0, t1, t2, r0, r1, hc⟩, by rw [pxSet_len]; exact hn, pxOk_set ok ⟨by omega, fun c hc => (pxRw_or ok x).2 c (List.mem_of_mem_take hc)⟩, pxCR_set C ok hx1 hx2 ?_ ?_ ?_ ?_ ?_⟩
    · rw [pxM_ne (by omega)]
    · rw [pxM_eq (by omega) (by omega), el]
    · intro z z1 z2
      rw [pxM_ne (by omega)]
    · intro y y1 y2
      rw [pxM_ne (by omega), (mx x hx1 hx2).2 y y1 (by omega)]
      unfold pxSg pxE
      rw [List.getD_eq_getElem?_getD, List.getD_eq_getElem?_getD, List.getElem?_take, if_pos (by omega)]
    · intro z z1 z2
      rw [pxM_ne (by omega)]
  · simp (disch := first | assumption | omega | (simp only [jw_t_I, px_cpt, t1, t2]; done) | (simp only [jw_t_I, px_cpt, t1, t2]; omega)) only [pxL0, pxL1, pxL2, pxL3, pxL4, pxL5, pxL6, pxL7, pxL8, pxL9, pxL10, pxL11, pxL12, pxL13, pxL14, pxL15, pxL16, pxL17, pxL18, pxL19, pxL20, pxL21, pxL22, pxL23, pxL24, pxL25, pxL26, pxL27, pxL28, pxL29, pxL30, pxL31, pxL32, pxL33, pxL34, pxL35, pxL36, pxL37, pxL38, pxL39, pxL40, pxL41, pxL42, pxL43, pxL44, pxL45, pxL46, pxL47, pxL48, pxL49, pxL51, pxL57, pxL58, pxL59, pxL60, pxL61, pxL62, pxL63, pxL64, pxL65, pxL66, pxL67, pxL68, pxL69, pxL70, pxL71, pxL72, pxL73, pxL74, pxL75, pxL76, pxL77, pxL78, pxL79, pxL80, pxL81, pxL82, pxL83, pxL84, pxL85, pxL86, pxL87, pxL88, pxL89, pxL90, pxL91, pxL92, pxL93, pxL94, pxL95, pxL96, pxL97, pxL98, pxL99, pxL100, pxL101, pxL102, pxL103, pxL104, pxL105, pxL106, pxL107, pxL108, pxL109, pxL110, pxL111, pxL112, pxL113, pxL114, pxL115, pxL116, pxL117, pxL118, pxL119, pxL120, pxL121, pxL122, pxL123, pxL124, pxL125, pxL126, pxL200, pxL240, pxL287, pxL388, pxL400, pxL429, pxL431, pxL440, pxL1240, pxL1600, pxL1681, pxL12028, pxL13849, pxL14880, pxL25173, pxL26908, pxL49600, pxL65535, pxL65536, ↓reduceIte, pxJ_add, pxJ_sub, pxJ_mul, pxJ_neg, pxD_lt_t, pxD_lt_f, pxD_le_t, pxD_le_f, pxD_eq_t, pxD_eq_f, pxJ_lt, pxJ_le, pxJ_eq, px_gI, px_gR, px_pI, px_rc, px_ai, px_ar, px_si, px_ln, px_cp, pxJ_div, pxJ_b8, pxJ_byte, px_b2, px_bs, px_rb0, px_rb1, px_min, px_max, px_compare, pxW_some, jw_t_I, px_cpt, jw_r_I, px_cpr, jw_l_I, px_cpl, Option.some.injEq, t1, t2, hh, r0, m2, (mx x hx1 hx2).1, and_self, hx1, hx2]
    refine ⟨pxF.rfl, ?_⟩
    rw [List.take_of_length_le (by unfold pxLn at hz; omega)]
    have e : pxSet rs x (pxRw rs x) = rs := by
      apply pxG_ext (d := []) pxSet_len
      intro y y1 y2
      by_cases hy : y = x
      · subst hy; rw [pxG_setE y1 hx2]
      · rw [pxG_setN hx1 y1 hy]
    rw [e]; exact H'
end
