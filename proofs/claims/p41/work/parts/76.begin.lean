/-! the reading of a tape -/
theorem pxF.setR {P : Nat → Nat → Prop} {h : jw_H} {k f : Nat} {v : Option Nat} (hp : P k f) : pxF P h (jw_setR h k f v) :=
  ⟨.refl _, .refl _, .refl _, .refl _, fun a b hn => ⟨.refl _, .refl _, by
    show jw_u (jw_r h) k f v a b = _
    unfold jw_u
    by_cases ha : a = k
    · by_cases hb : b = f
      · subst ha; subst hb; exact absurd hp hn
      · simp [hb]
    · simp [ha]⟩⟩
theorem px_setR_e {h : jw_H} {k f : Nat} {v : Option Nat} : jw_r (jw_setR h k f v) k f = v := by
  show jw_u (jw_r h) k f v k f = v
  unfold jw_u; simp
/-- what a reader may change -/
def pxQp : Nat → Nat → Prop := fun k f => (k = 10 ∧ 3 ≤ f) ∨ k = 252 ∨ k = 253 ∨ (12 ≤ k ∧ k ≤ 251 ∧ (k % 4 = 0 → 3 ≤ f))
/-- a tape: signs in an array of bytes -/
def pxTA (h : jw_H) (b : Nat) (s : List Int) : Prop := (b < 10 ∨ 254 < b) ∧ pxTp s ∧ (∃ L : Nat, jw_t h b = (21, L) ∧ s.length ≤ L ∧ L ≤ 10000) ∧ ∀ j : Int, 0 ≤ j → j < s.length → pxM h b j.toNat = pxE s j
section
variable {h : jw_H} {b : Nat} {s : List Int}
theorem s_X6_begin (S : pxPS h) (T : pxTA h b s) : ∃ h', f_X6_begin h 10 (some b) (pxJ s.length) = some ((), h') ∧ pxF (fun k f => k = 10 ∧ 3 ≤ f) h h' ∧ pxPG h' b s ∧ pxM h' 10 5 = 0 ∧ pxM h' 10 6 = 0 ∧ pxM h' 10 7 = 0 := by
  obtain ⟨bn, tp, ⟨L, tb, l1, l2⟩, mb⟩ := T
  have t0 := S.1
  have n60 := tp.1
  have F : pxF (fun k f => k = 10 ∧ 3 ≤ f) h (jw_setI (jw_setI (jw_setI (jw_setI (jw_setR h 10 3 (some b)) 10 4 (pxJ s.length)) 10 5 (pxJ 0)) 10 6 (pxJ 0)) 10 7 (pxJ 0)) :=
    ((((pxF.setR ⟨rfl, by omega⟩).trans (pxF.setI ⟨rfl, by omega⟩)).trans (pxF.setI ⟨rfl, by omega⟩)).trans (pxF.setI ⟨rfl, by omega⟩)).trans (pxF.setI ⟨rfl, by omega⟩)
  refine ⟨jw_setI (jw_setI (jw_setI (jw_setI (jw_setR h 10 3 (some b)) 10 4 (pxJ s.length)) 10 5 (pxJ 0)) 10 6 (pxJ 0)) 10 7 (pxJ 0), ?_, F, ⟨S.fr F (fun k f q => by omega), ?_, bn, ?_, tp, ⟨L, by rw [F.t]; exact tb, l1, l2⟩, fun j j1 j2 => by rw [F.m (by omega)]; exact mb j j1 j2⟩, ?_, ?_, ?_⟩
  · unfold f_X6_begin
    have mn : min (s.length : Int) (L : Int) = s.length := by omega
    have tR : jw_t (jw_setR h 10 3 (some b)) = jw_t h := rfl
    have ln : jw_ln (jw_setR h 10 3 (some b)) (some b) = some (pxJ (L : Int)) := by rw [px_ln (by rw [tR, tb]; simp), tR, tb]
    simp (maxSteps := 4000000) (disch := first | assumption | omega | (simp only [jw_t_I, px_cpt, tR, t0]; done) | (simp only [jw_t_I, px_cpt, tR, t0]; omega)) only [pxL0, pxL1, pxL2, pxL3, pxL4, pxL5, pxL6, pxL7, pxL8, pxL9, pxL10, pxL11, pxL12, pxL13, pxL14, pxL15, pxL16, pxL17, pxL18, pxL19, pxL20, pxL21, pxL22, pxL23, pxL24, pxL25, pxL26, pxL27, pxL28, pxL29, pxL30, pxL31, pxL32, pxL33, pxL34, pxL35, pxL36, pxL37, pxL38, pxL39, pxL40, pxL41, pxL42, pxL43, pxL44, pxL45, pxL46, pxL47, pxL48, pxL49, pxL51, pxL57, pxL58, pxL59, pxL60, pxL61, pxL62, pxL63, pxL64, pxL65, pxL66, pxL67, pxL68, pxL69, pxL70, pxL71, pxL72, pxL73, pxL74, pxL75, pxL76, pxL77, pxL78, pxL79, pxL80, pxL81, pxL82, pxL83, pxL84, pxL85, pxL86, pxL87, pxL88, pxL89, pxL90, pxL91, pxL92, pxL93, pxL94, pxL95, pxL96, pxL97, pxL98, pxL99, pxL100, pxL101, pxL102, pxL103, pxL104, pxL105, pxL106, pxL107, pxL108, pxL109, pxL110, pxL111, pxL112, pxL113, pxL114, pxL115, pxL116, pxL117, pxL118, pxL119, pxL120, pxL121, pxL122, pxL123, pxL124, pxL125, pxL126, pxL200, pxL240, pxL287, pxL388, pxL400, pxL429, pxL431, pxL440, pxL1240, pxL1600, pxL1681, pxL12028, pxL13849, pxL14880, pxL25173, pxL26908, pxL49600, pxL65535, pxL65536, ↓reduceIte, reduceCtorEq, pxJ_add, pxJ_sub, pxJ_mul, pxJ_neg, pxD_lt_t, pxD_lt_f, pxD_le_t, pxD_le_f, pxD_eq_t, pxD_eq_f, pxJ_lt, pxJ_le, pxJ_eq, px_gI, px_gR, px_pI, px_rc, px_ai, px_ar, px_si, px_ln, px_cp, pxJ_div, pxJ_b8, pxJ_byte, px_b2, px_bs, px_rb0, px_rb1, px_min, px_max, px_compare, pxW_some, jw_t_I, px_cpt, jw_r_I, px_cpr, jw_l_I, px_cpl, Option.some.injEq, tR, t0, px_pR, ln, mn]
  · show jw_u (jw_r h) 10 3 (some b) 10 3 = some b
    unfold jw_u; simp
  · simp (disch := omega) only [pxM_ne, pxM_eq, pxPl_p, pxPl_n]
  · simp (disch := omega) only [pxM_ne, pxM_eq, pxPl_p, pxPl_n]
  · simp (disch := omega) only [pxM_ne, pxM_eq, pxPl_p, pxPl_n]
  · simp (disch := omega) only [pxM_ne, pxM_eq, pxPl_p, pxPl_n]
theorem s_X6_readOrders (S : pxPS h) (T : pxTA h b s) : ∃ h', f_X6_readOrders h 10 (some b) (pxJ s.length) = some (pxJ (pxOrds s 61 0).1, h') ∧ pxF pxQp h h' ∧ pxPG h' b s ∧ ((pxOrds s 61 0).1 = -1 → pxAll h' s 0 (pxOrds s 61 0).2 ∧ pxM h' 10 6 = (pxCnt (pxOrds s 61 0).2 : Int) ∧ pxCnt (pxOrds s 61 0).2 ≤ 60 ∧ (∀ k, k < pxCnt (pxOrds s 61 0).2 → pxOz h' k) ∧ pxM h' 10 7 ≤ 120) := by
  obtain ⟨h1, w1, w2, w3, w4, w5, w6⟩ := s_X6_begin S T
  have n60 := T.2.1.1
  have t0 := S.1
  obtain ⟨y1, y2⟩ := s_X6_ords 61 jw_FU h1 0 0 0 0 (pxJ 0) (by omega) (by unfold jw_FU; omega) w3 w4 w6 w5 (by omega) (by omega) (by omega) (by omega) (by omega) (by omega) (by omega)
  have F1 : pxF pxQp h h1 := w2.mono (fun k f z => by unfold pxQp; omega)
  have st : f_X6_readOrders h 10 (some b) (pxJ s.length) = f_X6_readOrders_b14 jw_FU h1 10 none (pxJ 0) (pxJ 0) := by
    unfold f_X6_readOrders
    simp (maxSteps := 4000000) (disch := first | assumption | omega | (simp only [jw_t_I, px_cpt]; done) | (simp only [jw_t_I, px_cpt]; omega)) only [pxL0, pxL1, pxL2, pxL3, pxL4, pxL5, pxL6, pxL7, pxL8, pxL9, pxL10, pxL11, pxL12, pxL13, pxL14, pxL15, pxL16, pxL17, pxL18, pxL19, pxL20, pxL21, pxL22, pxL23, pxL24, pxL25, pxL26, pxL27, pxL28, pxL29, pxL30, pxL31, pxL32, pxL33, pxL34, pxL35, pxL36, pxL37, pxL38, pxL39, pxL40, pxL41, pxL42, pxL43, pxL44, pxL45, pxL46, pxL47, pxL48, pxL49, pxL51, pxL57, pxL58, pxL59, pxL60, pxL61, pxL62, pxL63, pxL64, pxL65, pxL66, pxL67, pxL68, pxL69, pxL70, pxL71, pxL72, pxL73, pxL74, pxL75, pxL76, pxL77, pxL78, pxL79, pxL80, pxL81, pxL82, pxL83, pxL84, pxL85, pxL86, pxL87, pxL88, pxL89, pxL90, pxL91, pxL92, pxL93, pxL94, pxL95, pxL96, pxL97, pxL98, pxL99, pxL100, pxL101, pxL102, pxL103, pxL104, pxL105, pxL106, pxL107, pxL108, pxL109, pxL110, pxL111, pxL112, pxL113, pxL114, pxL115, pxL116, pxL117, pxL118, pxL119, pxL120, pxL121, pxL122, pxL123, pxL124, pxL125, pxL126, pxL200, pxL240, pxL287, pxL388, pxL400, pxL429, pxL431, pxL440, pxL1240, pxL1600, pxL1681, pxL12028, pxL13849, pxL14880, pxL25173, pxL26908, pxL49600, pxL65535, pxL65536, ↓reduceIte, reduceCtorEq, pxJ_add, pxJ_sub, pxJ_mul, pxJ_neg, pxD_lt_t, pxD_lt_f, pxD_le_t, pxD_le_f, pxD_eq_t, pxD_eq_f, pxJ_lt, pxJ_le, pxJ_eq, px_gI, px_gR, px_pI, px_rc, px_ai, px_ar, px_si, px_ln, px_cp, pxJ_div, pxJ_b8, pxJ_byte, px_b2, px_bs, px_rb0, px_rb1, px_min, px_max, px_compare, pxW_some, jw_t_I, px_cpt, jw_r_I, px_cpr, jw_l_I, px_cpl, Option.some.injEq, w1]
  rw [st]
  by_cases c : (pxOrds s 61 0).1 = -1
  · obtain ⟨h2, v1, v2, v3, v4, v5, v6, -, v8⟩ := y1 c
    rw [c]
    refine ⟨h2, v1, F1.trans (v2.mono (fun k f z => by unfold pxQn at z; unfold pxQp; omega)), w3.fn v2, fun _ => ⟨v3, by rw [v4]; simp, by omega, fun k k1 => v5 k (by omega) (by omega), v8⟩⟩
  · obtain ⟨h2, v1, v2⟩ := y2 c
    exact ⟨h2, v1, F1.trans (v2.mono (fun k f z => by unfold pxQn at z; unfold pxQp; omega)), w3.fn v2, fun z => absurd z c⟩
/-- the fault of a tape as a pattern, or -1 -/
def pxTpF (s : List Int) : Int := if (pxPat s 0).1 = true ∧ s.length ≤ (pxPat s 0).2 then -1 else (pxPat s 0).2
theorem s_X6_readTapePattern (S : pxPS h) (T : pxTA h b s) : ∃ h', f_X6_readTapePattern h 10 (some b) (pxJ s.length) = some (pxJ (pxTpF s), h') ∧ pxF pxQp h h' ∧ pxPG h' b s ∧ (pxTpF s = -1 → pxEls h' s 0 (pxFull s 0) ∧ pxM h' 10 7 = ((pxFull s 0).length : Int)) := by
  obtain ⟨h1, w1, w2, w3, w4, w5, w6⟩ := s_X6_begin S T
  have n60 := T.2.1.1
  have t0 := S.1
  obtain ⟨y1, y2⟩ := s_X6_readPattern w3 w4 w6 (by omega) (by omega) (by omega) (by omega)
  have F1 : pxF pxQp h h1 := w2.mono (fun k f z => by unfold pxQp; omega)
  have pb := pxPat_b (s := s) (p := 0) (by omega) (by omega)
  have tg1 := w3.1.1
  unfold f_X6_readTapePattern g_X6_readTapePattern_b25 g_X6_readTapePattern_b33
  by_cases c : (pxPat s 0).1 = true
  · obtain ⟨h2, v1, v2, v3, v4, v5, v6⟩ := y1 c
    have G2 := w3.fe v2
    have tg2 := G2.1.1
    have m4 := G2.2.2.2.1
    have F2 : pxF pxQp h h2 := F1.trans (v2.mono (fun k f z => by unfold pxQe at z; unfold pxQp; omega))
    by_cases d : (s.length : Int) ≤ (pxPat s 0).2
    · have e : pxTpF s = -1 := if_pos ⟨c, d⟩
      rw [e]
      refine ⟨h2, ?_, F2, G2, fun _ => ⟨v6, by omega⟩⟩
      simp (maxSteps := 4000000) (disch := first | assumption | omega | (simp only [jw_t_I, px_cpt]; done) | (simp only [jw_t_I, px_cpt]; omega)) only [pxL0, pxL1, pxL2, pxL3, pxL4, pxL5, pxL6, pxL7, pxL8, pxL9, pxL10, pxL11, pxL12, pxL13, pxL14, pxL15, pxL16, pxL17, pxL18, pxL19, pxL20, pxL21, pxL22, pxL23, pxL24, pxL25, pxL26, pxL27, pxL28, pxL29, pxL30, pxL31, pxL32, pxL33, pxL34, pxL35, pxL36, pxL37, pxL38, pxL39, pxL40, pxL41, pxL42, pxL43, pxL44, pxL45, pxL46, pxL47, pxL48, pxL49, pxL51, pxL57, pxL58, pxL59, pxL60, pxL61, pxL62, pxL63, pxL64, pxL65, pxL66, pxL67, pxL68, pxL69, pxL70, pxL71, pxL72, pxL73, pxL74, pxL75, pxL76, pxL77, pxL78, pxL79, pxL80, pxL81, pxL82, pxL83, pxL84, pxL85, pxL86, pxL87, pxL88, pxL89, pxL90, pxL91, pxL92, pxL93, pxL94, pxL95, pxL96, pxL97, pxL98, pxL99, pxL100, pxL101, pxL102, pxL103, pxL104, pxL105, pxL106, pxL107, pxL108, pxL109, pxL110, pxL111, pxL112, pxL113, pxL114, pxL115, pxL116, pxL117, pxL118, pxL119, pxL120, pxL121, pxL122, pxL123, pxL124, pxL125, pxL126, pxL200, pxL240, pxL287, pxL388, pxL400, pxL429, pxL431, pxL440, pxL1240, pxL1600, pxL1681, pxL12028, pxL13849, pxL14880, pxL25173, pxL26908, pxL49600, pxL65535, pxL65536, ↓reduceIte, reduceCtorEq, pxJ_add, pxJ_sub, pxJ_mul, pxJ_neg, pxD_lt_t, pxD_lt_f, pxD_le_t, pxD_le_f, pxD_eq_t, pxD_eq_f, pxJ_lt, pxJ_le, pxJ_eq, px_gI, px_gR, px_pI, px_rc, px_ai, px_ar, px_si, px_ln, px_cp, pxJ_div, pxJ_b8, pxJ_byte, px_b2, px_bs, px_rb0, px_rb1, px_min, px_max, px_compare, pxW_some, jw_t_I, px_cpt, jw_r_I, px_cpr, jw_l_I, px_cpl, Option.some.injEq, w1, v1, v3, m4]
    · have e : pxTpF s = (pxPat s 0).2 := if_neg (fun z => d z.2)
      rw [e]
      refine ⟨h2, ?_, F2, G2, fun z => by omega⟩
      simp (maxSteps := 4000000) (disch := first | assumption | omega | (simp only [jw_t_I, px_cpt]; done) | (simp only [jw_t_I, px_cpt]; omega)) only [pxL0, pxL1, pxL2, pxL3, pxL4, pxL5, pxL6, pxL7, pxL8, pxL9, pxL10, pxL11, pxL12, pxL13, pxL14, pxL15, pxL16, pxL17, pxL18, pxL19, pxL20, pxL21, pxL22, pxL23, pxL24, pxL25, pxL26, pxL27, pxL28, pxL29, pxL30, pxL31, pxL32, pxL33, pxL34, pxL35, pxL36, pxL37, pxL38, pxL39, pxL40, pxL41, pxL42, pxL43, pxL44, pxL45, pxL46, pxL47, pxL48, pxL49, pxL51, pxL57, pxL58, pxL59, pxL60, pxL61, pxL62, pxL63, pxL64, pxL65, pxL66, pxL67, pxL68, pxL69, pxL70, pxL71, pxL72, pxL73, pxL74, pxL75, pxL76, pxL77, pxL78, pxL79, pxL80, pxL81, pxL82, pxL83, pxL84, pxL85, pxL86, pxL87, pxL88, pxL89, pxL90, pxL91, pxL92, pxL93, pxL94, pxL95, pxL96, pxL97, pxL98, pxL99, pxL100, pxL101, pxL102, pxL103, pxL104, pxL105, pxL106, pxL107, pxL108, pxL109, pxL110, pxL111, pxL112, pxL113, pxL114, pxL115, pxL116, pxL117, pxL118, pxL119, pxL120, pxL121, pxL122, pxL123, pxL124, pxL125, pxL126, pxL200, pxL240, pxL287, pxL388, pxL400, pxL429, pxL431, pxL440, pxL1240, pxL1600, pxL1681, pxL12028, pxL13849, pxL14880, pxL25173, pxL26908, pxL49600, pxL65535, pxL65536, ↓reduceIte, reduceCtorEq, pxJ_add, pxJ_sub, pxJ_mul, pxJ_neg, pxD_lt_t, pxD_lt_f, pxD_le_t, pxD_le_f, pxD_eq_t, pxD_eq_f, pxJ_lt, pxJ_le, pxJ_eq, px_gI, px_gR, px_pI, px_rc, px_ai, px_ar, px_si, px_ln, px_cp, pxJ_div, pxJ_b8, pxJ_byte, px_b2, px_bs, px_rb0, px_rb1, px_min, px_max, px_compare, pxW_some, jw_t_I, px_cpt, jw_r_I, px_cpr, jw_l_I, px_cpl, Option.some.injEq, w1, v1, v3, m4]
  · obtain ⟨h2, v1, v2, v3⟩ := y2 (by simpa using c)
    have G2 := w3.fe v2
    have tg2 := G2.1.1
    have F2 : pxF pxQp h h2 := F1.trans (v2.mono (fun k f z => by unfold pxQe at z; unfold pxQp; omega))
    have e : pxTpF s = (pxPat s 0).2 := if_neg (fun z => c z.1)
    rw [e]
    refine ⟨h2, ?_, F2, G2, fun z => by omega⟩
    simp (maxSteps := 4000000) (disch := first | assumption | omega | (simp only [jw_t_I, px_cpt]; done) | (simp only [jw_t_I, px_cpt]; omega)) only [pxL0, pxL1, pxL2, pxL3, pxL4, pxL5, pxL6, pxL7, pxL8, pxL9, pxL10, pxL11, pxL12, pxL13, pxL14, pxL15, pxL16, pxL17, pxL18, pxL19, pxL20, pxL21, pxL22, pxL23, pxL24, pxL25, pxL26, pxL27, pxL28, pxL29, pxL30, pxL31, pxL32, pxL33, pxL34, pxL35, pxL36, pxL37, pxL38, pxL39, pxL40, pxL41, pxL42, pxL43, pxL44, pxL45, pxL46, pxL47, pxL48, pxL49, pxL51, pxL57, pxL58, pxL59, pxL60, pxL61, pxL62, pxL63, pxL64, pxL65, pxL66, pxL67, pxL68, pxL69, pxL70, pxL71, pxL72, pxL73, pxL74, pxL75, pxL76, pxL77, pxL78, pxL79, pxL80, pxL81, pxL82, pxL83, pxL84, pxL85, pxL86, pxL87, pxL88, pxL89, pxL90, pxL91, pxL92, pxL93, pxL94, pxL95, pxL96, pxL97, pxL98, pxL99, pxL100, pxL101, pxL102, pxL103, pxL104, pxL105, pxL106, pxL107, pxL108, pxL109, pxL110, pxL111, pxL112, pxL113, pxL114, pxL115, pxL116, pxL117, pxL118, pxL119, pxL120, pxL121, pxL122, pxL123, pxL124, pxL125, pxL126, pxL200, pxL240, pxL287, pxL388, pxL400, pxL429, pxL431, pxL440, pxL1240, pxL1600, pxL1681, pxL12028, pxL13849, pxL14880, pxL25173, pxL26908, pxL49600, pxL65535, pxL65536, ↓reduceIte, reduceCtorEq, pxJ_add, pxJ_sub, pxJ_mul, pxJ_neg, pxD_lt_t, pxD_lt_f, pxD_le_t, pxD_le_f, pxD_eq_t, pxD_eq_f, pxJ_lt, pxJ_le, pxJ_eq, px_gI, px_gR, px_pI, px_rc, px_ai, px_ar, px_si, px_ln, px_cp, pxJ_div, pxJ_b8, pxJ_byte, px_b2, px_bs, px_rb0, px_rb1, px_min, px_max, px_compare, pxW_some, jw_t_I, px_cpt, jw_r_I, px_cpr, jw_l_I, px_cpl, Option.some.injEq, w1, v1, v3]
/-! rows that are told in an order -/
def pxTold (s : List Int) : Nat → Int → List (List Int)
  | 0, _ => []
  | m + 1, p => pxSpan s p :: (if pxP s (p + (pxSpan s p).length) = 124 then pxTold s m (p + (pxSpan s p).length + 1) else [])
theorem pxRowsE_s {s : List Int} : ∀ (n m : Nat) (l p : Int), (pxSpan s p).length = n → 0 ≤ p → n < m → 0 ≤ l → l ≤ 30 → (pxRowsE s m l p).1 = true → l + n ≤ 30 ∧ pxRowsE s m l p = if pxP s (p + n) = 124 then pxRowsE s (m - n - 1) 0 (p + n + 1) else (true, p + n) := by
  intro n
  induction n with
  | zero =>
    intro m l p e h0 hm l0 l1 hr
    obtain ⟨m, rfl⟩ : ∃ k, m = k + 1 := ⟨m - 1, by omega⟩
    have nc : ¬ pxIsCh (pxP s p) = true := fun z => by rw [pxSpan_c h0 z, List.length_cons] at e; omega
    refine ⟨by omega, ?_⟩
    simp only [Int.natCast_zero, Int.add_zero]
    show (if pxP s p = 124 then pxRowsE s m 0 (p + 1) else if pxIsCh (pxP s p) = true then (if 30 ≤ l then (false, p) else pxRowsE s m (l + 1) (p + 1)) else (true, p)) = _
    rw [if_neg nc]
    rfl
  | succ n ih =>
    intro m l p e h0 hm l0 l1 hr
    obtain ⟨m, rfl⟩ : ∃ k, m = k + 1 := ⟨m - 1, by omega⟩
    have ch : pxIsCh (pxP s p) = true := by
      by_cases z : pxIsCh (pxP s p) = true
      · exact z
      · rw [pxSpan_n h0 z] at e; cases e
    have n124 : ¬ pxP s p = 124 := by have := pxIsCh_i.mp ch; omega
    have e2 : (pxSpan s (p + 1)).length = n := by rw [pxSpan_c h0 ch, List.length_cons] at e; omega
    have st : pxRowsE s (m + 1) l p = if 30 ≤ l then (false, p) else pxRowsE s m (l + 1) (p + 1) := by
      show (if pxP s p = 124 then pxRowsE s m 0 (p + 1) else if pxIsCh (pxP s p) = true then (if 30 ≤ l then (false, p) else pxRowsE s m (l + 1) (p + 1)) else (true, p)) = _
      rw [if_neg n124, if_pos ch]
    rw [st] at hr ⊢
    by_cases c : 30 ≤ l
    · rw [if_pos c] at hr; cases hr
    · rw [if_neg c] at hr ⊢
      obtain ⟨a, b⟩ := ih m (l + 1) (p + 1) e2 (by omega) (by omega) (by omega) (by omega) hr
      refine ⟨by omega, ?_⟩
      rw [b, show p + 1 + (n : Int) = p + ((n + 1 : Nat) : Int) by omega, show m + 1 - (n + 1) - 1 = m - n - 1 by omega]
theorem pxSpan_at {s : List Int} {p y : Int} (h0 : 0 ≤ p) (h1 : 0 ≤ y) (h2 : y < (pxSpan s p).length) : pxE (pxSpan s p) y = pxP s (p + y) ∧ pxIsCh (pxP s (p + y)) = true := by
  have hl : ∀ (n : Nat) (p y : Int), (pxSpan s p).length = n → 0 ≤ p → 0 ≤ y → y < n → pxE (pxSpan s p) y = pxP s (p + y) ∧ pxIsCh (pxP s (p + y)) = true := by
    intro n
    induction n with
    | zero => intro p y _ _ _ _; omega
    | succ n ih =>
      intro p y e q0 q1 q2
      have ch : pxIsCh (pxP s p) = true := by
        by_cases z : pxIsCh (pxP s p) = true
        · exact z
        · rw [pxSpan_n q0 z] at e; cases e
      by_cases y0 : y = 0
      · subst y0
        rw [pxSpan_c q0 ch, Int.add_zero]
        exact ⟨rfl, ch⟩
      · have e2 : (pxSpan s (p + 1)).length = n := by rw [pxSpan_c q0 ch, List.length_cons] at e; omega
        obtain ⟨a, b⟩ := ih (p + 1) (y - 1) e2 (by omega) (by omega) (by omega)
        rw [show p + 1 + (y - 1) = p + y by omega] at a b
        refine ⟨?_, b⟩
        rw [pxSpan_c q0 ch, ← a]
        unfold pxE
        rw [show y.toNat = (y - 1).toNat + 1 by omega]
        rfl
  exact hl _ p y rfl h0 h1 h2
theorem pxP_E {s : List Int} {x : Int} (h0 : 0 ≤ x) (h1 : x < s.length) : pxP s x = pxE s x := if_pos ⟨h0, h1⟩
/-- a span is a row's source -/
theorem pxTA.by (T : pxTA h b s) {p : Int} (h0 : 0 ≤ p) (h1 : p ≤ s.length) (hl : (pxSpan s p).length ≤ 30) : pxBy h b p (pxSpan s p) := by
  obtain ⟨bn, tp, ⟨L, tb, l1, l2⟩, mb⟩ := T
  have sl := pxSpan_le (s := s) h0 h1
  refine ⟨L, tb, h0, by omega, l2, ⟨hl, fun c hc => pxIsCh_iff.mp (pxSpan_ch c hc)⟩, fun y y0 y1 => ?_⟩
  obtain ⟨a, -⟩ := pxSpan_at h0 y0 y1
  rw [mb (p + y) (by omega) (by omega), a, pxP_E (by omega) (by omega)]
theorem pxPG.ta {h : jw_H} {b : Nat} {s : List Int} (G : pxPG h b s) : pxTA h b s := ⟨G.2.2.1, G.2.2.2.2.1, G.2.2.2.2.2.1, G.2.2.2.2.2.2⟩
end
