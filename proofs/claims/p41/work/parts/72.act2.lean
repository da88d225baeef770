/-! orders: an act is read -/
theorem pxActG_b {s : List Int} {p w : Int} {ins : Bool} (h0 : 0 ≤ p) (h1 : p ≤ s.length) : p ≤ (pxActG s p ins w).2 ∧ (pxActG s p ins w).2 ≤ s.length ∧ ((pxActG s p ins w).1 = true → p < (pxActG s p ins w).2) := by
  unfold pxActG
  by_cases c0 : (ins = true ∧ (pxP s p = 103 ∨ pxP s p = 71 ∨ pxP s p = 123 ∨ pxSteer (pxP s p) = true)) ∨ (pxP s p = 58 ∧ w ≠ 0)
  · rw [if_pos c0]; exact ⟨Int.le_refl _, h1, fun z => by cases z⟩
  rw [if_neg c0]
  clear c0
  by_cases ne : pxP s p = -1
  · have d1 : ¬ pxP s p = 123 := by omega
    have d2 : ¬ (pxP s p = 103 ∨ pxP s p = 71) := by omega
    rw [if_neg d1, if_neg d2]
    unfold pxAct
    rw [ne]
    exact ⟨Int.le_refl _, h1, fun z => absurd z (by simp)⟩
  have lt := pxP_lt ne
  by_cases d1 : pxP s p = 123
  · rw [if_pos d1]; refine ⟨?_, ?_, fun _ => ?_⟩ <;> dsimp only <;> omega
  rw [if_neg d1]
  by_cases d2 : pxP s p = 103 ∨ pxP s p = 71
  · rw [if_pos d2]
    have := pxPtn_b (s := s) (p := p + 1) (by omega) (by omega)
    exact ⟨by omega, by omega, fun _ => by omega⟩
  rw [if_neg d2]
  clear d1 d2
  unfold pxAct
  have a1 := pxRowsE_b (s := s) 61 0 (p + 1) (by omega) (by omega)
  have a2 := pxNum_b (s := s) (p := p + 1) (by omega) (by omega)
  have a3 := pxAddr_b (s := s) (p := p + 1) (by omega) (by omega)
  by_cases d3 : pxP s p = 97 ∨ pxP s p = 105 ∨ pxP s p = 99
  · rw [if_pos d3]; exact ⟨by omega, by omega, fun _ => by omega⟩
  rw [if_neg d3]
  by_cases d4 : pxP s p = 100 ∨ pxP s p = 106 ∨ pxP s p = 108 ∨ pxP s p = 112 ∨ pxP s p = 61 ∨ pxP s p = 110 ∨ pxP s p = 104 ∨ pxP s p = 72 ∨ pxP s p = 117 ∨ pxP s p = 101 ∨ pxP s p = 113 ∨ pxP s p = 78
  · rw [if_pos d4]; exact ⟨by dsimp only; omega, by dsimp only; omega, fun _ => by dsimp only; omega⟩
  rw [if_neg d4]
  by_cases d5 : pxP s p = 118 ∨ pxP s p = 62 ∨ pxP s p = 60 ∨ pxP s p = 111 ∨ pxP s p = 79
  · rw [if_pos d5]; exact ⟨by omega, by omega, fun _ => by omega⟩
  rw [if_neg d5]
  by_cases d6 : pxP s p = 109 ∨ pxP s p = 116
  · rw [if_pos d6]; exact ⟨by omega, by omega, fun _ => by omega⟩
  rw [if_neg d6]
  by_cases d7 : pxP s p = 107
  · rw [if_pos d7]
    by_cases d : 97 ≤ pxP s (p + 1) ∧ pxP s (p + 1) ≤ 101
    · have := pxP_lt (s := s) (p := p + 1) (by omega)
      rw [if_pos d]; exact ⟨by dsimp only; omega, by dsimp only; omega, fun _ => by dsimp only; omega⟩
    · rw [if_neg d]; exact ⟨by dsimp only; omega, by dsimp only; omega, fun _ => by dsimp only; omega⟩
  rw [if_neg d7]
  by_cases d8 : pxP s p = 114 ∨ pxP s p = 119
  · rw [if_pos d8]
    by_cases d : 48 ≤ pxP s (p + 1) ∧ pxP s (p + 1) ≤ 51
    · have := pxP_lt (s := s) (p := p + 1) (by omega)
      rw [if_pos d]; exact ⟨by dsimp only; omega, by dsimp only; omega, fun _ => by dsimp only; omega⟩
    · rw [if_neg d]; exact ⟨by dsimp only; omega, by dsimp only; omega, fun _ => by dsimp only; omega⟩
  rw [if_neg d8]
  by_cases d9 : pxP s p = 58
  · rw [if_pos d9]
    by_cases d : 65 ≤ pxP s (p + 1) ∧ pxP s (p + 1) ≤ 90
    · have := pxP_lt (s := s) (p := p + 1) (by omega)
      rw [if_pos d]; exact ⟨by dsimp only; omega, by dsimp only; omega, fun _ => by dsimp only; omega⟩
    · rw [if_neg d]; exact ⟨by dsimp only; omega, by dsimp only; omega, fun _ => by dsimp only; omega⟩
  rw [if_neg d9]
  by_cases d10 : pxP s p = 98 ∨ pxP s p = 84
  · rw [if_pos d10]
    by_cases d : 65 ≤ pxP s (p + 1) ∧ pxP s (p + 1) ≤ 90
    · have := pxP_lt (s := s) (p := p + 1) (by omega)
      rw [if_pos d]; exact ⟨by dsimp only; omega, by dsimp only; omega, fun _ => by dsimp only; omega⟩
    · rw [if_neg d]; exact ⟨by dsimp only; omega, by dsimp only; omega, fun _ => by dsimp only; omega⟩
  rw [if_neg d10]
  by_cases d11 : pxP s p = 115
  · rw [if_pos d11]
    have := pxRep_b (s := s) (p := p + 1) (by omega) (by omega)
    exact ⟨by omega, by omega, fun _ => by omega⟩
  rw [if_neg d11]
  by_cases d12 : pxP s p = 122
  · rw [if_pos d12]
    have := pxTrn_b (s := s) (p := p + 1) (by omega) (by omega)
    exact ⟨by omega, by omega, fun _ => by omega⟩
  rw [if_neg d12]
  exact ⟨Int.le_refl _, h1, fun z => by cases z⟩
section
variable {h : jw_H} {b : Nat} {s : List Int} {p w : Int}
set_option maxHeartbeats 8000000 in
theorem s_X6_readAct {i : Nat} {e : Int} {ins : Bool} (hi : i < 60) (G : pxPG h b s) (hp : pxM h 10 5 = p) (he : pxM h 10 7 = e) (h0 : 0 ≤ p) (h1 : p ≤ s.length) (e0 : 0 ≤ e) (e1 : e ≤ 2 * p) (hw : pxM h (12 + 4 * i) 4 = w) (w0 : 0 ≤ w) (w3 : w ≤ 3) (za : ∀ f, 1 ≤ f → f ≤ 3 → pxM h (15 + 4 * i) f = 0) :
    ((pxActG s p ins w).1 = true → ∃ h', f_X6_readAct h 10 (some (12 + 4 * i)) (pxJ (if ins = true then 1 else 0)) = some (pxJ 1, h') ∧ pxF (pxQt i e) h h' ∧ pxM h' 10 5 = (pxActG s p ins w).2 ∧ pxAk h' s i p ∧ e ≤ pxM h' 10 7 ∧ pxM h' 10 7 ≤ 2 * (pxActG s p ins w).2) ∧
    ((pxActG s p ins w).1 = false → ∃ h', f_X6_readAct h 10 (some (12 + 4 * i)) (pxJ (if ins = true then 1 else 0)) = some (pxJ 0, h') ∧ pxF (pxQt i e) h h' ∧ pxM h' 10 5 = (pxActG s p ins w).2) := by
  have pk := s_X6_peek G hp h0
  have hin := pxP_in G.2.2.2.2.1 p
  have tg := G.1.1
  have n60 := G.2.2.2.2.1.1
  obtain ⟨r1, t5, ra, rb, rc, t13, t14, t15⟩ := G.1.2.2.2.2.2.2.2 i hi
  generalize eC : pxP s p = c at pk hin
  generalize eH : jw_setI h (12 + 4 * i) 3 (pxJ c) = H
  have F0 : pxF (pxQt i e) h H := by rw [← eH]; exact pxF.setI (by unfold pxQt; omega)
  have G0 := G.ft hi F0
  have tg0 := G0.1.1
  obtain ⟨-, u5, ua, ub, uc, u13, u14, u15⟩ := G0.1.2.2.2.2.2.2.2 i hi
  have f3 : pxM H (12 + 4 * i) 3 = c := by rw [← eH]; exact pxM_eq (by omega) (by omega)
  have f4 : pxM H (12 + 4 * i) 4 = w := by rw [← eH, pxM_ne (by omega)]; exact hw
  have hp0 : pxM H 10 5 = p := by rw [← eH, pxM_ne (by omega)]; exact hp
  have he0 : pxM H 10 7 = e := by rw [← eH, pxM_ne (by omega)]; exact he
  have hO := s_X5_holdsOthers u5 f3
  have hS := s_X5_steers u5 f3
  have st : f_X6_readAct h 10 (some (12 + 4 * i)) (pxJ (if ins = true then 1 else 0)) = if (ins = true ∧ (c = 103 ∨ c = 71 ∨ c = 123 ∨ pxSteer c = true)) ∨ (c = 58 ∧ w ≠ 0) then some (pxJ 0, H) else g_X6_readAct_b43 H 10 (some (12 + 4 * i)) (pxJ c) := by
    have b28 : g_X6_readAct_b28 H 10 (some (12 + 4 * i)) (pxJ c) = if c = 58 ∧ w ≠ 0 then some (pxJ 0, H) else g_X6_readAct_b43 H 10 (some (12 + 4 * i)) (pxJ c) := by
      unfold g_X6_readAct_b28
      by_cases c58 : c = 58
      · by_cases cw : w = 0
        · rw [if_neg (show ¬ (c = 58 ∧ w ≠ 0) by omega)]
          simp (disch := first | assumption | omega | (simp only [jw_t_I, px_cpt]; done) | (simp only [jw_t_I, px_cpt]; omega)) only [pxL0, pxL1, pxL2, pxL3, pxL4, pxL5, pxL6, pxL7, pxL8, pxL9, pxL10, pxL11, pxL12, pxL13, pxL14, pxL15, pxL16, pxL17, pxL18, pxL19, pxL20, pxL21, pxL22, pxL23, pxL24, pxL25, pxL26, pxL27, pxL28, pxL29, pxL30, pxL31, pxL32, pxL33, pxL34, pxL35, pxL36, pxL37, pxL38, pxL39, pxL40, pxL41, pxL42, pxL43, pxL44, pxL45, pxL46, pxL47, pxL48, pxL49, pxL51, pxL57, pxL58, pxL59, pxL60, pxL61, pxL62, pxL63, pxL64, pxL65, pxL66, pxL67, pxL68, pxL69, pxL70, pxL71, pxL72, pxL73, pxL74, pxL75, pxL76, pxL77, pxL78, pxL79, pxL80, pxL81, pxL82, pxL83, pxL84, pxL85, pxL86, pxL87, pxL88, pxL89, pxL90, pxL91, pxL92, pxL93, pxL94, pxL95, pxL96, pxL97, pxL98, pxL99, pxL100, pxL101, pxL102, pxL103, pxL104, pxL105, pxL106, pxL107, pxL108, pxL109, pxL110, pxL111, pxL112, pxL113, pxL114, pxL115, pxL116, pxL117, pxL118, pxL119, pxL120, pxL121, pxL122, pxL123, pxL124, pxL125, pxL126, pxL200, pxL240, pxL287, pxL388, pxL400, pxL429, pxL431, pxL440, pxL1240, pxL1600, pxL1681, pxL12028, pxL13849, pxL14880, pxL25173, pxL26908, pxL49600, pxL65535, pxL65536, ↓reduceIte, pxJ_add, pxJ_sub, pxJ_mul, pxJ_neg, pxD_lt_t, pxD_lt_f, pxD_le_t, pxD_le_f, pxD_eq_t, pxD_eq_f, pxJ_lt, pxJ_le, pxJ_eq, px_gI, px_gR, px_pI, px_rc, px_ai, px_ar, px_si, px_ln, px_cp, pxJ_div, pxJ_b8, pxJ_byte, px_b2, px_bs, px_rb0, px_rb1, px_min, px_max, px_compare, pxW_some, jw_t_I, px_cpt, jw_r_I, px_cpr, jw_l_I, px_cpl, Option.some.injEq, f4]
        · rw [if_pos (show c = 58 ∧ w ≠ 0 from ⟨c58, cw⟩)]
          simp (disch := first | assumption | omega | (simp only [jw_t_I, px_cpt]; done) | (simp only [jw_t_I, px_cpt]; omega)) only [pxL0, pxL1, pxL2, pxL3, pxL4, pxL5, pxL6, pxL7, pxL8, pxL9, pxL10, pxL11, pxL12, pxL13, pxL14, pxL15, pxL16, pxL17, pxL18, pxL19, pxL20, pxL21, pxL22, pxL23, pxL24, pxL25, pxL26, pxL27, pxL28, pxL29, pxL30, pxL31, pxL32, pxL33, pxL34, pxL35, pxL36, pxL37, pxL38, pxL39, pxL40, pxL41, pxL42, pxL43, pxL44, pxL45, pxL46, pxL47, pxL48, pxL49, pxL51, pxL57, pxL58, pxL59, pxL60, pxL61, pxL62, pxL63, pxL64, pxL65, pxL66, pxL67, pxL68, pxL69, pxL70, pxL71, pxL72, pxL73, pxL74, pxL75, pxL76, pxL77, pxL78, pxL79, pxL80, pxL81, pxL82, pxL83, pxL84, pxL85, pxL86, pxL87, pxL88, pxL89, pxL90, pxL91, pxL92, pxL93, pxL94, pxL95, pxL96, pxL97, pxL98, pxL99, pxL100, pxL101, pxL102, pxL103, pxL104, pxL105, pxL106, pxL107, pxL108, pxL109, pxL110, pxL111, pxL112, pxL113, pxL114, pxL115, pxL116, pxL117, pxL118, pxL119, pxL120, pxL121, pxL122, pxL123, pxL124, pxL125, pxL126, pxL200, pxL240, pxL287, pxL388, pxL400, pxL429, pxL431, pxL440, pxL1240, pxL1600, pxL1681, pxL12028, pxL13849, pxL14880, pxL25173, pxL26908, pxL49600, pxL65535, pxL65536, ↓reduceIte, pxJ_add, pxJ_sub, pxJ_mul, pxJ_neg, pxD_lt_t, pxD_lt_f, pxD_le_t, pxD_le_f, pxD_eq_t, pxD_eq_f, pxJ_lt, pxJ_le, pxJ_eq, px_gI, px_gR, px_pI, px_rc, px_ai, px_ar, px_si, px_ln, px_cp, pxJ_div, pxJ_b8, pxJ_byte, px_b2, px_bs, px_rb0, px_rb1, px_min, px_max, px_compare, pxW_some, jw_t_I, px_cpt, jw_r_I, px_cpr, jw_l_I, px_cpl, Option.some.injEq, f4]
      · rw [if_neg (show ¬ (c = 58 ∧ w ≠ 0) by omega)]
        simp (disch := first | assumption | omega | (simp only [jw_t_I, px_cpt]; done) | (simp only [jw_t_I, px_cpt]; omega)) only [pxL0, pxL1, pxL2, pxL3, pxL4, pxL5, pxL6, pxL7, pxL8, pxL9, pxL10, pxL11, pxL12, pxL13, pxL14, pxL15, pxL16, pxL17, pxL18, pxL19, pxL20, pxL21, pxL22, pxL23, pxL24, pxL25, pxL26, pxL27, pxL28, pxL29, pxL30, pxL31, pxL32, pxL33, pxL34, pxL35, pxL36, pxL37, pxL38, pxL39, pxL40, pxL41, pxL42, pxL43, pxL44, pxL45, pxL46, pxL47, pxL48, pxL49, pxL51, pxL57, pxL58, pxL59, pxL60, pxL61, pxL62, pxL63, pxL64, pxL65, pxL66, pxL67, pxL68, pxL69, pxL70, pxL71, pxL72, pxL73, pxL74, pxL75, pxL76, pxL77, pxL78, pxL79, pxL80, pxL81, pxL82, pxL83, pxL84, pxL85, pxL86, pxL87, pxL88, pxL89, pxL90, pxL91, pxL92, pxL93, pxL94, pxL95, pxL96, pxL97, pxL98, pxL99, pxL100, pxL101, pxL102, pxL103, pxL104, pxL105, pxL106, pxL107, pxL108, pxL109, pxL110, pxL111, pxL112, pxL113, pxL114, pxL115, pxL116, pxL117, pxL118, pxL119, pxL120, pxL121, pxL122, pxL123, pxL124, pxL125, pxL126, pxL200, pxL240, pxL287, pxL388, pxL400, pxL429, pxL431, pxL440, pxL1240, pxL1600, pxL1681, pxL12028, pxL13849, pxL14880, pxL25173, pxL26908, pxL49600, pxL65535, pxL65536, ↓reduceIte, pxJ_add, pxJ_sub, pxJ_mul, pxJ_neg, pxD_lt_t, pxD_lt_f, pxD_le_t, pxD_le_f, pxD_eq_t, pxD_eq_f, pxJ_lt, pxJ_le, pxJ_eq, px_gI, px_gR, px_pI, px_rc, px_ai, px_ar, px_si, px_ln, px_cp, pxJ_div, pxJ_b8, pxJ_byte, px_b2, px_bs, px_rb0, px_rb1, px_min, px_max, px_compare, pxW_some, jw_t_I, px_cpt, jw_r_I, px_cpr, jw_l_I, px_cpl, Option.some.injEq, f4]
    unfold f_X6_readAct
    cases ins with
    | false =>
      rw [show (if false = true then (1 : Int) else 0) = 0 from rfl]
      simp only [Bool.false_eq_true, false_and, false_or]
      rw [← b28]
      simp (disch := first | assumption | omega | (simp only [jw_t_I, px_cpt]; done) | (simp only [jw_t_I, px_cpt]; omega)) only [pxL0, pxL1, pxL2, pxL3, pxL4, pxL5, pxL6, pxL7, pxL8, pxL9, pxL10, pxL11, pxL12, pxL13, pxL14, pxL15, pxL16, pxL17, pxL18, pxL19, pxL20, pxL21, pxL22, pxL23, pxL24, pxL25, pxL26, pxL27, pxL28, pxL29, pxL30, pxL31, pxL32, pxL33, pxL34, pxL35, pxL36, pxL37, pxL38, pxL39, pxL40, pxL41, pxL42, pxL43, pxL44, pxL45, pxL46, pxL47, pxL48, pxL49, pxL51, pxL57, pxL58, pxL59, pxL60, pxL61, pxL62, pxL63, pxL64, pxL65, pxL66, pxL67, pxL68, pxL69, pxL70, pxL71, pxL72, pxL73, pxL74, pxL75, pxL76, pxL77, pxL78, pxL79, pxL80, pxL81, pxL82, pxL83, pxL84, pxL85, pxL86, pxL87, pxL88, pxL89, pxL90, pxL91, pxL92, pxL93, pxL94, pxL95, pxL96, pxL97, pxL98, pxL99, pxL100, pxL101, pxL102, pxL103, pxL104, pxL105, pxL106, pxL107, pxL108, pxL109, pxL110, pxL111, pxL112, pxL113, pxL114, pxL115, pxL116, pxL117, pxL118, pxL119, pxL120, pxL121, pxL122, pxL123, pxL124, pxL125, pxL126, pxL200, pxL240, pxL287, pxL388, pxL400, pxL429, pxL431, pxL440, pxL1240, pxL1600, pxL1681, pxL12028, pxL13849, pxL14880, pxL25173, pxL26908, pxL49600, pxL65535, pxL65536, ↓reduceIte, pxJ_add, pxJ_sub, pxJ_mul, pxJ_neg, pxD_lt_t, pxD_lt_f, pxD_le_t, pxD_le_f, pxD_eq_t, pxD_eq_f, pxJ_lt, pxJ_le, pxJ_eq, px_gI, px_gR, px_pI, px_rc, px_ai, px_ar, px_si, px_ln, px_cp, pxJ_div, pxJ_b8, pxJ_byte, px_b2, px_bs, px_rb0, px_rb1, px_min, px_max, px_compare, pxW_some, jw_t_I, px_cpt, jw_r_I, px_cpr, jw_l_I, px_cpl, Option.some.injEq, pk, eH]
    | true =>
      rw [show (if true = true then (1 : Int) else 0) = 1 from rfl]
      simp only [true_and]
      by_cases cO : c = 103 ∨ c = 71 ∨ c = 123
      · rw [if_pos (show (c = 103 ∨ c = 71 ∨ c = 123 ∨ pxSteer c = true) ∨ (c = 58 ∧ w ≠ 0) by omega)]
        rw [if_pos cO] at hO
        simp (disch := first | assumption | omega | (simp only [jw_t_I, px_cpt]; done) | (simp only [jw_t_I, px_cpt]; omega)) only [pxL0, pxL1, pxL2, pxL3, pxL4, pxL5, pxL6, pxL7, pxL8, pxL9, pxL10, pxL11, pxL12, pxL13, pxL14, pxL15, pxL16, pxL17, pxL18, pxL19, pxL20, pxL21, pxL22, pxL23, pxL24, pxL25, pxL26, pxL27, pxL28, pxL29, pxL30, pxL31, pxL32, pxL33, pxL34, pxL35, pxL36, pxL37, pxL38, pxL39, pxL40, pxL41, pxL42, pxL43, pxL44, pxL45, pxL46, pxL47, pxL48, pxL49, pxL51, pxL57, pxL58, pxL59, pxL60, pxL61, pxL62, pxL63, pxL64, pxL65, pxL66, pxL67, pxL68, pxL69, pxL70, pxL71, pxL72, pxL73, pxL74, pxL75, pxL76, pxL77, pxL78, pxL79, pxL80, pxL81, pxL82, pxL83, pxL84, pxL85, pxL86, pxL87, pxL88, pxL89, pxL90, pxL91, pxL92, pxL93, pxL94, pxL95, pxL96, pxL97, pxL98, pxL99, pxL100, pxL101, pxL102, pxL103, pxL104, pxL105, pxL106, pxL107, pxL108, pxL109, pxL110, pxL111, pxL112, pxL113, pxL114, pxL115, pxL116, pxL117, pxL118, pxL119, pxL120, pxL121, pxL122, pxL123, pxL124, pxL125, pxL126, pxL200, pxL240, pxL287, pxL388, pxL400, pxL429, pxL431, pxL440, pxL1240, pxL1600, pxL1681, pxL12028, pxL13849, pxL14880, pxL25173, pxL26908, pxL49600, pxL65535, pxL65536, ↓reduceIte, pxJ_add, pxJ_sub, pxJ_mul, pxJ_neg, pxD_lt_t, pxD_lt_f, pxD_le_t, pxD_le_f, pxD_eq_t, pxD_eq_f, pxJ_lt, pxJ_le, pxJ_eq, px_gI, px_gR, px_pI, px_rc, px_ai, px_ar, px_si, px_ln, px_cp, pxJ_div, pxJ_b8, pxJ_byte, px_b2, px_bs, px_rb0, px_rb1, px_min, px_max, px_compare, pxW_some, jw_t_I, px_cpt, jw_r_I, px_cpr, jw_l_I, px_cpl, Option.some.injEq, pk, eH, hO]
      · rw [if_neg cO] at hO
        by_cases cS : pxSteer c = true
        · rw [if_pos (show (c = 103 ∨ c = 71 ∨ c = 123 ∨ pxSteer c = true) ∨ (c = 58 ∧ w ≠ 0) from Or.inl (Or.inr (Or.inr (Or.inr cS))))]
          rw [if_pos cS] at hS
          simp (disch := first | assumption | omega | (simp only [jw_t_I, px_cpt]; done) | (simp only [jw_t_I, px_cpt]; omega)) only [pxL0, pxL1, pxL2, pxL3, pxL4, pxL5, pxL6, pxL7, pxL8, pxL9, pxL10, pxL11, pxL12, pxL13, pxL14, pxL15, pxL16, pxL17, pxL18, pxL19, pxL20, pxL21, pxL22, pxL23, pxL24, pxL25, pxL26, pxL27, pxL28, pxL29, pxL30, pxL31, pxL32, pxL33, pxL34, pxL35, pxL36, pxL37, pxL38, pxL39, pxL40, pxL41, pxL42, pxL43, pxL44, pxL45, pxL46, pxL47, pxL48, pxL49, pxL51, pxL57, pxL58, pxL59, pxL60, pxL61, pxL62, pxL63, pxL64, pxL65, pxL66, pxL67, pxL68, pxL69, pxL70, pxL71, pxL72, pxL73, pxL74, pxL75, pxL76, pxL77, pxL78, pxL79, pxL80, pxL81, pxL82, pxL83, pxL84, pxL85, pxL86, pxL87, pxL88, pxL89, pxL90, pxL91, pxL92, pxL93, pxL94, pxL95, pxL96, pxL97, pxL98, pxL99, pxL100, pxL101, pxL102, pxL103, pxL104, pxL105, pxL106, pxL107, pxL108, pxL109, pxL110, pxL111, pxL112, pxL113, pxL114, pxL115, pxL116, pxL117, pxL118, pxL119, pxL120, pxL121, pxL122, pxL123, pxL124, pxL125, pxL126, pxL200, pxL240, pxL287, pxL388, pxL400, pxL429, pxL431, pxL440, pxL1240, pxL1600, pxL1681, pxL12028, pxL13849, pxL14880, pxL25173, pxL26908, pxL49600, pxL65535, pxL65536, ↓reduceIte, pxJ_add, pxJ_sub, pxJ_mul, pxJ_neg, pxD_lt_t, pxD_lt_f, pxD_le_t, pxD_le_f, pxD_eq_t, pxD_eq_f, pxJ_lt, pxJ_le, pxJ_eq, px_gI, px_gR, px_pI, px_rc, px_ai, px_ar, px_si, px_ln, px_cp, pxJ_div, pxJ_b8, pxJ_byte, px_b2, px_bs, px_rb0, px_rb1, px_min, px_max, px_compare, pxW_some, jw_t_I, px_cpt, jw_r_I, px_cpr, jw_l_I, px_cpl, Option.some.injEq, pk, eH, hO, hS]
        · rw [if_neg cS] at hS
          have n58 : ¬ c = 58 := fun z => cS (pxSteer_i.mpr (Or.inl z))
          have nn : ¬ ((c = 103 ∨ c = 71 ∨ c = 123 ∨ pxSteer c = true) ∨ (c = 58 ∧ w ≠ 0)) := by
            rintro ((z | z | z | z) | z)
            · omega
            · omega
            · omega
            · exact cS z
            · omega
          rw [if_neg nn, ← (show _ = g_X6_readAct_b43 H 10 (some (12 + 4 * i)) (pxJ c) from b28.trans (if_neg (by omega)))]
          simp (disch := first | assumption | omega | (simp only [jw_t_I, px_cpt]; done) | (simp only [jw_t_I, px_cpt]; omega)) only [pxL0, pxL1, pxL2, pxL3, pxL4, pxL5, pxL6, pxL7, pxL8, pxL9, pxL10, pxL11, pxL12, pxL13, pxL14, pxL15, pxL16, pxL17, pxL18, pxL19, pxL20, pxL21, pxL22, pxL23, pxL24, pxL25, pxL26, pxL27, pxL28, pxL29, pxL30, pxL31, pxL32, pxL33, pxL34, pxL35, pxL36, pxL37, pxL38, pxL39, pxL40, pxL41, pxL42, pxL43, pxL44, pxL45, pxL46, pxL47, pxL48, pxL49, pxL51, pxL57, pxL58, pxL59, pxL60, pxL61, pxL62, pxL63, pxL64, pxL65, pxL66, pxL67, pxL68, pxL69, pxL70, pxL71, pxL72, pxL73, pxL74, pxL75, pxL76, pxL77, pxL78, pxL79, pxL80, pxL81, pxL82, pxL83, pxL84, pxL85, pxL86, pxL87, pxL88, pxL89, pxL90, pxL91, pxL92, pxL93, pxL94, pxL95, pxL96, pxL97, pxL98, pxL99, pxL100, pxL101, pxL102, pxL103, pxL104, pxL105, pxL106, pxL107, pxL108, pxL109, pxL110, pxL111, pxL112, pxL113, pxL114, pxL115, pxL116, pxL117, pxL118, pxL119, pxL120, pxL121, pxL122, pxL123, pxL124, pxL125, pxL126, pxL200, pxL240, pxL287, pxL388, pxL400, pxL429, pxL431, pxL440, pxL1240, pxL1600, pxL1681, pxL12028, pxL13849, pxL14880, pxL25173, pxL26908, pxL49600, pxL65535, pxL65536, ↓reduceIte, pxJ_add, pxJ_sub, pxJ_mul, pxJ_neg, pxD_lt_t, pxD_lt_f, pxD_le_t, pxD_le_f, pxD_eq_t, pxD_eq_f, pxJ_lt, pxJ_le, pxJ_eq, px_gI, px_gR, px_pI, px_rc, px_ai, px_ar, px_si, px_ln, px_cp, pxJ_div, pxJ_b8, pxJ_byte, px_b2, px_bs, px_rb0, px_rb1, px_min, px_max, px_compare, pxW_some, jw_t_I, px_cpt, jw_r_I, px_cpr, jw_l_I, px_cpl, Option.some.injEq, pk, eH, hO, hS]
  rw [st]
  unfold pxActG
  rw [eC]
  by_cases c0 : (ins = true ∧ (c = 103 ∨ c = 71 ∨ c = 123 ∨ pxSteer c = true)) ∨ (c = 58 ∧ w ≠ 0)
  · rw [if_pos c0, if_pos c0]
    exact ⟨fun z => (by cases z), fun _ => ⟨H, rfl, F0, hp0⟩⟩
  rw [if_neg c0, if_neg c0, px_tab (by omega) (by omega)]
  clear st hO hS
  have ee : jw_setI H 10 5 (pxJ (p + 1)) = pxPl H (p + 1) := rfl
  have F1 : pxF (pxQt i e) h (pxPl H (p + 1)) := F0.trans (pxPl_F.mono (fun k f z => by unfold pxQt; omega))
  have G1 : pxPG (pxPl H (p + 1)) b s := pxPl_G G0
  have tg1 := G1.1.1
  have v5 : (jw_t (pxPl H (p + 1)) (12 + 4 * i)).1 = 5 := u5
  have vc : jw_r (pxPl H (p + 1)) (12 + 4 * i) 2 = some (15 + 4 * i) := uc
  have v15 : (jw_t (pxPl H (p + 1)) (15 + 4 * i)).1 = 0 := u15
  have k3 : pxM (pxPl H (p + 1)) (12 + 4 * i) 3 = c := by rw [pxPl_n (by omega)]; exact f3
  have he1 : pxM (pxPl H (p + 1)) 10 7 = e := by rw [pxPl_n (by omega)]; exact he0
  by_cases ne : c = -1
  · subst ne
    have q : ∀ (A B C D E F I J K L : Option (Int32 × jw_H)), (if (-1 : Int) = 97 ∨ (-1 : Int) = 105 ∨ (-1 : Int) = 99 then A
    else if (-1 : Int) = 100 ∨ (-1 : Int) = 106 ∨ (-1 : Int) = 108 ∨ (-1 : Int) = 112 ∨ (-1 : Int) = 61 ∨ (-1 : Int) = 110 ∨ (-1 : Int) = 104 ∨ (-1 : Int) = 72 ∨ (-1 : Int) = 117 ∨ (-1 : Int) = 101 ∨ (-1 : Int) = 113 ∨ (-1 : Int) = 78 ∨ (-1 : Int) = 123 then B
    else if (-1 : Int) = 118 ∨ (-1 : Int) = 62 ∨ (-1 : Int) = 60 ∨ (-1 : Int) = 111 ∨ (-1 : Int) = 79 then C
    else if (-1 : Int) = 109 ∨ (-1 : Int) = 116 then D
    else if (-1 : Int) = 107 then E
    else if (-1 : Int) = 114 ∨ (-1 : Int) = 119 then F
    else if (-1 : Int) = 58 ∨ (-1 : Int) = 98 ∨ (-1 : Int) = 84 then I
    else if (-1 : Int) = 115 then J
    else if (-1 : Int) = 122 then K
    else if (-1 : Int) = 103 ∨ (-1 : Int) = 71 then L
    else some (pxJ 0, H)) = some (pxJ 0, H) := fun _ _ _ _ _ _ _ _ _ _ => rfl
    rw [q]
    have d1 : ¬ (-1 : Int) = 123 := by omega
    have d2 : ¬ ((-1 : Int) = 103 ∨ (-1 : Int) = 71) := by omega
    rw [if_neg d1, if_neg d2]
    unfold pxAct
    rw [eC]
    exact ⟨fun z => absurd z (by simp), fun _ => ⟨H, rfl, F0, by simpa using hp0⟩⟩
  have lt := pxP_lt (s := s) (p := p) (by omega)
  have hp1 : pxM (pxPl H (p + 1)) 10 5 = p + 1 := pxPl_p (by omega) (by omega)
  -- how an act is kept
  have mk : ∀ {h' : jw_H}, pxM h' (12 + 4 * i) 3 = c → (pxOnA c → pxM h' (12 + 4 * i) 5 = pxOn s p) → (pxOtA c → pxM h' (12 + 4 * i) 7 = pxOfr s p ∧ pxM h' (12 + 4 * i) 8 = pxOto s p) → (c = 115 ∨ c = 103 ∨ c = 71 → 0 ≤ pxM h' (12 + 4 * i) 6 ∧ pxM h' (12 + 4 * i) 6 + (pxFull s (p + 2)).length ≤ pxM h' 10 7 ∧ pxEls h' s (pxM h' (12 + 4 * i) 6) (pxFull s (p + 2))) → (c = 109 ∨ c = 116 → pxAd h' s (15 + 4 * i) (p + 1)) → pxAk h' s i p := by
    intro h' y1 y2 y3 y4 y5
    unfold pxAk
    rw [eC]
    exact ⟨y1, y2, y3, y4, y5⟩
  have pA : pxAct s p = if c = 97 ∨ c = 105 ∨ c = 99 then pxRowsE s 61 0 (p + 1)
      else if c = 100 ∨ c = 106 ∨ c = 108 ∨ c = 112 ∨ c = 61 ∨ c = 110 ∨ c = 104 ∨ c = 72 ∨ c = 117 ∨ c = 101 ∨ c = 113 ∨ c = 78 then (true, p + 1)
      else if c = 118 ∨ c = 62 ∨ c = 60 ∨ c = 111 ∨ c = 79 then pxNum s (p + 1)
      else if c = 109 ∨ c = 116 then pxAddr s (p + 1)
      else if c = 107 then (if 97 ≤ pxP s (p + 1) ∧ pxP s (p + 1) ≤ 101 then (true, p + 2) else (false, p + 1))
      else if c = 114 ∨ c = 119 then (if 48 ≤ pxP s (p + 1) ∧ pxP s (p + 1) ≤ 51 then (true, p + 2) else (false, p + 1))
      else if c = 58 then (if 65 ≤ pxP s (p + 1) ∧ pxP s (p + 1) ≤ 90 then (true, p + 2) else (false, p + 1))
      else if c = 98 ∨ c = 84 then (true, if 65 ≤ pxP s (p + 1) ∧ pxP s (p + 1) ≤ 90 then p + 2 else p + 1)
      else if c = 115 then pxRep s (p + 1)
      else if c = 122 then pxTrn s (p + 1)
      else (false, p) := by unfold pxAct; rw [eC]
  by_cases d1 : c = 97 ∨ c = 105 ∨ c = 99
  · rw [if_pos d1, if_neg (show ¬ c = 123 by omega), if_neg (show ¬ (c = 103 ∨ c = 71) by omega), pA, if_pos d1]
    obtain ⟨y1, y2⟩ := s_X6_readRows hi G1 hp1 (by omega) (by omega)
    have rb := pxRowsE_b (s := s) 61 0 (p + 1) (by omega) (by omega)
    have Fm : ∀ {h' : jw_H}, pxF (fun k f => (k = 10 ∧ f = 5) ∨ (k = 12 + 4 * i ∧ (f = 7 ∨ f = 8))) (pxPl H (p + 1)) h' → pxF (pxQt i e) h h' := fun w2 => F1.trans (w2.mono (fun k f z => by unfold pxQt; omega))
    unfold g_X6_readAct_b324
    refine ⟨fun z => ?_, fun z => ?_⟩
    · obtain ⟨h2, w1, w2, w3, w4, w5⟩ := y1 z
      refine ⟨h2, ?_, Fm w2, w3, mk (by rw [w2.m (by omega)]; exact k3) (fun z => ?_) (fun z => ?_) (fun z => ?_) (fun z => ?_), ?_, ?_⟩
      · simp (disch := first | assumption | omega | (simp only [jw_t_I, px_cpt]; done) | (simp only [jw_t_I, px_cpt]; omega)) only [pxL0, pxL1, pxL2, pxL3, pxL4, pxL5, pxL6, pxL7, pxL8, pxL9, pxL10, pxL11, pxL12, pxL13, pxL14, pxL15, pxL16, pxL17, pxL18, pxL19, pxL20, pxL21, pxL22, pxL23, pxL24, pxL25, pxL26, pxL27, pxL28, pxL29, pxL30, pxL31, pxL32, pxL33, pxL34, pxL35, pxL36, pxL37, pxL38, pxL39, pxL40, pxL41, pxL42, pxL43, pxL44, pxL45, pxL46, pxL47, pxL48, pxL49, pxL51, pxL57, pxL58, pxL59, pxL60, pxL61, pxL62, pxL63, pxL64, pxL65, pxL66, pxL67, pxL68, pxL69, pxL70, pxL71, pxL72, pxL73, pxL74, pxL75, pxL76, pxL77, pxL78, pxL79, pxL80, pxL81, pxL82, pxL83, pxL84, pxL85, pxL86, pxL87, pxL88, pxL89, pxL90, pxL91, pxL92, pxL93, pxL94, pxL95, pxL96, pxL97, pxL98, pxL99, pxL100, pxL101, pxL102, pxL103, pxL104, pxL105, pxL106, pxL107, pxL108, pxL109, pxL110, pxL111, pxL112, pxL113, pxL114, pxL115, pxL116, pxL117, pxL118, pxL119, pxL120, pxL121, pxL122, pxL123, pxL124, pxL125, pxL126, pxL200, pxL240, pxL287, pxL388, pxL400, pxL429, pxL431, pxL440, pxL1240, pxL1600, pxL1681, pxL12028, pxL13849, pxL14880, pxL25173, pxL26908, pxL49600, pxL65535, pxL65536, ↓reduceIte, pxJ_add, pxJ_sub, pxJ_mul, pxJ_neg, pxD_lt_t, pxD_lt_f, pxD_le_t, pxD_le_f, pxD_eq_t, pxD_eq_f, pxJ_lt, pxJ_le, pxJ_eq, px_gI, px_gR, px_pI, px_rc, px_ai, px_ar, px_si, px_ln, px_cp, pxJ_div, pxJ_b8, pxJ_byte, px_b2, px_bs, px_rb0, px_rb1, px_min, px_max, px_compare, pxW_some, jw_t_I, px_cpt, jw_r_I, px_cpr, jw_l_I, px_cpl, Option.some.injEq, hp0, ee, w1]
      · exfalso; unfold pxOnA at z; omega
      · rw [w4, w5]
        unfold pxOfr pxOto
        rw [eC, if_neg (show ¬ c = 115 by omega), if_neg (show ¬ c = 122 by omega), if_neg (show ¬ c = 115 by omega), if_neg (show ¬ c = 122 by omega)]
        exact ⟨rfl, rfl⟩
      · exfalso; omega
      · exfalso; omega
      · rw [w2.m (by omega), he1]; exact Int.le_refl _
      · rw [w2.m (by omega), he1]; omega
    · obtain ⟨h2, w1, w2, w3⟩ := y2 z
      refine ⟨h2, ?_, Fm w2, w3⟩
      simp (disch := first | assumption | omega | (simp only [jw_t_I, px_cpt]; done) | (simp only [jw_t_I, px_cpt]; omega)) only [pxL0, pxL1, pxL2, pxL3, pxL4, pxL5, pxL6, pxL7, pxL8, pxL9, pxL10, pxL11, pxL12, pxL13, pxL14, pxL15, pxL16, pxL17, pxL18, pxL19, pxL20, pxL21, pxL22, pxL23, pxL24, pxL25, pxL26, pxL27, pxL28, pxL29, pxL30, pxL31, pxL32, pxL33, pxL34, pxL35, pxL36, pxL37, pxL38, pxL39, pxL40, pxL41, pxL42, pxL43, pxL44, pxL45, pxL46, pxL47, pxL48, pxL49, pxL51, pxL57, pxL58, pxL59, pxL60, pxL61, pxL62, pxL63, pxL64, pxL65, pxL66, pxL67, pxL68, pxL69, pxL70, pxL71, pxL72, pxL73, pxL74, pxL75, pxL76, pxL77, pxL78, pxL79, pxL80, pxL81, pxL82, pxL83, pxL84, pxL85, pxL86, pxL87, pxL88, pxL89, pxL90, pxL91, pxL92, pxL93, pxL94, pxL95, pxL96, pxL97, pxL98, pxL99, pxL100, pxL101, pxL102, pxL103, pxL104, pxL105, pxL106, pxL107, pxL108, pxL109, pxL110, pxL111, pxL112, pxL113, pxL114, pxL115, pxL116, pxL117, pxL118, pxL119, pxL120, pxL121, pxL122, pxL123, pxL124, pxL125, pxL126, pxL200, pxL240, pxL287, pxL388, pxL400, pxL429, pxL431, pxL440, pxL1240, pxL1600, pxL1681, pxL12028, pxL13849, pxL14880, pxL25173, pxL26908, pxL49600, pxL65535, pxL65536, ↓reduceIte, pxJ_add, pxJ_sub, pxJ_mul, pxJ_neg, pxD_lt_t, pxD_lt_f, pxD_le_t, pxD_le_f, pxD_eq_t, pxD_eq_f, pxJ_lt, pxJ_le, pxJ_eq, px_gI, px_gR, px_pI, px_rc, px_ai, px_ar, px_si, px_ln, px_cp, pxJ_div, pxJ_b8, pxJ_byte, px_b2, px_bs, px_rb0, px_rb1, px_min, px_max, px_compare, pxW_some, jw_t_I, px_cpt, jw_r_I, px_cpr, jw_l_I, px_cpl, Option.some.injEq, hp0, ee, w1]
  rw [if_neg d1]
  rw [if_neg d1] at pA
  by_cases d2 : c = 100 ∨ c = 106 ∨ c = 108 ∨ c = 112 ∨ c = 61 ∨ c = 110 ∨ c = 104 ∨ c = 72 ∨ c = 117 ∨ c = 101 ∨ c = 113 ∨ c = 78 ∨ c = 123
  · rw [if_pos d2]
    have eA : (if c = 123 then (true, p + 1) else if c = 103 ∨ c = 71 then pxPtn s (p + 1) else pxAct s p) = (true, p + 1) := by
      by_cases d : c = 123
      · rw [if_pos d]
      · rw [if_neg d, if_neg (show ¬ (c = 103 ∨ c = 71) by omega), pA, if_pos (show c = 100 ∨ c = 106 ∨ c = 108 ∨ c = 112 ∨ c = 61 ∨ c = 110 ∨ c = 104 ∨ c = 72 ∨ c = 117 ∨ c = 101 ∨ c = 113 ∨ c = 78 by omega)]
    rw [eA]
    unfold g_X6_readAct_b340
    refine ⟨fun _ => ⟨pxPl H (p + 1), ?_, F1, hp1, mk k3 (fun z => ?_) (fun z => ?_) (fun z => ?_) (fun z => ?_), ?_, ?_⟩, fun z => (by cases z)⟩
    · simp (disch := first | assumption | omega | (simp only [jw_t_I, px_cpt]; done) | (simp only [jw_t_I, px_cpt]; omega)) only [pxL0, pxL1, pxL2, pxL3, pxL4, pxL5, pxL6, pxL7, pxL8, pxL9, pxL10, pxL11, pxL12, pxL13, pxL14, pxL15, pxL16, pxL17, pxL18, pxL19, pxL20, pxL21, pxL22, pxL23, pxL24, pxL25, pxL26, pxL27, pxL28, pxL29, pxL30, pxL31, pxL32, pxL33, pxL34, pxL35, pxL36, pxL37, pxL38, pxL39, pxL40, pxL41, pxL42, pxL43, pxL44, pxL45, pxL46, pxL47, pxL48, pxL49, pxL51, pxL57, pxL58, pxL59, pxL60, pxL61, pxL62, pxL63, pxL64, pxL65, pxL66, pxL67, pxL68, pxL69, pxL70, pxL71, pxL72, pxL73, pxL74, pxL75, pxL76, pxL77, pxL78, pxL79, pxL80, pxL81, pxL82, pxL83, pxL84, pxL85, pxL86, pxL87, pxL88, pxL89, pxL90, pxL91, pxL92, pxL93, pxL94, pxL95, pxL96, pxL97, pxL98, pxL99, pxL100, pxL101, pxL102, pxL103, pxL104, pxL105, pxL106, pxL107, pxL108, pxL109, pxL110, pxL111, pxL112, pxL113, pxL114, pxL115, pxL116, pxL117, pxL118, pxL119, pxL120, pxL121, pxL122, pxL123, pxL124, pxL125, pxL126, pxL200, pxL240, pxL287, pxL388, pxL400, pxL429, pxL431, pxL440, pxL1240, pxL1600, pxL1681, pxL12028, pxL13849, pxL14880, pxL25173, pxL26908, pxL49600, pxL65535, pxL65536, ↓reduceIte, pxJ_add, pxJ_sub, pxJ_mul, pxJ_neg, pxD_lt_t, pxD_lt_f, pxD_le_t, pxD_le_f, pxD_eq_t, pxD_eq_f, pxJ_lt, pxJ_le, pxJ_eq, px_gI, px_gR, px_pI, px_rc, px_ai, px_ar, px_si, px_ln, px_cp, pxJ_div, pxJ_b8, pxJ_byte, px_b2, px_bs, px_rb0, px_rb1, px_min, px_max, px_compare, pxW_some, jw_t_I, px_cpt, jw_r_I, px_cpr, jw_l_I, px_cpl, Option.some.injEq, hp0, ee]
    · exfalso; unfold pxOnA at z; omega
    · exfalso; unfold pxOtA at z; omega
    · exfalso; omega
    · exfalso; omega
    · rw [he1]; exact Int.le_refl _
    · rw [he1]; dsimp only; omega
  rw [if_neg d2, if_neg (show ¬ c = 123 by omega)]
  rw [if_neg (show ¬ (c = 100 ∨ c = 106 ∨ c = 108 ∨ c = 112 ∨ c = 61 ∨ c = 110 ∨ c = 104 ∨ c = 72 ∨ c = 117 ∨ c = 101 ∨ c = 113 ∨ c = 78) by omega)] at pA
  -- a number is noted in field 5
  have num : ∀ {h' : jw_H} {v q : Int}, h' = jw_setI (pxPl (pxPl H (p + 1)) q) (12 + 4 * i) 5 (pxJ v) → p + 1 ≤ q → q ≤ s.length → -1 ≤ v → v ≤ 1000 → (c = 118 ∨ c = 62 ∨ c = 60 ∨ c = 111 ∨ c = 79 ∨ c = 107 ∨ c = 114 ∨ c = 119 ∨ c = 58 ∨ c = 98 ∨ c = 84) → v = pxOn s p → pxF (pxQt i e) h h' ∧ pxM h' 10 5 = q ∧ pxAk h' s i p ∧ e ≤ pxM h' 10 7 ∧ pxM h' 10 7 ≤ 2 * q := by
    intro h' v q eh q1 q2 v1 v2 ca ev
    subst eh
    refine ⟨(F1.trans (pxPl_F.mono (fun k f z => by unfold pxQt; omega))).trans (pxF.setI (by unfold pxQt; omega)), by simp (disch := omega) only [pxM_ne, pxM_eq, pxPl_p, pxPl_n], mk ?_ (fun z => ?_) (fun z => ?_) (fun z => ?_) (fun z => ?_), ?_, ?_⟩
    · simp (disch := omega) only [pxM_ne, pxM_eq, pxPl_p, pxPl_n]
      exact f3
    · rw [← ev]; simp (disch := omega) only [pxM_ne, pxM_eq, pxPl_p, pxPl_n]
    · exfalso; unfold pxOtA at z; omega
    · exfalso; omega
    · exfalso; omega
    · simp (disch := omega) only [pxM_ne, pxM_eq, pxPl_p, pxPl_n]
      omega
    · simp (disch := omega) only [pxM_ne, pxM_eq, pxPl_p, pxPl_n]
      omega
  have numF : ∀ {h' : jw_H} {v q : Int}, h' = jw_setI (pxPl (pxPl H (p + 1)) q) (12 + 4 * i) 5 (pxJ v) → 0 ≤ q → q ≤ s.length → pxF (pxQt i e) h h' ∧ pxM h' 10 5 = q := by
    intro h' v q eh q1 q2
    subst eh
    exact ⟨(F1.trans (pxPl_F.mono (fun k f z => by unfold pxQt; omega))).trans (pxF.setI (by unfold pxQt; omega)), by simp (disch := omega) only [pxM_ne, pxM_eq, pxPl_p, pxPl_n]⟩
  by_cases d3 : c = 118 ∨ c = 62 ∨ c = 60 ∨ c = 111 ∨ c = 79
  · rw [if_pos d3, if_neg (show ¬ (c = 103 ∨ c = 71) by omega), pA, if_pos d3]
    have rn := s_X6_readNumber G1 hp1 (by omega)
    have nb := pxNum_b (s := s) (p := p + 1) (by omega) (by omega)
    have x1 : pxOn s p = pxNumV s (p + 1) := by
      unfold pxOn
      rw [eC, if_neg (show ¬ c = 107 by omega), if_neg (show ¬ (c = 114 ∨ c = 119) by omega), if_neg (show ¬ (c = 58 ∨ c = 98 ∨ c = 84) by omega), if_neg (show ¬ c = 115 by omega), if_neg (show ¬ c = 122 by omega)]
    have x5 : (jw_t (pxPl (pxPl H (p + 1)) (pxNum s (p + 1)).2) (12 + 4 * i)).1 = 5 := u5
    unfold g_X6_readAct_b352 g_X6_readAct_b383
    refine ⟨fun z => ?_, fun z => ?_⟩
    · have vb := pxNumV_b z
      rw [if_pos z] at rn
      have back : pxM (jw_setI (pxPl (pxPl H (p + 1)) (pxNum s (p + 1)).2) (12 + 4 * i) 5 (pxJ (pxNumV s (p + 1)))) (12 + 4 * i) 5 = pxNumV s (p + 1) := pxM_eq (by omega) (by omega)
      refine ⟨_, ?_, num rfl (by omega) (by omega) (by omega) (by omega) (by omega) x1.symm⟩
      simp (disch := first | assumption | omega | (simp only [jw_t_I, px_cpt]; done) | (simp only [jw_t_I, px_cpt]; omega)) only [pxL0, pxL1, pxL2, pxL3, pxL4, pxL5, pxL6, pxL7, pxL8, pxL9, pxL10, pxL11, pxL12, pxL13, pxL14, pxL15, pxL16, pxL17, pxL18, pxL19, pxL20, pxL21, pxL22, pxL23, pxL24, pxL25, pxL26, pxL27, pxL28, pxL29, pxL30, pxL31, pxL32, pxL33, pxL34, pxL35, pxL36, pxL37, pxL38, pxL39, pxL40, pxL41, pxL42, pxL43, pxL44, pxL45, pxL46, pxL47, pxL48, pxL49, pxL51, pxL57, pxL58, pxL59, pxL60, pxL61, pxL62, pxL63, pxL64, pxL65, pxL66, pxL67, pxL68, pxL69, pxL70, pxL71, pxL72, pxL73, pxL74, pxL75, pxL76, pxL77, pxL78, pxL79, pxL80, pxL81, pxL82, pxL83, pxL84, pxL85, pxL86, pxL87, pxL88, pxL89, pxL90, pxL91, pxL92, pxL93, pxL94, pxL95, pxL96, pxL97, pxL98, pxL99, pxL100, pxL101, pxL102, pxL103, pxL104, pxL105, pxL106, pxL107, pxL108, pxL109, pxL110, pxL111, pxL112, pxL113, pxL114, pxL115, pxL116, pxL117, pxL118, pxL119, pxL120, pxL121, pxL122, pxL123, pxL124, pxL125, pxL126, pxL200, pxL240, pxL287, pxL388, pxL400, pxL429, pxL431, pxL440, pxL1240, pxL1600, pxL1681, pxL12028, pxL13849, pxL14880, pxL25173, pxL26908, pxL49600, pxL65535, pxL65536, ↓reduceIte, pxJ_add, pxJ_sub, pxJ_mul, pxJ_neg, pxD_lt_t, pxD_lt_f, pxD_le_t, pxD_le_f, pxD_eq_t, pxD_eq_f, pxJ_lt, pxJ_le, pxJ_eq, px_gI, px_gR, px_pI, px_rc, px_ai, px_ar, px_si, px_ln, px_cp, pxJ_div, pxJ_b8, pxJ_byte, px_b2, px_bs, px_rb0, px_rb1, px_min, px_max, px_compare, pxW_some, jw_t_I, px_cpt, jw_r_I, px_cpr, jw_l_I, px_cpl, Option.some.injEq, hp0, ee, rn, back]
    · rw [if_neg (by rw [z]; simp)] at rn
      have back : pxM (jw_setI (pxPl (pxPl H (p + 1)) (pxNum s (p + 1)).2) (12 + 4 * i) 5 (pxJ (-1))) (12 + 4 * i) 5 = -1 := pxM_eq (by omega) (by omega)
      refine ⟨jw_setI (pxPl (pxPl H (p + 1)) (pxNum s (p + 1)).2) (12 + 4 * i) 5 (pxJ (-1)), ?_, numF rfl (by omega) (by omega)⟩
      simp (disch := first | assumption | omega | (simp only [jw_t_I, px_cpt]; done) | (simp only [jw_t_I, px_cpt]; omega)) only [pxL0, pxL1, pxL2, pxL3, pxL4, pxL5, pxL6, pxL7, pxL8, pxL9, pxL10, pxL11, pxL12, pxL13, pxL14, pxL15, pxL16, pxL17, pxL18, pxL19, pxL20, pxL21, pxL22, pxL23, pxL24, pxL25, pxL26, pxL27, pxL28, pxL29, pxL30, pxL31, pxL32, pxL33, pxL34, pxL35, pxL36, pxL37, pxL38, pxL39, pxL40, pxL41, pxL42, pxL43, pxL44, pxL45, pxL46, pxL47, pxL48, pxL49, pxL51, pxL57, pxL58, pxL59, pxL60, pxL61, pxL62, pxL63, pxL64, pxL65, pxL66, pxL67, pxL68, pxL69, pxL70, pxL71, pxL72, pxL73, pxL74, pxL75, pxL76, pxL77, pxL78, pxL79, pxL80, pxL81, pxL82, pxL83, pxL84, pxL85, pxL86, pxL87, pxL88, pxL89, pxL90, pxL91, pxL92, pxL93, pxL94, pxL95, pxL96, pxL97, pxL98, pxL99, pxL100, pxL101, pxL102, pxL103, pxL104, pxL105, pxL106, pxL107, pxL108, pxL109, pxL110, pxL111, pxL112, pxL113, pxL114, pxL115, pxL116, pxL117, pxL118, pxL119, pxL120, pxL121, pxL122, pxL123, pxL124, pxL125, pxL126, pxL200, pxL240, pxL287, pxL388, pxL400, pxL429, pxL431, pxL440, pxL1240, pxL1600, pxL1681, pxL12028, pxL13849, pxL14880, pxL25173, pxL26908, pxL49600, pxL65535, pxL65536, ↓reduceIte, pxJ_add, pxJ_sub, pxJ_mul, pxJ_neg, pxD_lt_t, pxD_lt_f, pxD_le_t, pxD_le_f, pxD_eq_t, pxD_eq_f, pxJ_lt, pxJ_le, pxJ_eq, px_gI, px_gR, px_pI, px_rc, px_ai, px_ar, px_si, px_ln, px_cp, pxJ_div, pxJ_b8, pxJ_byte, px_b2, px_bs, px_rb0, px_rb1, px_min, px_max, px_compare, pxW_some, jw_t_I, px_cpt, jw_r_I, px_cpr, jw_l_I, px_cpl, Option.some.injEq, hp0, ee, rn, back]
  rw [if_neg d3]
  rw [if_neg d3] at pA
  by_cases d4 : c = 109 ∨ c = 116
  · rw [if_pos d4, if_neg (show ¬ (c = 103 ∨ c = 71) by omega), pA, if_pos d4]
    have z1 : ∀ f, 1 ≤ f → f ≤ 3 → pxM (pxPl H (p + 1)) (15 + 4 * i) f = 0 := fun f q1 q2 => by
      rw [pxPl_n (by omega), ← eH, pxM_ne (by omega)]; exact za f q1 q2
    obtain ⟨y1, y2⟩ := s_X6_readAddress (a := 15 + 4 * i) (by omega) G1 v15 hp1 he1 (by omega) (by omega) e0 (by omega) (z1 1 (by omega) (by omega)) (z1 2 (by omega) (by omega)) (z1 3 (by omega) (by omega))
    have Fm : ∀ {h' : jw_H}, pxF (pxQa (15 + 4 * i) e) (pxPl H (p + 1)) h' → pxF (pxQt i e) h h' := fun w2 => F1.trans (w2.mono (fun k f z => by unfold pxQa at z; unfold pxQt; omega))
    unfold g_X6_readAct_b384
    refine ⟨fun z => ?_, fun z => ?_⟩
    · obtain ⟨h2, w1, w2, w3, w4, w5, w6⟩ := y1 z
      refine ⟨h2, ?_, Fm w2, w3, mk (by rw [w2.m (by unfold pxQa; omega)]; exact k3) (fun z => ?_) (fun z => ?_) (fun z => ?_) (fun _ => w4), w5, w6⟩
      · simp (disch := first | assumption | omega | (simp only [jw_t_I, px_cpt]; done) | (simp only [jw_t_I, px_cpt]; omega)) only [pxL0, pxL1, pxL2, pxL3, pxL4, pxL5, pxL6, pxL7, pxL8, pxL9, pxL10, pxL11, pxL12, pxL13, pxL14, pxL15, pxL16, pxL17, pxL18, pxL19, pxL20, pxL21, pxL22, pxL23, pxL24, pxL25, pxL26, pxL27, pxL28, pxL29, pxL30, pxL31, pxL32, pxL33, pxL34, pxL35, pxL36, pxL37, pxL38, pxL39, pxL40, pxL41, pxL42, pxL43, pxL44, pxL45, pxL46, pxL47, pxL48, pxL49, pxL51, pxL57, pxL58, pxL59, pxL60, pxL61, pxL62, pxL63, pxL64, pxL65, pxL66, pxL67, pxL68, pxL69, pxL70, pxL71, pxL72, pxL73, pxL74, pxL75, pxL76, pxL77, pxL78, pxL79, pxL80, pxL81, pxL82, pxL83, pxL84, pxL85, pxL86, pxL87, pxL88, pxL89, pxL90, pxL91, pxL92, pxL93, pxL94, pxL95, pxL96, pxL97, pxL98, pxL99, pxL100, pxL101, pxL102, pxL103, pxL104, pxL105, pxL106, pxL107, pxL108, pxL109, pxL110, pxL111, pxL112, pxL113, pxL114, pxL115, pxL116, pxL117, pxL118, pxL119, pxL120, pxL121, pxL122, pxL123, pxL124, pxL125, pxL126, pxL200, pxL240, pxL287, pxL388, pxL400, pxL429, pxL431, pxL440, pxL1240, pxL1600, pxL1681, pxL12028, pxL13849, pxL14880, pxL25173, pxL26908, pxL49600, pxL65535, pxL65536, ↓reduceIte, pxJ_add, pxJ_sub, pxJ_mul, pxJ_neg, pxD_lt_t, pxD_lt_f, pxD_le_t, pxD_le_f, pxD_eq_t, pxD_eq_f, pxJ_lt, pxJ_le, pxJ_eq, px_gI, px_gR, px_pI, px_rc, px_ai, px_ar, px_si, px_ln, px_cp, pxJ_div, pxJ_b8, pxJ_byte, px_b2, px_bs, px_rb0, px_rb1, px_min, px_max, px_compare, pxW_some, jw_t_I, px_cpt, jw_r_I, px_cpr, jw_l_I, px_cpl, Option.some.injEq, hp0, ee, uc, w1]
      · exfalso; unfold pxOnA at z; omega
      · exfalso; unfold pxOtA at z; omega
      · exfalso; omega
    · obtain ⟨h2, w1, w2, w3⟩ := y2 z
      refine ⟨h2, ?_, Fm w2, w3⟩
      simp (disch := first | assumption | omega | (simp only [jw_t_I, px_cpt]; done) | (simp only [jw_t_I, px_cpt]; omega)) only [pxL0, pxL1, pxL2, pxL3, pxL4, pxL5, pxL6, pxL7, pxL8, pxL9, pxL10, pxL11, pxL12, pxL13, pxL14, pxL15, pxL16, pxL17, pxL18, pxL19, pxL20, pxL21, pxL22, pxL23, pxL24, pxL25, pxL26, pxL27, pxL28, pxL29, pxL30, pxL31, pxL32, pxL33, pxL34, pxL35, pxL36, pxL37, pxL38, pxL39, pxL40, pxL41, pxL42, pxL43, pxL44, pxL45, pxL46, pxL47, pxL48, pxL49, pxL51, pxL57, pxL58, pxL59, pxL60, pxL61, pxL62, pxL63, pxL64, pxL65, pxL66, pxL67, pxL68, pxL69, pxL70, pxL71, pxL72, pxL73, pxL74, pxL75, pxL76, pxL77, pxL78, pxL79, pxL80, pxL81, pxL82, pxL83, pxL84, pxL85, pxL86, pxL87, pxL88, pxL89, pxL90, pxL91, pxL92, pxL93, pxL94, pxL95, pxL96, pxL97, pxL98, pxL99, pxL100, pxL101, pxL102, pxL103, pxL104, pxL105, pxL106, pxL107, pxL108, pxL109, pxL110, pxL111, pxL112, pxL113, pxL114, pxL115, pxL116, pxL117, pxL118, pxL119, pxL120, pxL121, pxL122, pxL123, pxL124, pxL125, pxL126, pxL200, pxL240, pxL287, pxL388, pxL400, pxL429, pxL431, pxL440, pxL1240, pxL1600, pxL1681, pxL12028, pxL13849, pxL14880, pxL25173, pxL26908, pxL49600, pxL65535, pxL65536, ↓reduceIte, pxJ_add, pxJ_sub, pxJ_mul, pxJ_neg, pxD_lt_t, pxD_lt_f, pxD_le_t, pxD_le_f, pxD_eq_t, pxD_eq_f, pxJ_lt, pxJ_le, pxJ_eq, px_gI, px_gR, px_pI, px_rc, px_ai, px_ar, px_si, px_ln, px_cp, pxJ_div, pxJ_b8, pxJ_byte, px_b2, px_bs, px_rb0, px_rb1, px_min, px_max, px_compare, pxW_some, jw_t_I, px_cpt, jw_r_I, px_cpr, jw_l_I, px_cpl, Option.some.injEq, hp0, ee, uc, w1]
  rw [if_neg d4]
  rw [if_neg d4] at pA
  by_cases d5 : c = 107
  · rw [if_pos d5, if_neg (show ¬ (c = 103 ∨ c = 71) by omega), pA, if_pos d5]
    have rf := s_X6_readFrom G1 hp1 (by omega) (lo := 97) (hi := 101) (by omega) (by omega) (by omega) (by omega)
    have x1 : pxOn s p = pxP s (p + 1) - 97 := by unfold pxOn; rw [eC, if_pos d5]
    have x5 : ∀ q : Int, (jw_t (pxPl (pxPl H (p + 1)) q) (12 + 4 * i)).1 = 5 := fun _ => u5
    unfold g_X6_readAct_b43 g_X6_readAct_b438
    by_cases d : 97 ≤ pxP s (p + 1) ∧ pxP s (p + 1) ≤ 101
    · have lt2 := pxP_lt (s := s) (p := p + 1) (by omega)
      simp only [if_pos d] at rf ⊢
      have back : pxM (jw_setI (pxPl (pxPl H (p + 1)) (p + 1 + 1)) (12 + 4 * i) 5 (pxJ (pxP s (p + 1) - 97))) (12 + 4 * i) 5 = pxP s (p + 1) - 97 := pxM_eq (by omega) (by omega)
      refine ⟨fun _ => ⟨_, ?_, by rw [show p + 2 = p + 1 + 1 by omega]; exact num rfl (by omega) (by omega) (by omega) (by omega) (by omega) x1.symm⟩, fun z => (by cases z)⟩
      simp (disch := first | assumption | omega | (simp only [jw_t_I, px_cpt, x5]; done) | (simp only [jw_t_I, px_cpt, x5]; omega)) only [pxL0, pxL1, pxL2, pxL3, pxL4, pxL5, pxL6, pxL7, pxL8, pxL9, pxL10, pxL11, pxL12, pxL13, pxL14, pxL15, pxL16, pxL17, pxL18, pxL19, pxL20, pxL21, pxL22, pxL23, pxL24, pxL25, pxL26, pxL27, pxL28, pxL29, pxL30, pxL31, pxL32, pxL33, pxL34, pxL35, pxL36, pxL37, pxL38, pxL39, pxL40, pxL41, pxL42, pxL43, pxL44, pxL45, pxL46, pxL47, pxL48, pxL49, pxL51, pxL57, pxL58, pxL59, pxL60, pxL61, pxL62, pxL63, pxL64, pxL65, pxL66, pxL67, pxL68, pxL69, pxL70, pxL71, pxL72, pxL73, pxL74, pxL75, pxL76, pxL77, pxL78, pxL79, pxL80, pxL81, pxL82, pxL83, pxL84, pxL85, pxL86, pxL87, pxL88, pxL89, pxL90, pxL91, pxL92, pxL93, pxL94, pxL95, pxL96, pxL97, pxL98, pxL99, pxL100, pxL101, pxL102, pxL103, pxL104, pxL105, pxL106, pxL107, pxL108, pxL109, pxL110, pxL111, pxL112, pxL113, pxL114, pxL115, pxL116, pxL117, pxL118, pxL119, pxL120, pxL121, pxL122, pxL123, pxL124, pxL125, pxL126, pxL200, pxL240, pxL287, pxL388, pxL400, pxL429, pxL431, pxL440, pxL1240, pxL1600, pxL1681, pxL12028, pxL13849, pxL14880, pxL25173, pxL26908, pxL49600, pxL65535, pxL65536, ↓reduceIte, pxJ_add, pxJ_sub, pxJ_mul, pxJ_neg, pxD_lt_t, pxD_lt_f, pxD_le_t, pxD_le_f, pxD_eq_t, pxD_eq_f, pxJ_lt, pxJ_le, pxJ_eq, px_gI, px_gR, px_pI, px_rc, px_ai, px_ar, px_si, px_ln, px_cp, pxJ_div, pxJ_b8, pxJ_byte, px_b2, px_bs, px_rb0, px_rb1, px_min, px_max, px_compare, pxW_some, jw_t_I, px_cpt, jw_r_I, px_cpr, jw_l_I, px_cpl, Option.some.injEq, x5, hp0, ee, rf, back]
    · simp only [if_neg d] at rf ⊢
      have back : pxM (jw_setI (pxPl (pxPl H (p + 1)) (p + 1)) (12 + 4 * i) 5 (pxJ (-1))) (12 + 4 * i) 5 = -1 := pxM_eq (by omega) (by omega)
      refine ⟨fun z => (by cases z), fun _ => ⟨jw_setI (pxPl (pxPl H (p + 1)) (p + 1)) (12 + 4 * i) 5 (pxJ (-1)), ?_, numF rfl (by omega) (by omega)⟩⟩
      simp (disch := first | assumption | omega | (simp only [jw_t_I, px_cpt, x5]; done) | (simp only [jw_t_I, px_cpt, x5]; omega)) only [pxL0, pxL1, pxL2, pxL3, pxL4, pxL5, pxL6, pxL7, pxL8, pxL9, pxL10, pxL11, pxL12, pxL13, pxL14, pxL15, pxL16, pxL17, pxL18, pxL19, pxL20, pxL21, pxL22, pxL23, pxL24, pxL25, pxL26, pxL27, pxL28, pxL29, pxL30, pxL31, pxL32, pxL33, pxL34, pxL35, pxL36, pxL37, pxL38, pxL39, pxL40, pxL41, pxL42, pxL43, pxL44, pxL45, pxL46, pxL47, pxL48, pxL49, pxL51, pxL57, pxL58, pxL59, pxL60, pxL61, pxL62, pxL63, pxL64, pxL65, pxL66, pxL67, pxL68, pxL69, pxL70, pxL71, pxL72, pxL73, pxL74, pxL75, pxL76, pxL77, pxL78, pxL79, pxL80, pxL81, pxL82, pxL83, pxL84, pxL85, pxL86, pxL87, pxL88, pxL89, pxL90, pxL91, pxL92, pxL93, pxL94, pxL95, pxL96, pxL97, pxL98, pxL99, pxL100, pxL101, pxL102, pxL103, pxL104, pxL105, pxL106, pxL107, pxL108, pxL109, pxL110, pxL111, pxL112, pxL113, pxL114, pxL115, pxL116, pxL117, pxL118, pxL119, pxL120, pxL121, pxL122, pxL123, pxL124, pxL125, pxL126, pxL200, pxL240, pxL287, pxL388, pxL400, pxL429, pxL431, pxL440, pxL1240, pxL1600, pxL1681, pxL12028, pxL13849, pxL14880, pxL25173, pxL26908, pxL49600, pxL65535, pxL65536, ↓reduceIte, pxJ_add, pxJ_sub, pxJ_mul, pxJ_neg, pxD_lt_t, pxD_lt_f, pxD_le_t, pxD_le_f, pxD_eq_t, pxD_eq_f, pxJ_lt, pxJ_le, pxJ_eq, px_gI, px_gR, px_pI, px_rc, px_ai, px_ar, px_si, px_ln, px_cp, pxJ_div, pxJ_b8, pxJ_byte, px_b2, px_bs, px_rb0, px_rb1, px_min, px_max, px_compare, pxW_some, jw_t_I, px_cpt, jw_r_I, px_cpr, jw_l_I, px_cpl, Option.some.injEq, x5, hp0, ee, rf, back]
  rw [if_neg d5]
  rw [if_neg d5] at pA
  by_cases d6 : c = 114 ∨ c = 119
  · rw [if_pos d6, if_neg (show ¬ (c = 103 ∨ c = 71) by omega), pA, if_pos d6]
    have rf := s_X6_readFrom G1 hp1 (by omega) (lo := 48) (hi := 51) (by omega) (by omega) (by omega) (by omega)
    have x1 : pxOn s p = pxP s (p + 1) - 48 := by unfold pxOn; rw [eC, if_neg d5, if_pos d6]
    have x5 : ∀ q : Int, (jw_t (pxPl (pxPl H (p + 1)) q) (12 + 4 * i)).1 = 5 := fun _ => u5
    unfold g_X6_readAct_b439 g_X6_readAct_b474
    by_cases d : 48 ≤ pxP s (p + 1) ∧ pxP s (p + 1) ≤ 51
    · have lt2 := pxP_lt (s := s) (p := p + 1) (by omega)
      simp only [if_pos d] at rf ⊢
      have back : pxM (jw_setI (pxPl (pxPl H (p + 1)) (p + 1 + 1)) (12 + 4 * i) 5 (pxJ (pxP s (p + 1) - 48))) (12 + 4 * i) 5 = pxP s (p + 1) - 48 := pxM_eq (by omega) (by omega)
      refine ⟨fun _ => ⟨_, ?_, by rw [show p + 2 = p + 1 + 1 by omega]; exact num rfl (by omega) (by omega) (by omega) (by omega) (by omega) x1.symm⟩, fun z => (by cases z)⟩
      simp (disch := first | assumption | omega | (simp only [jw_t_I, px_cpt, x5]; done) | (simp only [jw_t_I, px_cpt, x5]; omega)) only [pxL0, pxL1, pxL2, pxL3, pxL4, pxL5, pxL6, pxL7, pxL8, pxL9, pxL10, pxL11, pxL12, pxL13, pxL14, pxL15, pxL16, pxL17, pxL18, pxL19, pxL20, pxL21, pxL22, pxL23, pxL24, pxL25, pxL26, pxL27, pxL28, pxL29, pxL30, pxL31, pxL32, pxL33, pxL34, pxL35, pxL36, pxL37, pxL38, pxL39, pxL40, pxL41, pxL42, pxL43, pxL44, pxL45, pxL46, pxL47, pxL48, pxL49, pxL51, pxL57, pxL58, pxL59, pxL60, pxL61, pxL62, pxL63, pxL64, pxL65, pxL66, pxL67, pxL68, pxL69, pxL70, pxL71, pxL72, pxL73, pxL74, pxL75, pxL76, pxL77, pxL78, pxL79, pxL80, pxL81, pxL82, pxL83, pxL84, pxL85, pxL86, pxL87, pxL88, pxL89, pxL90, pxL91, pxL92, pxL93, pxL94, pxL95, pxL96, pxL97, pxL98, pxL99, pxL100, pxL101, pxL102, pxL103, pxL104, pxL105, pxL106, pxL107, pxL108, pxL109, pxL110, pxL111, pxL112, pxL113, pxL114, pxL115, pxL116, pxL117, pxL118, pxL119, pxL120, pxL121, pxL122, pxL123, pxL124, pxL125, pxL126, pxL200, pxL240, pxL287, pxL388, pxL400, pxL429, pxL431, pxL440, pxL1240, pxL1600, pxL1681, pxL12028, pxL13849, pxL14880, pxL25173, pxL26908, pxL49600, pxL65535, pxL65536, ↓reduceIte, pxJ_add, pxJ_sub, pxJ_mul, pxJ_neg, pxD_lt_t, pxD_lt_f, pxD_le_t, pxD_le_f, pxD_eq_t, pxD_eq_f, pxJ_lt, pxJ_le, pxJ_eq, px_gI, px_gR, px_pI, px_rc, px_ai, px_ar, px_si, px_ln, px_cp, pxJ_div, pxJ_b8, pxJ_byte, px_b2, px_bs, px_rb0, px_rb1, px_min, px_max, px_compare, pxW_some, jw_t_I, px_cpt, jw_r_I, px_cpr, jw_l_I, px_cpl, Option.some.injEq, x5, hp0, ee, rf, back]
    · simp only [if_neg d] at rf ⊢
      have back : pxM (jw_setI (pxPl (pxPl H (p + 1)) (p + 1)) (12 + 4 * i) 5 (pxJ (-1))) (12 + 4 * i) 5 = -1 := pxM_eq (by omega) (by omega)
      refine ⟨fun z => (by cases z), fun _ => ⟨jw_setI (pxPl (pxPl H (p + 1)) (p + 1)) (12 + 4 * i) 5 (pxJ (-1)), ?_, numF rfl (by omega) (by omega)⟩⟩
      simp (disch := first | assumption | omega | (simp only [jw_t_I, px_cpt, x5]; done) | (simp only [jw_t_I, px_cpt, x5]; omega)) only [pxL0, pxL1, pxL2, pxL3, pxL4, pxL5, pxL6, pxL7, pxL8, pxL9, pxL10, pxL11, pxL12, pxL13, pxL14, pxL15, pxL16, pxL17, pxL18, pxL19, pxL20, pxL21, pxL22, pxL23, pxL24, pxL25, pxL26, pxL27, pxL28, pxL29, pxL30, pxL31, pxL32, pxL33, pxL34, pxL35, pxL36, pxL37, pxL38, pxL39, pxL40, pxL41, pxL42, pxL43, pxL44, pxL45, pxL46, pxL47, pxL48, pxL49, pxL51, pxL57, pxL58, pxL59, pxL60, pxL61, pxL62, pxL63, pxL64, pxL65, pxL66, pxL67, pxL68, pxL69, pxL70, pxL71, pxL72, pxL73, pxL74, pxL75, pxL76, pxL77, pxL78, pxL79, pxL80, pxL81, pxL82, pxL83, pxL84, pxL85, pxL86, pxL87, pxL88, pxL89, pxL90, pxL91, pxL92, pxL93, pxL94, pxL95, pxL96, pxL97, pxL98, pxL99, pxL100, pxL101, pxL102, pxL103, pxL104, pxL105, pxL106, pxL107, pxL108, pxL109, pxL110, pxL111, pxL112, pxL113, pxL114, pxL115, pxL116, pxL117, pxL118, pxL119, pxL120, pxL121, pxL122, pxL123, pxL124, pxL125, pxL126, pxL200, pxL240, pxL287, pxL388, pxL400, pxL429, pxL431, pxL440, pxL1240, pxL1600, pxL1681, pxL12028, pxL13849, pxL14880, pxL25173, pxL26908, pxL49600, pxL65535, pxL65536, ↓reduceIte, pxJ_add, pxJ_sub, pxJ_mul, pxJ_neg, pxD_lt_t, pxD_lt_f, pxD_le_t, pxD_le_f, pxD_eq_t, pxD_eq_f, pxJ_lt, pxJ_le, pxJ_eq, px_gI, px_gR, px_pI, px_rc, px_ai, px_ar, px_si, px_ln, px_cp, pxJ_div, pxJ_b8, pxJ_byte, px_b2, px_bs, px_rb0, px_rb1, px_min, px_max, px_compare, pxW_some, jw_t_I, px_cpt, jw_r_I, px_cpr, jw_l_I, px_cpl, Option.some.injEq, x5, hp0, ee, rf, back]
  rw [if_neg d6]
  rw [if_neg d6] at pA
  by_cases d7 : c = 58 ∨ c = 98 ∨ c = 84
  · rw [if_pos d7, if_neg (show ¬ (c = 103 ∨ c = 71) by omega), pA]
    have rf := s_X6_readFrom G1 hp1 (by omega) (lo := 65) (hi := 90) (by omega) (by omega) (by omega) (by omega)
    have x1 : pxOn s p = (if 65 ≤ pxP s (p + 1) ∧ pxP s (p + 1) ≤ 90 then pxP s (p + 1) - 65 else -1) := by unfold pxOn; rw [eC, if_neg d5, if_neg d6, if_pos d7]
    have x5 : ∀ q : Int, (jw_t (pxPl (pxPl H (p + 1)) q) (12 + 4 * i)).1 = 5 := fun _ => u5
    unfold g_X6_readAct_b475 g_X6_readAct_b511 g_X6_readAct_b516
    by_cases d : 65 ≤ pxP s (p + 1) ∧ pxP s (p + 1) ≤ 90
    · have lt2 := pxP_lt (s := s) (p := p + 1) (by omega)
      simp only [if_pos d] at rf x1 ⊢
      have back : pxM (jw_setI (pxPl (pxPl H (p + 1)) (p + 1 + 1)) (12 + 4 * i) 5 (pxJ (pxP s (p + 1) - 65))) (12 + 4 * i) 5 = pxP s (p + 1) - 65 := pxM_eq (by omega) (by omega)
      have eE : (if c = 58 then (true, p + 2) else if c = 98 ∨ c = 84 then (true, p + 2) else if c = 115 then pxRep s (p + 1) else if c = 122 then pxTrn s (p + 1) else (false, p)) = (true, p + 2) := by
        by_cases d8 : c = 58
        · rw [if_pos d8]
        · rw [if_neg d8, if_pos (show c = 98 ∨ c = 84 by omega)]
      rw [eE]
      refine ⟨fun _ => ⟨_, ?_, by rw [show p + 2 = p + 1 + 1 by omega]; exact num rfl (by omega) (by omega) (by omega) (by omega) (by omega) x1.symm⟩, fun z => (by cases z)⟩
      simp (disch := first | assumption | omega | (simp only [jw_t_I, px_cpt, x5]; done) | (simp only [jw_t_I, px_cpt, x5]; omega)) only [pxL0, pxL1, pxL2, pxL3, pxL4, pxL5, pxL6, pxL7, pxL8, pxL9, pxL10, pxL11, pxL12, pxL13, pxL14, pxL15, pxL16, pxL17, pxL18, pxL19, pxL20, pxL21, pxL22, pxL23, pxL24, pxL25, pxL26, pxL27, pxL28, pxL29, pxL30, pxL31, pxL32, pxL33, pxL34, pxL35, pxL36, pxL37, pxL38, pxL39, pxL40, pxL41, pxL42, pxL43, pxL44, pxL45, pxL46, pxL47, pxL48, pxL49, pxL51, pxL57, pxL58, pxL59, pxL60, pxL61, pxL62, pxL63, pxL64, pxL65, pxL66, pxL67, pxL68, pxL69, pxL70, pxL71, pxL72, pxL73, pxL74, pxL75, pxL76, pxL77, pxL78, pxL79, pxL80, pxL81, pxL82, pxL83, pxL84, pxL85, pxL86, pxL87, pxL88, pxL89, pxL90, pxL91, pxL92, pxL93, pxL94, pxL95, pxL96, pxL97, pxL98, pxL99, pxL100, pxL101, pxL102, pxL103, pxL104, pxL105, pxL106, pxL107, pxL108, pxL109, pxL110, pxL111, pxL112, pxL113, pxL114, pxL115, pxL116, pxL117, pxL118, pxL119, pxL120, pxL121, pxL122, pxL123, pxL124, pxL125, pxL126, pxL200, pxL240, pxL287, pxL388, pxL400, pxL429, pxL431, pxL440, pxL1240, pxL1600, pxL1681, pxL12028, pxL13849, pxL14880, pxL25173, pxL26908, pxL49600, pxL65535, pxL65536, ↓reduceIte, pxJ_add, pxJ_sub, pxJ_mul, pxJ_neg, pxD_lt_t, pxD_lt_f, pxD_le_t, pxD_le_f, pxD_eq_t, pxD_eq_f, pxJ_lt, pxJ_le, pxJ_eq, px_gI, px_gR, px_pI, px_rc, px_ai, px_ar, px_si, px_ln, px_cp, pxJ_div, pxJ_b8, pxJ_byte, px_b2, px_bs, px_rb0, px_rb1, px_min, px_max, px_compare, pxW_some, jw_t_I, px_cpt, jw_r_I, px_cpr, jw_l_I, px_cpl, Option.some.injEq, x5, hp0, ee, rf, back]
    · simp only [if_neg d] at rf x1 ⊢
      have back : pxM (jw_setI (pxPl (pxPl H (p + 1)) (p + 1)) (12 + 4 * i) 5 (pxJ (-1))) (12 + 4 * i) 5 = -1 := pxM_eq (by omega) (by omega)
      by_cases d8 : c = 58
      · rw [if_pos d8]
        refine ⟨fun z => (by cases z), fun _ => ⟨jw_setI (pxPl (pxPl H (p + 1)) (p + 1)) (12 + 4 * i) 5 (pxJ (-1)), ?_, numF rfl (by omega) (by omega)⟩⟩
        simp (disch := first | assumption | omega | (simp only [jw_t_I, px_cpt, x5]; done) | (simp only [jw_t_I, px_cpt, x5]; omega)) only [pxL0, pxL1, pxL2, pxL3, pxL4, pxL5, pxL6, pxL7, pxL8, pxL9, pxL10, pxL11, pxL12, pxL13, pxL14, pxL15, pxL16, pxL17, pxL18, pxL19, pxL20, pxL21, pxL22, pxL23, pxL24, pxL25, pxL26, pxL27, pxL28, pxL29, pxL30, pxL31, pxL32, pxL33, pxL34, pxL35, pxL36, pxL37, pxL38, pxL39, pxL40, pxL41, pxL42, pxL43, pxL44, pxL45, pxL46, pxL47, pxL48, pxL49, pxL51, pxL57, pxL58, pxL59, pxL60, pxL61, pxL62, pxL63, pxL64, pxL65, pxL66, pxL67, pxL68, pxL69, pxL70, pxL71, pxL72, pxL73, pxL74, pxL75, pxL76, pxL77, pxL78, pxL79, pxL80, pxL81, pxL82, pxL83, pxL84, pxL85, pxL86, pxL87, pxL88, pxL89, pxL90, pxL91, pxL92, pxL93, pxL94, pxL95, pxL96, pxL97, pxL98, pxL99, pxL100, pxL101, pxL102, pxL103, pxL104, pxL105, pxL106, pxL107, pxL108, pxL109, pxL110, pxL111, pxL112, pxL113, pxL114, pxL115, pxL116, pxL117, pxL118, pxL119, pxL120, pxL121, pxL122, pxL123, pxL124, pxL125, pxL126, pxL200, pxL240, pxL287, pxL388, pxL400, pxL429, pxL431, pxL440, pxL1240, pxL1600, pxL1681, pxL12028, pxL13849, pxL14880, pxL25173, pxL26908, pxL49600, pxL65535, pxL65536, ↓reduceIte, pxJ_add, pxJ_sub, pxJ_mul, pxJ_neg, pxD_lt_t, pxD_lt_f, pxD_le_t, pxD_le_f, pxD_eq_t, pxD_eq_f, pxJ_lt, pxJ_le, pxJ_eq, px_gI, px_gR, px_pI, px_rc, px_ai, px_ar, px_si, px_ln, px_cp, pxJ_div, pxJ_b8, pxJ_byte, px_b2, px_bs, px_rb0, px_rb1, px_min, px_max, px_compare, pxW_some, jw_t_I, px_cpt, jw_r_I, px_cpr, jw_l_I, px_cpl, Option.some.injEq, x5, hp0, ee, rf, back]
      · rw [if_neg d8, if_pos (show c = 98 ∨ c = 84 by omega)]
        refine ⟨fun _ => ⟨jw_setI (pxPl (pxPl H (p + 1)) (p + 1)) (12 + 4 * i) 5 (pxJ (-1)), ?_, num rfl (by omega) (by omega) (by omega) (by omega) (by omega) x1.symm⟩, fun z => (by cases z)⟩
        simp (disch := first | assumption | omega | (simp only [jw_t_I, px_cpt, x5]; done) | (simp only [jw_t_I, px_cpt, x5]; omega)) only [pxL0, pxL1, pxL2, pxL3, pxL4, pxL5, pxL6, pxL7, pxL8, pxL9, pxL10, pxL11, pxL12, pxL13, pxL14, pxL15, pxL16, pxL17, pxL18, pxL19, pxL20, pxL21, pxL22, pxL23, pxL24, pxL25, pxL26, pxL27, pxL28, pxL29, pxL30, pxL31, pxL32, pxL33, pxL34, pxL35, pxL36, pxL37, pxL38, pxL39, pxL40, pxL41, pxL42, pxL43, pxL44, pxL45, pxL46, pxL47, pxL48, pxL49, pxL51, pxL57, pxL58, pxL59, pxL60, pxL61, pxL62, pxL63, pxL64, pxL65, pxL66, pxL67, pxL68, pxL69, pxL70, pxL71, pxL72, pxL73, pxL74, pxL75, pxL76, pxL77, pxL78, pxL79, pxL80, pxL81, pxL82, pxL83, pxL84, pxL85, pxL86, pxL87, pxL88, pxL89, pxL90, pxL91, pxL92, pxL93, pxL94, pxL95, pxL96, pxL97, pxL98, pxL99, pxL100, pxL101, pxL102, pxL103, pxL104, pxL105, pxL106, pxL107, pxL108, pxL109, pxL110, pxL111, pxL112, pxL113, pxL114, pxL115, pxL116, pxL117, pxL118, pxL119, pxL120, pxL121, pxL122, pxL123, pxL124, pxL125, pxL126, pxL200, pxL240, pxL287, pxL388, pxL400, pxL429, pxL431, pxL440, pxL1240, pxL1600, pxL1681, pxL12028, pxL13849, pxL14880, pxL25173, pxL26908, pxL49600, pxL65535, pxL65536, ↓reduceIte, pxJ_add, pxJ_sub, pxJ_mul, pxJ_neg, pxD_lt_t, pxD_lt_f, pxD_le_t, pxD_le_f, pxD_eq_t, pxD_eq_f, pxJ_lt, pxJ_le, pxJ_eq, px_gI, px_gR, px_pI, px_rc, px_ai, px_ar, px_si, px_ln, px_cp, pxJ_div, pxJ_b8, pxJ_byte, px_b2, px_bs, px_rb0, px_rb1, px_min, px_max, px_compare, pxW_some, jw_t_I, px_cpt, jw_r_I, px_cpr, jw_l_I, px_cpl, Option.some.injEq, x5, hp0, ee, rf, back]
  rw [if_neg d7]
  rw [if_neg (show ¬ c = 58 by omega), if_neg (show ¬ (c = 98 ∨ c = 84) by omega)] at pA
  have e2 : p + 2 = p + 1 + 1 := by omega
  by_cases d8 : c = 115
  · rw [if_pos d8, if_neg (show ¬ (c = 103 ∨ c = 71) by omega), pA, if_pos d8]
    obtain ⟨y1, y2⟩ := s_X6_readReplace hi G1 hp1 he1 (by omega) (by omega) e0 (by omega)
    have rb := pxRep_b (s := s) (p := p + 1) (by omega) (by omega)
    have Fm : ∀ {h' : jw_H}, pxF (fun k f => pxQe e k f ∨ (k = 12 + 4 * i ∧ 5 ≤ f ∧ f ≤ 8)) (pxPl H (p + 1)) h' → pxF (pxQt i e) h h' := fun w2 => F1.trans (w2.mono (fun k f z => by unfold pxQe at z; unfold pxQt; omega))
    unfold g_X6_readAct_b43
    refine ⟨fun z => ?_, fun z => ?_⟩
    · obtain ⟨h2, w1, w2, w3, w4, w5, w6, w7, w8, w9⟩ := y1 z
      have fb := rb.2.2 z
      refine ⟨h2, ?_, Fm w2, w3, mk (by rw [w2.m (by unfold pxQe; omega)]; exact k3) (fun z => ?_) (fun z => ?_) (fun z => ?_) (fun z => ?_), ?_, ?_⟩
      · simp (disch := first | assumption | omega | (simp only [jw_t_I, px_cpt]; done) | (simp only [jw_t_I, px_cpt]; omega)) only [pxL0, pxL1, pxL2, pxL3, pxL4, pxL5, pxL6, pxL7, pxL8, pxL9, pxL10, pxL11, pxL12, pxL13, pxL14, pxL15, pxL16, pxL17, pxL18, pxL19, pxL20, pxL21, pxL22, pxL23, pxL24, pxL25, pxL26, pxL27, pxL28, pxL29, pxL30, pxL31, pxL32, pxL33, pxL34, pxL35, pxL36, pxL37, pxL38, pxL39, pxL40, pxL41, pxL42, pxL43, pxL44, pxL45, pxL46, pxL47, pxL48, pxL49, pxL51, pxL57, pxL58, pxL59, pxL60, pxL61, pxL62, pxL63, pxL64, pxL65, pxL66, pxL67, pxL68, pxL69, pxL70, pxL71, pxL72, pxL73, pxL74, pxL75, pxL76, pxL77, pxL78, pxL79, pxL80, pxL81, pxL82, pxL83, pxL84, pxL85, pxL86, pxL87, pxL88, pxL89, pxL90, pxL91, pxL92, pxL93, pxL94, pxL95, pxL96, pxL97, pxL98, pxL99, pxL100, pxL101, pxL102, pxL103, pxL104, pxL105, pxL106, pxL107, pxL108, pxL109, pxL110, pxL111, pxL112, pxL113, pxL114, pxL115, pxL116, pxL117, pxL118, pxL119, pxL120, pxL121, pxL122, pxL123, pxL124, pxL125, pxL126, pxL200, pxL240, pxL287, pxL388, pxL400, pxL429, pxL431, pxL440, pxL1240, pxL1600, pxL1681, pxL12028, pxL13849, pxL14880, pxL25173, pxL26908, pxL49600, pxL65535, pxL65536, ↓reduceIte, pxJ_add, pxJ_sub, pxJ_mul, pxJ_neg, pxD_lt_t, pxD_lt_f, pxD_le_t, pxD_le_f, pxD_eq_t, pxD_eq_f, pxJ_lt, pxJ_le, pxJ_eq, px_gI, px_gR, px_pI, px_rc, px_ai, px_ar, px_si, px_ln, px_cp, pxJ_div, pxJ_b8, pxJ_byte, px_b2, px_bs, px_rb0, px_rb1, px_min, px_max, px_compare, pxW_some, jw_t_I, px_cpt, jw_r_I, px_cpr, jw_l_I, px_cpl, Option.some.injEq, hp0, ee, w1]
      · rw [w9]
        unfold pxOn
        rw [eC, if_neg d5, if_neg d6, if_neg d7, if_pos d8]
      · rw [w7, w8]
        unfold pxOfr pxOto
        rw [eC, if_pos d8, if_pos d8]
        exact ⟨rfl, rfl⟩
      · rw [w4, e2, w5]; exact ⟨e0, Int.le_refl _, w6⟩
      · exfalso; omega
      · rw [w5]; omega
      · rw [w5]; omega
    · obtain ⟨h2, w1, w2, w3⟩ := y2 z
      refine ⟨h2, ?_, Fm w2, w3⟩
      simp (disch := first | assumption | omega | (simp only [jw_t_I, px_cpt]; done) | (simp only [jw_t_I, px_cpt]; omega)) only [pxL0, pxL1, pxL2, pxL3, pxL4, pxL5, pxL6, pxL7, pxL8, pxL9, pxL10, pxL11, pxL12, pxL13, pxL14, pxL15, pxL16, pxL17, pxL18, pxL19, pxL20, pxL21, pxL22, pxL23, pxL24, pxL25, pxL26, pxL27, pxL28, pxL29, pxL30, pxL31, pxL32, pxL33, pxL34, pxL35, pxL36, pxL37, pxL38, pxL39, pxL40, pxL41, pxL42, pxL43, pxL44, pxL45, pxL46, pxL47, pxL48, pxL49, pxL51, pxL57, pxL58, pxL59, pxL60, pxL61, pxL62, pxL63, pxL64, pxL65, pxL66, pxL67, pxL68, pxL69, pxL70, pxL71, pxL72, pxL73, pxL74, pxL75, pxL76, pxL77, pxL78, pxL79, pxL80, pxL81, pxL82, pxL83, pxL84, pxL85, pxL86, pxL87, pxL88, pxL89, pxL90, pxL91, pxL92, pxL93, pxL94, pxL95, pxL96, pxL97, pxL98, pxL99, pxL100, pxL101, pxL102, pxL103, pxL104, pxL105, pxL106, pxL107, pxL108, pxL109, pxL110, pxL111, pxL112, pxL113, pxL114, pxL115, pxL116, pxL117, pxL118, pxL119, pxL120, pxL121, pxL122, pxL123, pxL124, pxL125, pxL126, pxL200, pxL240, pxL287, pxL388, pxL400, pxL429, pxL431, pxL440, pxL1240, pxL1600, pxL1681, pxL12028, pxL13849, pxL14880, pxL25173, pxL26908, pxL49600, pxL65535, pxL65536, ↓reduceIte, pxJ_add, pxJ_sub, pxJ_mul, pxJ_neg, pxD_lt_t, pxD_lt_f, pxD_le_t, pxD_le_f, pxD_eq_t, pxD_eq_f, pxJ_lt, pxJ_le, pxJ_eq, px_gI, px_gR, px_pI, px_rc, px_ai, px_ar, px_si, px_ln, px_cp, pxJ_div, pxJ_b8, pxJ_byte, px_b2, px_bs, px_rb0, px_rb1, px_min, px_max, px_compare, pxW_some, jw_t_I, px_cpt, jw_r_I, px_cpr, jw_l_I, px_cpl, Option.some.injEq, hp0, ee, w1]
  rw [if_neg d8]
  rw [if_neg d8] at pA
  by_cases d9 : c = 122
  · rw [if_pos d9, if_neg (show ¬ (c = 103 ∨ c = 71) by omega), pA, if_pos d9]
    obtain ⟨y1, y2⟩ := s_X6_readTurn hi G1 hp1 (by omega) (by omega)
    have rb := pxTrn_b (s := s) (p := p + 1) (by omega) (by omega)
    have Fm : ∀ {h' : jw_H}, pxF (fun k f => (k = 10 ∧ f = 5) ∨ (k = 12 + 4 * i ∧ (f = 5 ∨ f = 7 ∨ f = 8))) (pxPl H (p + 1)) h' → pxF (pxQt i e) h h' := fun w2 => F1.trans (w2.mono (fun k f z => by unfold pxQt; omega))
    unfold g_X6_readAct_b43
    refine ⟨fun z => ?_, fun z => ?_⟩
    · obtain ⟨h2, w1, w2, w3, w4, w5, w6⟩ := y1 z
      refine ⟨h2, ?_, Fm w2, w3, mk (by rw [w2.m (by omega)]; exact k3) (fun z => ?_) (fun z => ?_) (fun z => ?_) (fun z => ?_), ?_, ?_⟩
      · simp (disch := first | assumption | omega | (simp only [jw_t_I, px_cpt]; done) | (simp only [jw_t_I, px_cpt]; omega)) only [pxL0, pxL1, pxL2, pxL3, pxL4, pxL5, pxL6, pxL7, pxL8, pxL9, pxL10, pxL11, pxL12, pxL13, pxL14, pxL15, pxL16, pxL17, pxL18, pxL19, pxL20, pxL21, pxL22, pxL23, pxL24, pxL25, pxL26, pxL27, pxL28, pxL29, pxL30, pxL31, pxL32, pxL33, pxL34, pxL35, pxL36, pxL37, pxL38, pxL39, pxL40, pxL41, pxL42, pxL43, pxL44, pxL45, pxL46, pxL47, pxL48, pxL49, pxL51, pxL57, pxL58, pxL59, pxL60, pxL61, pxL62, pxL63, pxL64, pxL65, pxL66, pxL67, pxL68, pxL69, pxL70, pxL71, pxL72, pxL73, pxL74, pxL75, pxL76, pxL77, pxL78, pxL79, pxL80, pxL81, pxL82, pxL83, pxL84, pxL85, pxL86, pxL87, pxL88, pxL89, pxL90, pxL91, pxL92, pxL93, pxL94, pxL95, pxL96, pxL97, pxL98, pxL99, pxL100, pxL101, pxL102, pxL103, pxL104, pxL105, pxL106, pxL107, pxL108, pxL109, pxL110, pxL111, pxL112, pxL113, pxL114, pxL115, pxL116, pxL117, pxL118, pxL119, pxL120, pxL121, pxL122, pxL123, pxL124, pxL125, pxL126, pxL200, pxL240, pxL287, pxL388, pxL400, pxL429, pxL431, pxL440, pxL1240, pxL1600, pxL1681, pxL12028, pxL13849, pxL14880, pxL25173, pxL26908, pxL49600, pxL65535, pxL65536, ↓reduceIte, pxJ_add, pxJ_sub, pxJ_mul, pxJ_neg, pxD_lt_t, pxD_lt_f, pxD_le_t, pxD_le_f, pxD_eq_t, pxD_eq_f, pxJ_lt, pxJ_le, pxJ_eq, px_gI, px_gR, px_pI, px_rc, px_ai, px_ar, px_si, px_ln, px_cp, pxJ_div, pxJ_b8, pxJ_byte, px_b2, px_bs, px_rb0, px_rb1, px_min, px_max, px_compare, pxW_some, jw_t_I, px_cpt, jw_r_I, px_cpr, jw_l_I, px_cpl, Option.some.injEq, hp0, ee, w1]
      · rw [w6]
        unfold pxOn
        rw [eC, if_neg d5, if_neg d6, if_neg d7, if_neg d8, if_pos d9]
      · rw [w4, w5]
        unfold pxOfr pxOto
        rw [eC, if_neg d8, if_pos d9, if_neg d8, if_pos d9]
        exact ⟨by omega, by omega⟩
      · exfalso; omega
      · exfalso; omega
      · rw [w2.m (by omega), he1]; exact Int.le_refl _
      · rw [w2.m (by omega), he1]; omega
    · obtain ⟨h2, w1, w2, w3⟩ := y2 z
      refine ⟨h2, ?_, Fm w2, w3⟩
      simp (disch := first | assumption | omega | (simp only [jw_t_I, px_cpt]; done) | (simp only [jw_t_I, px_cpt]; omega)) only [pxL0, pxL1, pxL2, pxL3, pxL4, pxL5, pxL6, pxL7, pxL8, pxL9, pxL10, pxL11, pxL12, pxL13, pxL14, pxL15, pxL16, pxL17, pxL18, pxL19, pxL20, pxL21, pxL22, pxL23, pxL24, pxL25, pxL26, pxL27, pxL28, pxL29, pxL30, pxL31, pxL32, pxL33, pxL34, pxL35, pxL36, pxL37, pxL38, pxL39, pxL40, pxL41, pxL42, pxL43, pxL44, pxL45, pxL46, pxL47, pxL48, pxL49, pxL51, pxL57, pxL58, pxL59, pxL60, pxL61, pxL62, pxL63, pxL64, pxL65, pxL66, pxL67, pxL68, pxL69, pxL70, pxL71, pxL72, pxL73, pxL74, pxL75, pxL76, pxL77, pxL78, pxL79, pxL80, pxL81, pxL82, pxL83, pxL84, pxL85, pxL86, pxL87, pxL88, pxL89, pxL90, pxL91, pxL92, pxL93, pxL94, pxL95, pxL96, pxL97, pxL98, pxL99, pxL100, pxL101, pxL102, pxL103, pxL104, pxL105, pxL106, pxL107, pxL108, pxL109, pxL110, pxL111, pxL112, pxL113, pxL114, pxL115, pxL116, pxL117, pxL118, pxL119, pxL120, pxL121, pxL122, pxL123, pxL124, pxL125, pxL126, pxL200, pxL240, pxL287, pxL388, pxL400, pxL429, pxL431, pxL440, pxL1240, pxL1600, pxL1681, pxL12028, pxL13849, pxL14880, pxL25173, pxL26908, pxL49600, pxL65535, pxL65536, ↓reduceIte, pxJ_add, pxJ_sub, pxJ_mul, pxJ_neg, pxD_lt_t, pxD_lt_f, pxD_le_t, pxD_le_f, pxD_eq_t, pxD_eq_f, pxJ_lt, pxJ_le, pxJ_eq, px_gI, px_gR, px_pI, px_rc, px_ai, px_ar, px_si, px_ln, px_cp, pxJ_div, pxJ_b8, pxJ_byte, px_b2, px_bs, px_rb0, px_rb1, px_min, px_max, px_compare, pxW_some, jw_t_I, px_cpt, jw_r_I, px_cpr, jw_l_I, px_cpl, Option.some.injEq, hp0, ee, w1]
  rw [if_neg d9]
  rw [if_neg d9] at pA
  by_cases d10 : c = 103 ∨ c = 71
  · rw [if_pos d10, if_pos d10]
    obtain ⟨y1, y2⟩ := s_X6_readPatternOf hi G1 hp1 he1 (by omega) (by omega) e0 (by omega)
    have pb := pxPtn_b (s := s) (p := p + 1) (by omega) (by omega)
    have Fm : ∀ {h' : jw_H}, pxF (fun k f => pxQe e k f ∨ (k = 12 + 4 * i ∧ f = 6)) (pxPl H (p + 1)) h' → pxF (pxQt i e) h h' := fun w2 => F1.trans (w2.mono (fun k f z => by unfold pxQe at z; unfold pxQt; omega))
    unfold g_X6_readAct_b549
    refine ⟨fun z => ?_, fun z => ?_⟩
    · obtain ⟨h2, w1, w2, w3, w4, w5, w6, w7⟩ := y1 z
      have pz := pb.2.2 z
      have fb := (pxPat_b (s := s) (p := p + 1 + 1) (by omega) (by omega)).2.2 pz.2.1
      refine ⟨h2, ?_, Fm w2, w3, mk (by rw [w2.m (by unfold pxQe; omega)]; exact k3) (fun z => ?_) (fun z => ?_) (fun z => ?_) (fun z => ?_), ?_, ?_⟩
      · simp (disch := first | assumption | omega | (simp only [jw_t_I, px_cpt]; done) | (simp only [jw_t_I, px_cpt]; omega)) only [pxL0, pxL1, pxL2, pxL3, pxL4, pxL5, pxL6, pxL7, pxL8, pxL9, pxL10, pxL11, pxL12, pxL13, pxL14, pxL15, pxL16, pxL17, pxL18, pxL19, pxL20, pxL21, pxL22, pxL23, pxL24, pxL25, pxL26, pxL27, pxL28, pxL29, pxL30, pxL31, pxL32, pxL33, pxL34, pxL35, pxL36, pxL37, pxL38, pxL39, pxL40, pxL41, pxL42, pxL43, pxL44, pxL45, pxL46, pxL47, pxL48, pxL49, pxL51, pxL57, pxL58, pxL59, pxL60, pxL61, pxL62, pxL63, pxL64, pxL65, pxL66, pxL67, pxL68, pxL69, pxL70, pxL71, pxL72, pxL73, pxL74, pxL75, pxL76, pxL77, pxL78, pxL79, pxL80, pxL81, pxL82, pxL83, pxL84, pxL85, pxL86, pxL87, pxL88, pxL89, pxL90, pxL91, pxL92, pxL93, pxL94, pxL95, pxL96, pxL97, pxL98, pxL99, pxL100, pxL101, pxL102, pxL103, pxL104, pxL105, pxL106, pxL107, pxL108, pxL109, pxL110, pxL111, pxL112, pxL113, pxL114, pxL115, pxL116, pxL117, pxL118, pxL119, pxL120, pxL121, pxL122, pxL123, pxL124, pxL125, pxL126, pxL200, pxL240, pxL287, pxL388, pxL400, pxL429, pxL431, pxL440, pxL1240, pxL1600, pxL1681, pxL12028, pxL13849, pxL14880, pxL25173, pxL26908, pxL49600, pxL65535, pxL65536, ↓reduceIte, pxJ_add, pxJ_sub, pxJ_mul, pxJ_neg, pxD_lt_t, pxD_lt_f, pxD_le_t, pxD_le_f, pxD_eq_t, pxD_eq_f, pxJ_lt, pxJ_le, pxJ_eq, px_gI, px_gR, px_pI, px_rc, px_ai, px_ar, px_si, px_ln, px_cp, pxJ_div, pxJ_b8, pxJ_byte, px_b2, px_bs, px_rb0, px_rb1, px_min, px_max, px_compare, pxW_some, jw_t_I, px_cpt, jw_r_I, px_cpr, jw_l_I, px_cpl, Option.some.injEq, hp0, ee, w1]
      · exfalso; unfold pxOnA at z; omega
      · exfalso; unfold pxOtA at z; omega
      · rw [w4, e2, w5]; exact ⟨e0, Int.le_refl _, w6⟩
      · exfalso; omega
      · rw [w5]; omega
      · rw [w5]; omega
    · obtain ⟨h2, w1, w2, w3⟩ := y2 z
      refine ⟨h2, ?_, Fm w2, w3⟩
      simp (disch := first | assumption | omega | (simp only [jw_t_I, px_cpt]; done) | (simp only [jw_t_I, px_cpt]; omega)) only [pxL0, pxL1, pxL2, pxL3, pxL4, pxL5, pxL6, pxL7, pxL8, pxL9, pxL10, pxL11, pxL12, pxL13, pxL14, pxL15, pxL16, pxL17, pxL18, pxL19, pxL20, pxL21, pxL22, pxL23, pxL24, pxL25, pxL26, pxL27, pxL28, pxL29, pxL30, pxL31, pxL32, pxL33, pxL34, pxL35, pxL36, pxL37, pxL38, pxL39, pxL40, pxL41, pxL42, pxL43, pxL44, pxL45, pxL46, pxL47, pxL48, pxL49, pxL51, pxL57, pxL58, pxL59, pxL60, pxL61, pxL62, pxL63, pxL64, pxL65, pxL66, pxL67, pxL68, pxL69, pxL70, pxL71, pxL72, pxL73, pxL74, pxL75, pxL76, pxL77, pxL78, pxL79, pxL80, pxL81, pxL82, pxL83, pxL84, pxL85, pxL86, pxL87, pxL88, pxL89, pxL90, pxL91, pxL92, pxL93, pxL94, pxL95, pxL96, pxL97, pxL98, pxL99, pxL100, pxL101, pxL102, pxL103, pxL104, pxL105, pxL106, pxL107, pxL108, pxL109, pxL110, pxL111, pxL112, pxL113, pxL114, pxL115, pxL116, pxL117, pxL118, pxL119, pxL120, pxL121, pxL122, pxL123, pxL124, pxL125, pxL126, pxL200, pxL240, pxL287, pxL388, pxL400, pxL429, pxL431, pxL440, pxL1240, pxL1600, pxL1681, pxL12028, pxL13849, pxL14880, pxL25173, pxL26908, pxL49600, pxL65535, pxL65536, ↓reduceIte, pxJ_add, pxJ_sub, pxJ_mul, pxJ_neg, pxD_lt_t, pxD_lt_f, pxD_le_t, pxD_le_f, pxD_eq_t, pxD_eq_f, pxJ_lt, pxJ_le, pxJ_eq, px_gI, px_gR, px_pI, px_rc, px_ai, px_ar, px_si, px_ln, px_cp, pxJ_div, pxJ_b8, pxJ_byte, px_b2, px_bs, px_rb0, px_rb1, px_min, px_max, px_compare, pxW_some, jw_t_I, px_cpt, jw_r_I, px_cpr, jw_l_I, px_cpl, Option.some.injEq, hp0, ee, w1]
  rw [if_neg d10, if_neg d10, pA]
  exact ⟨fun z => (by cases z), fun _ => ⟨H, rfl, F0, hp0⟩⟩
end
