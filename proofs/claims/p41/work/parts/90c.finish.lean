/-! orders line by line: the work is put; addresses -/
section
variable {T : pxTx} {W : pxWk} {Fr : pxFh} {S : pxSto} {rep : Bool} {h : jw_H}
theorem s_X1_finishWork (H : pxBS h T (W, Fr, S, rep)) (m15 : pxM h 571 15 = 0) :
    ∃ h', f_X1_finishWork h 571 = some ((), h') ∧ pxF (fun k f => (572 ≤ k ∧ k ≤ 577) ∨ (k = 571 ∧ f = 15)) h h' ∧ (pxM h' 571 15 = if (pxBEnd W Fr).isSome then 0 else 4) ∧ ∃ Fr', pxBS h' T (W, Fr', S, rep) ∧ (∀ z, pxBEnd W Fr = some z → Fr' = z) := by
  obtain ⟨a1, a2, a3, a4, a5, a6, ⟨b1, b2, b3, b4, b5, b6, b7, b8⟩, a8, a9, a10, a11, a12⟩ := pxBS_i.mp H
  obtain ⟨t1, r0, r1, r2, r3, r4, r5, r6, r7, r8, r9⟩ := id a1
  -- what is due is put
  have due : ∀ (h1 : jw_H) (Fr1 : pxFh), pxBS h1 T (W, Fr1, S, rep) → pxM h1 571 15 = 0 → ∃ h', g_X1_finishWork_b32 h1 571 = some ((), h') ∧ pxF (fun k f => (572 ≤ k ∧ k ≤ 577) ∨ (k = 571 ∧ f = 15)) h1 h' ∧ (pxM h' 571 15 = if (pxBPut W.2.2.2.2.2.2 Fr1).isSome then 0 else 4) ∧ ∃ Fr', pxBS h' T (W, Fr', S, rep) ∧ (∀ z, pxBPut W.2.2.2.2.2.2 Fr1 = some z → Fr' = z) := by
    intro h1 Fr1 H1 m151
    obtain ⟨h', e, F, m15', Fr', H', eb⟩ := s_X1_putNew (by omega) H1 H1.2.2.2.2.2.2.1.2.2.2.2.2.2.1 m151
    have t11 := H1.1.1
    have r81 := H1.1.2.2.2.2.2.2.2.2.2.1
    refine ⟨h', ?_, F, m15', Fr', H', eb⟩
    unfold g_X1_finishWork_b32
    clear H H1 H' a1 a2 a3 a4 a5 a6 a8 b6 b7 F
    simp (maxSteps := 4000000) (disch := first | assumption | omega | (simp only [jw_t_I, px_cpt]; done) | (simp only [jw_t_I, px_cpt]; omega)) only [pxL0, pxL1, pxL2, pxL3, pxL4, pxL5, pxL6, pxL7, pxL8, pxL9, pxL10, pxL11, pxL12, pxL13, pxL14, pxL15, pxL16, pxL17, pxL18, pxL19, pxL20, pxL21, pxL22, pxL23, pxL24, pxL25, pxL26, pxL27, pxL28, pxL29, pxL30, pxL31, pxL32, pxL33, pxL34, pxL35, pxL36, pxL37, pxL38, pxL39, pxL40, pxL41, pxL42, pxL43, pxL44, pxL45, pxL46, pxL47, pxL48, pxL49, pxL51, pxL57, pxL58, pxL59, pxL60, pxL61, pxL62, pxL63, pxL64, pxL65, pxL66, pxL67, pxL68, pxL69, pxL70, pxL71, pxL72, pxL73, pxL74, pxL75, pxL76, pxL77, pxL78, pxL79, pxL80, pxL81, pxL82, pxL83, pxL84, pxL85, pxL86, pxL87, pxL88, pxL89, pxL90, pxL91, pxL92, pxL93, pxL94, pxL95, pxL96, pxL97, pxL98, pxL99, pxL100, pxL101, pxL102, pxL103, pxL104, pxL105, pxL106, pxL107, pxL108, pxL109, pxL110, pxL111, pxL112, pxL113, pxL114, pxL115, pxL116, pxL117, pxL118, pxL119, pxL120, pxL121, pxL122, pxL123, pxL124, pxL125, pxL126, pxL200, pxL240, pxL287, pxL388, pxL400, pxL429, pxL431, pxL440, pxL1240, pxL1600, pxL1681, pxL12028, pxL13849, pxL14880, pxL25173, pxL26908, pxL49600, pxL65535, pxL65536, ↓reduceIte, reduceCtorEq, pxJ_add, pxJ_sub, pxJ_mul, pxJ_neg, pxD_lt_t, pxD_lt_f, pxD_le_t, pxD_le_f, pxD_eq_t, pxD_eq_f, pxJ_lt, pxJ_le, pxJ_eq, px_gI, px_gR, px_pI, px_rc, px_ai, px_ar, px_si, px_ln, px_cp, pxJ_div, pxJ_b8, pxJ_byte, px_b2, px_bs, px_rb0, px_rb1, px_min, px_max, px_compare, pxW_some, jw_t_I, px_cpt, jw_r_I, px_cpr, jw_l_I, px_cpl, Option.some.injEq, t11, r81, e]
  unfold f_X1_finishWork pxBEnd
  by_cases g : W.2.2.2.2.1 = true
  · rw [if_pos g] at b5 ⊢
    obtain ⟨h', e, F, K⟩ := due h Fr H m15
    refine ⟨h', ?_, F, K⟩
    clear due H a1 a2 a3 a4 a5 a6 a8 b6 b7 F K
    simp (maxSteps := 4000000) (disch := first | assumption | omega | (simp only [jw_t_I, px_cpt]; done) | (simp only [jw_t_I, px_cpt]; omega)) only [pxL0, pxL1, pxL2, pxL3, pxL4, pxL5, pxL6, pxL7, pxL8, pxL9, pxL10, pxL11, pxL12, pxL13, pxL14, pxL15, pxL16, pxL17, pxL18, pxL19, pxL20, pxL21, pxL22, pxL23, pxL24, pxL25, pxL26, pxL27, pxL28, pxL29, pxL30, pxL31, pxL32, pxL33, pxL34, pxL35, pxL36, pxL37, pxL38, pxL39, pxL40, pxL41, pxL42, pxL43, pxL44, pxL45, pxL46, pxL47, pxL48, pxL49, pxL51, pxL57, pxL58, pxL59, pxL60, pxL61, pxL62, pxL63, pxL64, pxL65, pxL66, pxL67, pxL68, pxL69, pxL70, pxL71, pxL72, pxL73, pxL74, pxL75, pxL76, pxL77, pxL78, pxL79, pxL80, pxL81, pxL82, pxL83, pxL84, pxL85, pxL86, pxL87, pxL88, pxL89, pxL90, pxL91, pxL92, pxL93, pxL94, pxL95, pxL96, pxL97, pxL98, pxL99, pxL100, pxL101, pxL102, pxL103, pxL104, pxL105, pxL106, pxL107, pxL108, pxL109, pxL110, pxL111, pxL112, pxL113, pxL114, pxL115, pxL116, pxL117, pxL118, pxL119, pxL120, pxL121, pxL122, pxL123, pxL124, pxL125, pxL126, pxL200, pxL240, pxL287, pxL388, pxL400, pxL429, pxL431, pxL440, pxL1240, pxL1600, pxL1681, pxL12028, pxL13849, pxL14880, pxL25173, pxL26908, pxL49600, pxL65535, pxL65536, ↓reduceIte, reduceCtorEq, pxJ_add, pxJ_sub, pxJ_mul, pxJ_neg, pxD_lt_t, pxD_lt_f, pxD_le_t, pxD_le_f, pxD_eq_t, pxD_eq_f, pxJ_lt, pxJ_le, pxJ_eq, px_gI, px_gR, px_pI, px_rc, px_ai, px_ar, px_si, px_ln, px_cp, pxJ_div, pxJ_b8, pxJ_byte, px_b2, px_bs, px_rb0, px_rb1, px_min, px_max, px_compare, pxW_some, jw_t_I, px_cpt, jw_r_I, px_cpr, jw_l_I, px_cpl, Option.some.injEq, t1, b5, e]
  · rw [if_neg g] at b5 ⊢
    obtain ⟨now, I⟩ := a5
    have lo := pxM_lo h 571 10
    have hi := pxM_hi h 571 10
    rw [b1] at lo hi
    have t9 := I.1.1
    have nl := pxIT.len I
    have a11' : Fr.2.2 ≤ T.2.2.2 + Fr.1.length := a11
    obtain ⟨q, h1, e1, F1, eq, I1⟩ := s_X9_append I b6 (y := 1) (id := W.1) (by omega) (by show (1 : Int) ≤ ((1 : Nat) : Int); omega) lo hi
    have F1' : pxF (fun k f => 572 ≤ k ∧ k ≤ 577) h h1 := F1.mono (fun k f z => by unfold pxC at z; omega)
    have rw1 : pxRw [W.2.2.2.2.2.1] 1 = W.2.2.2.2.2.1 := rfl
    rw [rw1] at I1
    have t11 : (jw_t h1 571).1 = 1 := by rw [F1.t]; exact t1
    by_cases c : Fr.1.length < 40
    · rw [if_pos c] at eq I1
      simp only [if_pos c]
      have H1 : pxBS h1 T (W, (Fr.1 ++ [(W.1, W.2.2.2.2.2.1)], Fr.2.1, Fr.2.2), S, rep) := H.setF F1' (fun k f z => z) ⟨now, I1⟩ a10 (by rw [List.length_append]; simp only [List.length_cons, List.length_nil]; omega)
      obtain ⟨h', e, F, m15', Fr', K1, K2⟩ := due h1 _ H1 (by rw [F1'.m (by omega)]; exact m15)
      refine ⟨h', ?_, (F1'.mono (fun k f z => Or.inl z)).trans F, m15', Fr', K1, K2⟩
      rw [show (1 : Int32) = pxJ 1 from rfl]
      clear due H a1 a2 a3 a4 a6 a8 b6 b7 F K1 K2 H1 I I1
      simp (maxSteps := 4000000) (disch := first | assumption | omega | (simp only [jw_t_I, px_cpt]; done) | (simp only [jw_t_I, px_cpt]; omega)) only [pxL0, pxL1, pxL2, pxL3, pxL4, pxL5, pxL6, pxL7, pxL8, pxL9, pxL10, pxL11, pxL12, pxL13, pxL14, pxL15, pxL16, pxL17, pxL18, pxL19, pxL20, pxL21, pxL22, pxL23, pxL24, pxL25, pxL26, pxL27, pxL28, pxL29, pxL30, pxL31, pxL32, pxL33, pxL34, pxL35, pxL36, pxL37, pxL38, pxL39, pxL40, pxL41, pxL42, pxL43, pxL44, pxL45, pxL46, pxL47, pxL48, pxL49, pxL51, pxL57, pxL58, pxL59, pxL60, pxL61, pxL62, pxL63, pxL64, pxL65, pxL66, pxL67, pxL68, pxL69, pxL70, pxL71, pxL72, pxL73, pxL74, pxL75, pxL76, pxL77, pxL78, pxL79, pxL80, pxL81, pxL82, pxL83, pxL84, pxL85, pxL86, pxL87, pxL88, pxL89, pxL90, pxL91, pxL92, pxL93, pxL94, pxL95, pxL96, pxL97, pxL98, pxL99, pxL100, pxL101, pxL102, pxL103, pxL104, pxL105, pxL106, pxL107, pxL108, pxL109, pxL110, pxL111, pxL112, pxL113, pxL114, pxL115, pxL116, pxL117, pxL118, pxL119, pxL120, pxL121, pxL122, pxL123, pxL124, pxL125, pxL126, pxL200, pxL240, pxL287, pxL388, pxL400, pxL429, pxL431, pxL440, pxL1240, pxL1600, pxL1681, pxL12028, pxL13849, pxL14880, pxL25173, pxL26908, pxL49600, pxL65535, pxL65536, ↓reduceIte, reduceCtorEq, pxJ_add, pxJ_sub, pxJ_mul, pxJ_neg, pxD_lt_t, pxD_lt_f, pxD_le_t, pxD_le_f, pxD_eq_t, pxD_eq_f, pxJ_lt, pxJ_le, pxJ_eq, px_gI, px_gR, px_pI, px_rc, px_ai, px_ar, px_si, px_ln, px_cp, pxJ_div, pxJ_b8, pxJ_byte, px_b2, px_bs, px_rb0, px_rb1, px_min, px_max, px_compare, pxW_some, jw_t_I, px_cpt, jw_r_I, px_cpr, jw_l_I, px_cpl, Option.some.injEq, t1, b5, b1, r6, r7, t9, e1, eq, e]
    · rw [if_neg c] at eq I1
      simp only [if_neg c]
      have F2 : pxF (fun k f => k = 571 ∧ f = 15) h1 (jw_setI h1 571 15 (pxJ 4)) := pxF.setI ⟨rfl, rfl⟩
      have H1 : pxBS h1 T (W, Fr, S, rep) := H.setF F1' (fun k f z => z) ⟨now, I1⟩ a10 a11
      refine ⟨jw_setI h1 571 15 (pxJ 4), ?_, (F1'.mono (fun k f z => Or.inl z)).trans (F2.mono (fun k f z => Or.inr z)), pxM_eq (by omega) (by omega), Fr, H1.fr F2 (fun k f z => by omega), fun z y => (by cases y)⟩
      rw [show (1 : Int32) = pxJ 1 from rfl]
      clear due H a1 a2 a3 a4 a6 a8 b6 b7 H1 I I1
      simp (maxSteps := 4000000) (disch := first | assumption | omega | (simp only [jw_t_I, px_cpt]; done) | (simp only [jw_t_I, px_cpt]; omega)) only [pxL0, pxL1, pxL2, pxL3, pxL4, pxL5, pxL6, pxL7, pxL8, pxL9, pxL10, pxL11, pxL12, pxL13, pxL14, pxL15, pxL16, pxL17, pxL18, pxL19, pxL20, pxL21, pxL22, pxL23, pxL24, pxL25, pxL26, pxL27, pxL28, pxL29, pxL30, pxL31, pxL32, pxL33, pxL34, pxL35, pxL36, pxL37, pxL38, pxL39, pxL40, pxL41, pxL42, pxL43, pxL44, pxL45, pxL46, pxL47, pxL48, pxL49, pxL51, pxL57, pxL58, pxL59, pxL60, pxL61, pxL62, pxL63, pxL64, pxL65, pxL66, pxL67, pxL68, pxL69, pxL70, pxL71, pxL72, pxL73, pxL74, pxL75, pxL76, pxL77, pxL78, pxL79, pxL80, pxL81, pxL82, pxL83, pxL84, pxL85, pxL86, pxL87, pxL88, pxL89, pxL90, pxL91, pxL92, pxL93, pxL94, pxL95, pxL96, pxL97, pxL98, pxL99, pxL100, pxL101, pxL102, pxL103, pxL104, pxL105, pxL106, pxL107, pxL108, pxL109, pxL110, pxL111, pxL112, pxL113, pxL114, pxL115, pxL116, pxL117, pxL118, pxL119, pxL120, pxL121, pxL122, pxL123, pxL124, pxL125, pxL126, pxL200, pxL240, pxL287, pxL388, pxL400, pxL429, pxL431, pxL440, pxL1240, pxL1600, pxL1681, pxL12028, pxL13849, pxL14880, pxL25173, pxL26908, pxL49600, pxL65535, pxL65536, ↓reduceIte, reduceCtorEq, pxJ_add, pxJ_sub, pxJ_mul, pxJ_neg, pxD_lt_t, pxD_lt_f, pxD_le_t, pxD_le_f, pxD_eq_t, pxD_eq_f, pxJ_lt, pxJ_le, pxJ_eq, px_gI, px_gR, px_pI, px_rc, px_ai, px_ar, px_si, px_ln, px_cp, pxJ_div, pxJ_b8, pxJ_byte, px_b2, px_bs, px_rb0, px_rb1, px_min, px_max, px_compare, pxW_some, jw_t_I, px_cpt, jw_r_I, px_cpr, jw_l_I, px_cpl, Option.some.injEq, t1, b5, b1, r6, r7, t9, e1, eq, t11]
theorem s_X1_putRest_b7 : ∀ (m N : Nat) (h : jw_H) (x : Int) (Fr : pxFh), x + m = T.1.length + 1 → 1 ≤ x → m + 1 < N → (jw_t h 571).1 = 1 → jw_r h 571 6 = some 572 → jw_r h 571 1 = some 255 → pxIX h T → pxIF h Fr → pxM h 571 15 = 0 →
    ∃ h', f_X1_putRest_b7 N h 571 (pxJ x) = some ((), h') ∧ pxF (fun k f => (572 ≤ k ∧ k ≤ 577) ∨ (k = 571 ∧ f = 15)) h h' ∧ (pxM h' 571 15 = if (pxBRest (T.1.drop (x - 1).toNat) Fr).isSome then 0 else 4) ∧ ∃ Fr', pxIF h' Fr' ∧ (∀ z, pxBRest (T.1.drop (x - 1).toNat) Fr = some z → Fr' = z) ∧ Fr'.2.2 = Fr.2.2 ∧ Fr.1.length ≤ Fr'.1.length := by
  intro m
  induction m with
  | zero =>
    intro N h x Fr hx x1 hN t1 r6 r1 X I m15
    obtain ⟨N, rfl, -⟩ := px_fu hN
    have dr : T.1.drop (x - 1).toNat = [] := List.drop_of_length_le (by omega)
    rw [dr]
    refine ⟨h, ?_, pxF.rfl, m15, Fr, I, fun z e => (Option.some.inj e), rfl, Nat.le_refl _⟩
    have t9 := X.1.1
    have q0 := X.1.2.1
    have t7 := X.2.1.1.1
    have c2 := pxIT.c2 X
    have l40 := pxIT.len X
    rw [u_X1_putRest_b7]
    unfold g_X1_putRest_b7
    clear X I
    simp (maxSteps := 4000000) (disch := first | assumption | omega | (simp only [jw_t_I, px_cpt]; done) | (simp only [jw_t_I, px_cpt]; omega)) only [pxL0, pxL1, pxL2, pxL3, pxL4, pxL5, pxL6, pxL7, pxL8, pxL9, pxL10, pxL11, pxL12, pxL13, pxL14, pxL15, pxL16, pxL17, pxL18, pxL19, pxL20, pxL21, pxL22, pxL23, pxL24, pxL25, pxL26, pxL27, pxL28, pxL29, pxL30, pxL31, pxL32, pxL33, pxL34, pxL35, pxL36, pxL37, pxL38, pxL39, pxL40, pxL41, pxL42, pxL43, pxL44, pxL45, pxL46, pxL47, pxL48, pxL49, pxL51, pxL57, pxL58, pxL59, pxL60, pxL61, pxL62, pxL63, pxL64, pxL65, pxL66, pxL67, pxL68, pxL69, pxL70, pxL71, pxL72, pxL73, pxL74, pxL75, pxL76, pxL77, pxL78, pxL79, pxL80, pxL81, pxL82, pxL83, pxL84, pxL85, pxL86, pxL87, pxL88, pxL89, pxL90, pxL91, pxL92, pxL93, pxL94, pxL95, pxL96, pxL97, pxL98, pxL99, pxL100, pxL101, pxL102, pxL103, pxL104, pxL105, pxL106, pxL107, pxL108, pxL109, pxL110, pxL111, pxL112, pxL113, pxL114, pxL115, pxL116, pxL117, pxL118, pxL119, pxL120, pxL121, pxL122, pxL123, pxL124, pxL125, pxL126, pxL200, pxL240, pxL287, pxL388, pxL400, pxL429, pxL431, pxL440, pxL1240, pxL1600, pxL1681, pxL12028, pxL13849, pxL14880, pxL25173, pxL26908, pxL49600, pxL65535, pxL65536, ↓reduceIte, reduceCtorEq, pxJ_add, pxJ_sub, pxJ_mul, pxJ_neg, pxD_lt_t, pxD_lt_f, pxD_le_t, pxD_le_f, pxD_eq_t, pxD_eq_f, pxJ_lt, pxJ_le, pxJ_eq, px_gI, px_gR, px_pI, px_rc, px_ai, px_ar, px_si, px_ln, px_cp, pxJ_div, pxJ_b8, pxJ_byte, px_b2, px_bs, px_rb0, px_rb1, px_min, px_max, px_compare, pxW_some, jw_t_I, px_cpt, jw_r_I, px_cpr, jw_l_I, px_cpl, Option.some.injEq, t1, r1, t9, q0, t7, c2]
  | succ m ih =>
    intro N h x Fr hx x1 hN t1 r6 r1 X I m15
    obtain ⟨N, rfl, hN⟩ := px_fu hN
    have t9 := X.1.1
    have q0 := X.1.2.1
    have t7 := X.2.1.1.1
    have c2 := pxIT.c2 X
    have l40 := pxIT.len X
    have lr : (pxRs T.1).length = T.1.length := List.length_map _
    have dr : T.1.drop (x - 1).toNat = pxAt T.1 x :: T.1.drop (x + 1 - 1).toNat := by
      have := pxG_dropc (d := ((0, []) : Int × List Int)) (l := T.1) (x := x) x1 (by omega)
      rw [this, show x.toNat = (x + 1 - 1).toNat by omega]
      rfl
    obtain ⟨now, I⟩ := I
    have t9b := I.1.1
    have io := s_X9_idOf X (x := x) (by omega) (by omega)
    rw [if_pos (by omega)] at io
    have idr := pxIT.idr X (x := x) x1 (by omega)
    have rwx : pxRw (pxRs T.1) x = (pxAt T.1 x).2 := pxG_mapi x1 (by omega)
    obtain ⟨q, h1, e1, F1, eq, I1⟩ := s_X9_append I X.2.1 (y := x) (id := pxId T.1 x) x1 (by omega) idr.1 idr.2
    have ep : ((pxId T.1 x, pxRw (pxRs T.1) x) : Int × List Int) = pxAt T.1 x := by rw [rwx]
    rw [ep] at I1
    have F1' : pxF (fun k f => 572 ≤ k ∧ k ≤ 577) h h1 := F1.mono (fun k f z => by unfold pxC at z; omega)
    have t11 : (jw_t h1 571).1 = 1 := by rw [F1.t]; exact t1
    rw [dr]
    unfold pxBRest
    by_cases c : Fr.1.length < 40
    · rw [if_pos c] at eq I1
      simp only [if_pos c]
      obtain ⟨h', e', F3, e15, Fr', J1, J2, J3, J4⟩ := ih N h1 (x + 1) (Fr.1 ++ [pxAt T.1 x], Fr.2.1, Fr.2.2) (by omega) (by omega) (by omega) t11 (by rw [F1'.r (by omega)]; exact r6) (by rw [F1'.r (by omega)]; exact r1) (pxIT.fr X F1' (fun k f _ _ => by omega)) ⟨now, I1⟩ (by rw [F1'.m (by omega)]; exact m15)
      refine ⟨h', ?_, (F1'.mono (fun k f z => Or.inl z)).trans F3, e15, Fr', J1, J2, J3, by rw [List.length_append] at J4; simp only [List.length_cons, List.length_nil] at J4; omega⟩
      rw [← e', u_X1_putRest_b7]
      unfold g_X1_putRest_b7 g_X1_putRest_b59
      clear ih e' F3 e15 J1 J2 J3 J4 X I I1
      simp (maxSteps := 4000000) (disch := first | assumption | omega | (simp only [jw_t_I, px_cpt]; done) | (simp only [jw_t_I, px_cpt]; omega)) only [pxL0, pxL1, pxL2, pxL3, pxL4, pxL5, pxL6, pxL7, pxL8, pxL9, pxL10, pxL11, pxL12, pxL13, pxL14, pxL15, pxL16, pxL17, pxL18, pxL19, pxL20, pxL21, pxL22, pxL23, pxL24, pxL25, pxL26, pxL27, pxL28, pxL29, pxL30, pxL31, pxL32, pxL33, pxL34, pxL35, pxL36, pxL37, pxL38, pxL39, pxL40, pxL41, pxL42, pxL43, pxL44, pxL45, pxL46, pxL47, pxL48, pxL49, pxL51, pxL57, pxL58, pxL59, pxL60, pxL61, pxL62, pxL63, pxL64, pxL65, pxL66, pxL67, pxL68, pxL69, pxL70, pxL71, pxL72, pxL73, pxL74, pxL75, pxL76, pxL77, pxL78, pxL79, pxL80, pxL81, pxL82, pxL83, pxL84, pxL85, pxL86, pxL87, pxL88, pxL89, pxL90, pxL91, pxL92, pxL93, pxL94, pxL95, pxL96, pxL97, pxL98, pxL99, pxL100, pxL101, pxL102, pxL103, pxL104, pxL105, pxL106, pxL107, pxL108, pxL109, pxL110, pxL111, pxL112, pxL113, pxL114, pxL115, pxL116, pxL117, pxL118, pxL119, pxL120, pxL121, pxL122, pxL123, pxL124, pxL125, pxL126, pxL200, pxL240, pxL287, pxL388, pxL400, pxL429, pxL431, pxL440, pxL1240, pxL1600, pxL1681, pxL12028, pxL13849, pxL14880, pxL25173, pxL26908, pxL49600, pxL65535, pxL65536, ↓reduceIte, reduceCtorEq, pxJ_add, pxJ_sub, pxJ_mul, pxJ_neg, pxD_lt_t, pxD_lt_f, pxD_le_t, pxD_le_f, pxD_eq_t, pxD_eq_f, pxJ_lt, pxJ_le, pxJ_eq, px_gI, px_gR, px_pI, px_rc, px_ai, px_ar, px_si, px_ln, px_cp, pxJ_div, pxJ_b8, pxJ_byte, px_b2, px_bs, px_rb0, px_rb1, px_min, px_max, px_compare, pxW_some, jw_t_I, px_cpt, jw_r_I, px_cpr, jw_l_I, px_cpl, Option.some.injEq, t1, r1, t9, q0, t7, c2, m15, r6, io, t9b, e1, eq]
    · rw [if_neg c] at eq I1
      simp only [if_neg c]
      obtain ⟨N, rfl⟩ : ∃ N', N = N' + 1 := ⟨N - 1, by omega⟩
      have F2 : pxF (fun k f => (572 ≤ k ∧ k ≤ 577) ∨ (k = 571 ∧ f = 15)) h (jw_setI h1 571 15 (pxJ 4)) := (F1'.mono (fun k f z => Or.inl z)).trans (pxF.setI (by omega))
      have m152 : pxM (jw_setI h1 571 15 (pxJ 4)) 571 15 = 4 := pxM_eq (by omega) (by omega)
      refine ⟨jw_setI h1 571 15 (pxJ 4), ?_, F2, m152, Fr, ⟨now, pxIT.fr I1 (pxF.setI (P := fun k f => k = 571 ∧ f = 15) ⟨rfl, rfl⟩) (fun k f _ _ => by omega)⟩, fun z y => (by cases y), rfl, Nat.le_refl _⟩
      have st2 : f_X1_putRest_b7 (N + 1) (jw_setI h1 571 15 (pxJ 4)) 571 (pxJ (x + 1)) = some ((), jw_setI h1 571 15 (pxJ 4)) := by
        have X2 : pxIX (jw_setI h1 571 15 (pxJ 4)) T := pxIT.fr X F2 (fun k f _ _ => by omega)
        have r12 : jw_r (jw_setI h1 571 15 (pxJ 4)) 571 1 = some 255 := by rw [F2.r (by omega)]; exact r1
        have t92 := X2.1.1
        have q02 := X2.1.2.1
        have t72 := X2.2.1.1.1
        have c22 := pxIT.c2 X2
        rw [u_X1_putRest_b7]
        unfold g_X1_putRest_b7
        clear ih X I I1 X2 F2 F1 F1'
        by_cases z : (T.1.length : Int) < x + 1
        · simp (maxSteps := 4000000) (disch := first | assumption | omega | (simp only [jw_t_I, px_cpt, t11]; done) | (simp only [jw_t_I, px_cpt, t11]; omega)) only [pxL0, pxL1, pxL2, pxL3, pxL4, pxL5, pxL6, pxL7, pxL8, pxL9, pxL10, pxL11, pxL12, pxL13, pxL14, pxL15, pxL16, pxL17, pxL18, pxL19, pxL20, pxL21, pxL22, pxL23, pxL24, pxL25, pxL26, pxL27, pxL28, pxL29, pxL30, pxL31, pxL32, pxL33, pxL34, pxL35, pxL36, pxL37, pxL38, pxL39, pxL40, pxL41, pxL42, pxL43, pxL44, pxL45, pxL46, pxL47, pxL48, pxL49, pxL51, pxL57, pxL58, pxL59, pxL60, pxL61, pxL62, pxL63, pxL64, pxL65, pxL66, pxL67, pxL68, pxL69, pxL70, pxL71, pxL72, pxL73, pxL74, pxL75, pxL76, pxL77, pxL78, pxL79, pxL80, pxL81, pxL82, pxL83, pxL84, pxL85, pxL86, pxL87, pxL88, pxL89, pxL90, pxL91, pxL92, pxL93, pxL94, pxL95, pxL96, pxL97, pxL98, pxL99, pxL100, pxL101, pxL102, pxL103, pxL104, pxL105, pxL106, pxL107, pxL108, pxL109, pxL110, pxL111, pxL112, pxL113, pxL114, pxL115, pxL116, pxL117, pxL118, pxL119, pxL120, pxL121, pxL122, pxL123, pxL124, pxL125, pxL126, pxL200, pxL240, pxL287, pxL388, pxL400, pxL429, pxL431, pxL440, pxL1240, pxL1600, pxL1681, pxL12028, pxL13849, pxL14880, pxL25173, pxL26908, pxL49600, pxL65535, pxL65536, ↓reduceIte, reduceCtorEq, pxJ_add, pxJ_sub, pxJ_mul, pxJ_neg, pxD_lt_t, pxD_lt_f, pxD_le_t, pxD_le_f, pxD_eq_t, pxD_eq_f, pxJ_lt, pxJ_le, pxJ_eq, px_gI, px_gR, px_pI, px_rc, px_ai, px_ar, px_si, px_ln, px_cp, pxJ_div, pxJ_b8, pxJ_byte, px_b2, px_bs, px_rb0, px_rb1, px_min, px_max, px_compare, pxW_some, jw_t_I, px_cpt, jw_r_I, px_cpr, jw_l_I, px_cpl, Option.some.injEq, t11, r12, t92, q02, t72, c22]
        · simp (maxSteps := 4000000) (disch := first | assumption | omega | (simp only [jw_t_I, px_cpt, t11]; done) | (simp only [jw_t_I, px_cpt, t11]; omega)) only [pxL0, pxL1, pxL2, pxL3, pxL4, pxL5, pxL6, pxL7, pxL8, pxL9, pxL10, pxL11, pxL12, pxL13, pxL14, pxL15, pxL16, pxL17, pxL18, pxL19, pxL20, pxL21, pxL22, pxL23, pxL24, pxL25, pxL26, pxL27, pxL28, pxL29, pxL30, pxL31, pxL32, pxL33, pxL34, pxL35, pxL36, pxL37, pxL38, pxL39, pxL40, pxL41, pxL42, pxL43, pxL44, pxL45, pxL46, pxL47, pxL48, pxL49, pxL51, pxL57, pxL58, pxL59, pxL60, pxL61, pxL62, pxL63, pxL64, pxL65, pxL66, pxL67, pxL68, pxL69, pxL70, pxL71, pxL72, pxL73, pxL74, pxL75, pxL76, pxL77, pxL78, pxL79, pxL80, pxL81, pxL82, pxL83, pxL84, pxL85, pxL86, pxL87, pxL88, pxL89, pxL90, pxL91, pxL92, pxL93, pxL94, pxL95, pxL96, pxL97, pxL98, pxL99, pxL100, pxL101, pxL102, pxL103, pxL104, pxL105, pxL106, pxL107, pxL108, pxL109, pxL110, pxL111, pxL112, pxL113, pxL114, pxL115, pxL116, pxL117, pxL118, pxL119, pxL120, pxL121, pxL122, pxL123, pxL124, pxL125, pxL126, pxL200, pxL240, pxL287, pxL388, pxL400, pxL429, pxL431, pxL440, pxL1240, pxL1600, pxL1681, pxL12028, pxL13849, pxL14880, pxL25173, pxL26908, pxL49600, pxL65535, pxL65536, ↓reduceIte, reduceCtorEq, pxJ_add, pxJ_sub, pxJ_mul, pxJ_neg, pxD_lt_t, pxD_lt_f, pxD_le_t, pxD_le_f, pxD_eq_t, pxD_eq_f, pxJ_lt, pxJ_le, pxJ_eq, px_gI, px_gR, px_pI, px_rc, px_ai, px_ar, px_si, px_ln, px_cp, pxJ_div, pxJ_b8, pxJ_byte, px_b2, px_bs, px_rb0, px_rb1, px_min, px_max, px_compare, pxW_some, jw_t_I, px_cpt, jw_r_I, px_cpr, jw_l_I, px_cpl, Option.some.injEq, t11, r12, t92, q02, t72, c22, m152]
      rw [u_X1_putRest_b7]
      unfold g_X1_putRest_b7 g_X1_putRest_b59
      clear ih X I I1 F2
      simp (maxSteps := 4000000) (disch := first | assumption | omega | (simp only [jw_t_I, px_cpt]; done) | (simp only [jw_t_I, px_cpt]; omega)) only [pxL0, pxL1, pxL2, pxL3, pxL4, pxL5, pxL6, pxL7, pxL8, pxL9, pxL10, pxL11, pxL12, pxL13, pxL14, pxL15, pxL16, pxL17, pxL18, pxL19, pxL20, pxL21, pxL22, pxL23, pxL24, pxL25, pxL26, pxL27, pxL28, pxL29, pxL30, pxL31, pxL32, pxL33, pxL34, pxL35, pxL36, pxL37, pxL38, pxL39, pxL40, pxL41, pxL42, pxL43, pxL44, pxL45, pxL46, pxL47, pxL48, pxL49, pxL51, pxL57, pxL58, pxL59, pxL60, pxL61, pxL62, pxL63, pxL64, pxL65, pxL66, pxL67, pxL68, pxL69, pxL70, pxL71, pxL72, pxL73, pxL74, pxL75, pxL76, pxL77, pxL78, pxL79, pxL80, pxL81, pxL82, pxL83, pxL84, pxL85, pxL86, pxL87, pxL88, pxL89, pxL90, pxL91, pxL92, pxL93, pxL94, pxL95, pxL96, pxL97, pxL98, pxL99, pxL100, pxL101, pxL102, pxL103, pxL104, pxL105, pxL106, pxL107, pxL108, pxL109, pxL110, pxL111, pxL112, pxL113, pxL114, pxL115, pxL116, pxL117, pxL118, pxL119, pxL120, pxL121, pxL122, pxL123, pxL124, pxL125, pxL126, pxL200, pxL240, pxL287, pxL388, pxL400, pxL429, pxL431, pxL440, pxL1240, pxL1600, pxL1681, pxL12028, pxL13849, pxL14880, pxL25173, pxL26908, pxL49600, pxL65535, pxL65536, ↓reduceIte, reduceCtorEq, pxJ_add, pxJ_sub, pxJ_mul, pxJ_neg, pxD_lt_t, pxD_lt_f, pxD_le_t, pxD_le_f, pxD_eq_t, pxD_eq_f, pxJ_lt, pxJ_le, pxJ_eq, px_gI, px_gR, px_pI, px_rc, px_ai, px_ar, px_si, px_ln, px_cp, pxJ_div, pxJ_b8, pxJ_byte, px_b2, px_bs, px_rb0, px_rb1, px_min, px_max, px_compare, pxW_some, jw_t_I, px_cpt, jw_r_I, px_cpr, jw_l_I, px_cpl, Option.some.injEq, t1, r1, t9, q0, t7, c2, m15, r6, io, t9b, e1, eq, t11, st2]
theorem s_X1_putRest (H : pxBS h T (W, Fr, S, rep)) (m15 : pxM h 571 15 = 0) :
    ∃ h', f_X1_putRest h 571 = some ((), h') ∧ pxF (fun k f => (572 ≤ k ∧ k ≤ 577) ∨ (k = 571 ∧ f = 15)) h h' ∧ (pxM h' 571 15 = if (pxBRest (T.1.drop W.2.2.1.toNat) Fr).isSome then 0 else 4) ∧ ∃ Fr', pxBS h' T (W, Fr', S, rep) ∧ (∀ z, pxBRest (T.1.drop W.2.2.1.toNat) Fr = some z → Fr' = z) := by
  obtain ⟨a1, a2, a3, a4, a5, a6, ⟨b1, b2, b3, b4, b5, b6, b7, b8, b9, b10⟩, ⟨rs8, a8⟩, a9, a10, a11, a12⟩ := pxBS_i.mp H
  have a10' : 0 ≤ Fr.2.2 := a10
  have a11' : Fr.2.2 ≤ T.2.2.2 + Fr.1.length := a11
  have l40 := pxIT.len a4
  obtain ⟨h', e, F, m15', Fr', J1, J2, J3, J4⟩ := s_X1_putRest_b7 (T := T) (T.1.length - W.2.2.1.toNat) jw_FU h (W.2.2.1 + 1) Fr (by omega) (by omega) (by unfold jw_FU; omega) a1.1 a1.2.2.2.2.2.2.2.1 a1.2.2.1 a4 a5 m15
  rw [show (W.2.2.1 + 1 - 1).toNat = W.2.2.1.toNat by omega] at m15' J2
  refine ⟨h', ?_, F, m15', Fr', ⟨a1.fr F (fun f z => by omega), a2.fr F (fun f z => by omega), a3.fr F (fun f z => by omega), pxIT.fr a4 F (fun k f _ _ => by omega), J1, pxIS.fr a6 F (fun k f _ _ => by omega), H.2.2.2.2.2.2.1.fr F (fun k f z => by omega), ⟨rs8, a8.fr F (fun k f _ _ => by omega)⟩, by rw [F.m (by omega)]; exact a9, by dsimp only; omega, by dsimp only; omega, a12⟩, J2⟩
  rw [← e]
  have t1 := a1.1
  unfold f_X1_putRest
  clear H a1 a2 a3 a4 a5 a6 a8 b6 b7 F J1 J2 J3 J4 e m15'
  simp (maxSteps := 4000000) (disch := first | assumption | omega | (simp only [jw_t_I, px_cpt]; done) | (simp only [jw_t_I, px_cpt]; omega)) only [pxL0, pxL1, pxL2, pxL3, pxL4, pxL5, pxL6, pxL7, pxL8, pxL9, pxL10, pxL11, pxL12, pxL13, pxL14, pxL15, pxL16, pxL17, pxL18, pxL19, pxL20, pxL21, pxL22, pxL23, pxL24, pxL25, pxL26, pxL27, pxL28, pxL29, pxL30, pxL31, pxL32, pxL33, pxL34, pxL35, pxL36, pxL37, pxL38, pxL39, pxL40, pxL41, pxL42, pxL43, pxL44, pxL45, pxL46, pxL47, pxL48, pxL49, pxL51, pxL57, pxL58, pxL59, pxL60, pxL61, pxL62, pxL63, pxL64, pxL65, pxL66, pxL67, pxL68, pxL69, pxL70, pxL71, pxL72, pxL73, pxL74, pxL75, pxL76, pxL77, pxL78, pxL79, pxL80, pxL81, pxL82, pxL83, pxL84, pxL85, pxL86, pxL87, pxL88, pxL89, pxL90, pxL91, pxL92, pxL93, pxL94, pxL95, pxL96, pxL97, pxL98, pxL99, pxL100, pxL101, pxL102, pxL103, pxL104, pxL105, pxL106, pxL107, pxL108, pxL109, pxL110, pxL111, pxL112, pxL113, pxL114, pxL115, pxL116, pxL117, pxL118, pxL119, pxL120, pxL121, pxL122, pxL123, pxL124, pxL125, pxL126, pxL200, pxL240, pxL287, pxL388, pxL400, pxL429, pxL431, pxL440, pxL1240, pxL1600, pxL1681, pxL12028, pxL13849, pxL14880, pxL25173, pxL26908, pxL49600, pxL65535, pxL65536, ↓reduceIte, reduceCtorEq, pxJ_add, pxJ_sub, pxJ_mul, pxJ_neg, pxD_lt_t, pxD_lt_f, pxD_le_t, pxD_le_f, pxD_eq_t, pxD_eq_f, pxJ_lt, pxJ_le, pxJ_eq, px_gI, px_gR, px_pI, px_rc, px_ai, px_ar, px_si, px_ln, px_cp, pxJ_div, pxJ_b8, pxJ_byte, px_b2, px_bs, px_rb0, px_rb1, px_min, px_max, px_compare, pxW_some, jw_t_I, px_cpt, jw_r_I, px_cpr, jw_l_I, px_cpl, Option.some.injEq, t1, b3]
end
