/-! orders line by line: a play begins -/
section
variable {T : pxTx} {W : pxWk} {Fr : pxFh} {S : pxSto} {rep : Bool} {h : jw_H}
/-- the first line is taken -/
theorem s_X1_takeNext0 {rs6 rs7 : List (List Int)} (a1 : pxBF h) (a2 : pxMS h) (a3 : pxHS h) (a4 : pxIX h T) (a5 : pxIF h Fr) (a6 : pxIY h S) (b3 : pxM h 571 12 = W.2.2.1) (b4 : pxM h 571 13 = W.2.2.2.1) (b6 : pxIR h 578 1 rs6) (b7 : pxIR h 581 41 rs7) (b9 : 0 ≤ W.2.2.1 ∧ W.2.2.1 ≤ (T.1.length : Int)) (b10 : 0 ≤ W.2.2.2.1) (b11 : W.2.2.2.1 ≤ W.2.2.1) (a8 : ∃ rs, pxIR h 584 60 rs) (a10 : 0 ≤ Fr.2.2 ∧ Fr.2.2 ≤ T.2.2.2 + Fr.1.length ∧ T.2.2.2 ≤ 2000000) :
    (W.2.2.1 < T.1.length → ∃ h', f_X1_takeNext h 571 = some ((), h') ∧ pxF (fun k f => (k = 571 ∧ (10 ≤ f ∧ f ≤ 13 ∨ f = 16 ∨ f = 17)) ∨ (578 ≤ k ∧ k ≤ 583) ∨ (k = 536 ∧ f = 5)) h h' ∧ pxM h' 571 17 = 1 ∧ pxBS h' T (pxBNext T W, Fr, S, false)) ∧
    (¬ W.2.2.1 < T.1.length → f_X1_takeNext h 571 = some ((), jw_setI h 571 17 (pxJ 0))) := by
  obtain ⟨rs8, a8⟩ := a8
  obtain ⟨t1, r0, r1, r2, r3, r4, r5, r6, r7, r8, r9⟩ := id a1
  have t9 := a4.1.1
  have q0 := a4.1.2.1
  have t7 := a4.2.1.1.1
  have c2 := pxIT.c2 a4
  have l40 := pxIT.len a4
  unfold f_X1_takeNext
  refine ⟨fun c => ?_, fun c => ?_⟩
  · -- fields
    have t2 := a3.1
    have F1 : pxF (fun k f => k = 571 ∧ (11 ≤ f ∧ f ≤ 13 ∨ f = 17)) h (jw_setI (jw_setI (jw_setI (jw_setI h 571 17 (pxJ 1)) 571 12 (pxJ (W.2.2.1 + 1))) 571 13 (pxJ (W.2.2.2.1 + 1))) 571 11 (pxJ (W.2.2.1 + 1))) :=
      (((pxF.setI (by omega)).trans (pxF.setI (by omega))).trans (pxF.setI (by omega))).trans (pxF.setI (by omega))
    have m171 : pxM (jw_setI h 571 17 (pxJ 1)) 571 17 = 1 := pxM_eq (by omega) (by omega)
    have m121 : pxM (jw_setI h 571 17 (pxJ 1)) 571 12 = W.2.2.1 := by rw [pxM_ne (by omega)]; exact b3
    have m132 : pxM (jw_setI (jw_setI h 571 17 (pxJ 1)) 571 12 (pxJ (W.2.2.1 + 1))) 571 13 = W.2.2.2.1 := by rw [pxM_ne (by omega), pxM_ne (by omega)]; exact b4
    have m123 : pxM (jw_setI (jw_setI (jw_setI h 571 17 (pxJ 1)) 571 12 (pxJ (W.2.2.1 + 1))) 571 13 (pxJ (W.2.2.2.1 + 1))) 571 12 = W.2.2.1 + 1 := by rw [pxM_ne (by omega)]; exact pxM_eq (by omega) (by omega)
    have m124 : pxM (jw_setI (jw_setI (jw_setI (jw_setI h 571 17 (pxJ 1)) 571 12 (pxJ (W.2.2.1 + 1))) 571 13 (pxJ (W.2.2.2.1 + 1))) 571 11 (pxJ (W.2.2.1 + 1))) 571 12 = W.2.2.1 + 1 := by rw [pxM_ne (by omega)]; exact m123
    have m134 : pxM (jw_setI (jw_setI (jw_setI (jw_setI h 571 17 (pxJ 1)) 571 12 (pxJ (W.2.2.1 + 1))) 571 13 (pxJ (W.2.2.2.1 + 1))) 571 11 (pxJ (W.2.2.1 + 1))) 571 13 = W.2.2.2.1 + 1 := by rw [pxM_ne (by omega)]; exact pxM_eq (by omega) (by omega)
    have m114 : pxM (jw_setI (jw_setI (jw_setI (jw_setI h 571 17 (pxJ 1)) 571 12 (pxJ (W.2.2.1 + 1))) 571 13 (pxJ (W.2.2.2.1 + 1))) 571 11 (pxJ (W.2.2.1 + 1))) 571 11 = W.2.2.1 + 1 := pxM_eq (by omega) (by omega)
    have m174 : pxM (jw_setI (jw_setI (jw_setI (jw_setI h 571 17 (pxJ 1)) 571 12 (pxJ (W.2.2.1 + 1))) 571 13 (pxJ (W.2.2.2.1 + 1))) 571 11 (pxJ (W.2.2.1 + 1))) 571 17 = 1 := by rw [pxM_ne (by omega), pxM_ne (by omega), pxM_ne (by omega)]; exact m171
    have head : ((jw_gI h 1 (some 571) 12).bind fun v1 =>
 (jw_gR h 1 (some 571) 1).bind fun v2 =>
 (jw_gR h 9 v2 0).bind fun v3 =>
 (jw_gI h 7 v3 2).bind fun v4 =>
 if v4 ≤ v1 then (g_X1_takeNext_b23 h 571 571 (0 : Int32))
 else (g_X1_takeNext_b23 h 571 571 (1 : Int32))) = g_X1_takeNext_b23 h 571 571 (1 : Int32) := by
      clear a1 a2 a3 a4 a5 a6 a8 b6 b7 a10
      simp (maxSteps := 4000000) (disch := first | assumption | omega | (simp only [jw_t_I, px_cpt]; done) | (simp only [jw_t_I, px_cpt]; omega)) only [pxL0, pxL1, pxL2, pxL3, pxL4, pxL5, pxL6, pxL7, pxL8, pxL9, pxL10, pxL11, pxL12, pxL13, pxL14, pxL15, pxL16, pxL17, pxL18, pxL19, pxL20, pxL21, pxL22, pxL23, pxL24, pxL25, pxL26, pxL27, pxL28, pxL29, pxL30, pxL31, pxL32, pxL33, pxL34, pxL35, pxL36, pxL37, pxL38, pxL39, pxL40, pxL41, pxL42, pxL43, pxL44, pxL45, pxL46, pxL47, pxL48, pxL49, pxL51, pxL57, pxL58, pxL59, pxL60, pxL61, pxL62, pxL63, pxL64, pxL65, pxL66, pxL67, pxL68, pxL69, pxL70, pxL71, pxL72, pxL73, pxL74, pxL75, pxL76, pxL77, pxL78, pxL79, pxL80, pxL81, pxL82, pxL83, pxL84, pxL85, pxL86, pxL87, pxL88, pxL89, pxL90, pxL91, pxL92, pxL93, pxL94, pxL95, pxL96, pxL97, pxL98, pxL99, pxL100, pxL101, pxL102, pxL103, pxL104, pxL105, pxL106, pxL107, pxL108, pxL109, pxL110, pxL111, pxL112, pxL113, pxL114, pxL115, pxL116, pxL117, pxL118, pxL119, pxL120, pxL121, pxL122, pxL123, pxL124, pxL125, pxL126, pxL200, pxL240, pxL287, pxL388, pxL400, pxL429, pxL431, pxL440, pxL1240, pxL1600, pxL1681, pxL12028, pxL13849, pxL14880, pxL25173, pxL26908, pxL49600, pxL65535, pxL65536, ↓reduceIte, reduceCtorEq, pxJ_add, pxJ_sub, pxJ_mul, pxJ_neg, pxD_lt_t, pxD_lt_f, pxD_le_t, pxD_le_f, pxD_eq_t, pxD_eq_f, pxJ_lt, pxJ_le, pxJ_eq, px_gI, px_gR, px_pI, px_rc, px_ai, px_ar, px_si, px_ln, px_cp, pxJ_div, pxJ_b8, pxJ_byte, px_b2, px_bs, px_rb0, px_rb1, px_min, px_max, px_compare, pxW_some, jw_t_I, px_cpt, jw_r_I, px_cpr, jw_l_I, px_cpl, Option.some.injEq, b3, t1, r1, t9, q0, t7, c2]
    rw [head]
    generalize e4 : jw_setI (jw_setI (jw_setI (jw_setI h 571 17 (pxJ 1)) 571 12 (pxJ (W.2.2.1 + 1))) 571 13 (pxJ (W.2.2.2.1 + 1))) 571 11 (pxJ (W.2.2.1 + 1)) = h4 at *
    have T4 : pxIX h4 T := pxIT.fr a4 F1 (fun k f _ _ => by omega)
    have io := s_X9_idOf T4 (x := W.2.2.1 + 1) (by omega) (by omega)
    rw [if_pos (by omega)] at io
    have idr := pxIT.idr T4 (x := W.2.2.1 + 1) (by omega) (by omega)
    have F5 : pxF (fun k f => k = 571 ∧ f = 10) h4 (jw_setI h4 571 10 (pxJ (pxId T.1 (W.2.2.1 + 1)))) := pxF.setI ⟨rfl, rfl⟩
    have F15 : pxF (fun k f => k = 571 ∧ (10 ≤ f ∧ f ≤ 13 ∨ f = 17)) h (jw_setI h4 571 10 (pxJ (pxId T.1 (W.2.2.1 + 1)))) := (F1.mono (fun k f z => by omega)).trans (F5.mono (fun k f z => by omega))
    have m105 : pxM (jw_setI h4 571 10 (pxJ (pxId T.1 (W.2.2.1 + 1)))) 571 10 = pxId T.1 (W.2.2.1 + 1) := pxM_eq (by omega) (by omega)
    have m125 : pxM (jw_setI h4 571 10 (pxJ (pxId T.1 (W.2.2.1 + 1)))) 571 12 = W.2.2.1 + 1 := by rw [F5.m (by omega)]; exact m124
    have m135 : pxM (jw_setI h4 571 10 (pxJ (pxId T.1 (W.2.2.1 + 1)))) 571 13 = W.2.2.2.1 + 1 := by rw [F5.m (by omega)]; exact m134
    have m115 : pxM (jw_setI h4 571 10 (pxJ (pxId T.1 (W.2.2.1 + 1)))) 571 11 = W.2.2.1 + 1 := by rw [F5.m (by omega)]; exact m114
    have m175 : pxM (jw_setI h4 571 10 (pxJ (pxId T.1 (W.2.2.1 + 1)))) 571 17 = 1 := by rw [F5.m (by omega)]; exact m174
    generalize e5 : jw_setI h4 571 10 (pxJ (pxId T.1 (W.2.2.1 + 1))) = h5 at *
    obtain ⟨q6, h6, e6, F6, R6⟩ := s_X7_shrink (b6.fr F15 (fun k f _ _ => by omega)) (x := 0) (by omega) (by omega)
    have R6 : pxIR h6 578 1 [] := by
      by_cases z : 0 ≤ (0 : Int) ∧ (0 : Int) < rs6.length
      · rw [if_pos z, show ((0 : Int)).toNat = 0 from rfl, List.take_zero] at R6; exact R6
      · rw [if_neg z] at R6
        have : rs6 = [] := List.length_eq_zero_iff.mp (by omega)
        rw [this] at R6; exact R6
    have F16 : pxF (fun k f => (k = 571 ∧ (10 ≤ f ∧ f ≤ 13 ∨ f = 17)) ∨ (578 ≤ k ∧ k ≤ 580)) h h6 := (F15.mono (fun k f z => Or.inl z)).trans (F6.mono (fun k f z => by unfold pxC at z; omega))
    have T6 : pxIX h6 T := pxIT.fr a4 F16 (fun k f _ _ => by omega)
    have lr : (pxRs T.1).length = T.1.length := List.length_map _
    obtain ⟨q7, h7, e7, F7, eq7, R7⟩ := s_X7_addRow R6 T6.2.1 (y := W.2.2.1 + 1) (by omega) (by omega)
    rw [if_pos (by simp), List.nil_append] at R7
    have F17 : pxF (fun k f => (k = 571 ∧ (10 ≤ f ∧ f ≤ 13 ∨ f = 17)) ∨ (578 ≤ k ∧ k ≤ 580)) h h7 := F16.trans (F7.mono (fun k f z => by unfold pxC at z; omega))
    obtain ⟨q8, h8, e8, F8, R8⟩ := s_X7_shrink (b7.fr F17 (fun k f _ _ => by omega)) (x := 0) (by omega) (by omega)
    have R8' : pxIR h8 581 41 [] := by
      by_cases z : 0 ≤ (0 : Int) ∧ (0 : Int) < rs7.length
      · rw [if_pos z, show ((0 : Int)).toNat = 0 from rfl, List.take_zero] at R8; exact R8
      · rw [if_neg z] at R8
        have : rs7 = [] := List.length_eq_zero_iff.mp (by omega)
        rw [this] at R8; exact R8
    have F18 : pxF (fun k f => (k = 571 ∧ (10 ≤ f ∧ f ≤ 13 ∨ f = 17)) ∨ (578 ≤ k ∧ k ≤ 583)) h h8 := (F17.mono (fun k f z => by omega)).trans (F8.mono (fun k f z => by unfold pxC at z; omega))
    have F9 : pxF (fun k f => (k = 571 ∧ f = 16) ∨ (k = 536 ∧ f = 5)) h8 (jw_setI (jw_setI h8 571 16 (pxJ 0)) 536 5 (pxJ 0)) := (pxF.setI (Or.inl ⟨rfl, rfl⟩)).trans (pxF.setI (Or.inr ⟨rfl, rfl⟩))
    have F58 : pxF (fun k f => 578 ≤ k ∧ k ≤ 583) h5 h8 := ((F6.mono (fun k f z => by unfold pxC at z; omega)).trans (F7.mono (fun k f z => by unfold pxC at z; omega))).trans (F8.mono (fun k f z => by unfold pxC at z; omega))
    have F59 : pxF (fun k f => (578 ≤ k ∧ k ≤ 583) ∨ (k = 571 ∧ f = 16) ∨ (k = 536 ∧ f = 5)) h5 (jw_setI (jw_setI h8 571 16 (pxJ 0)) 536 5 (pxJ 0)) := (F58.mono (fun k f z => Or.inl z)).trans (F9.mono (fun k f z => Or.inr z))
    have F19 : pxF (fun k f => (k = 571 ∧ (10 ≤ f ∧ f ≤ 13 ∨ f = 16 ∨ f = 17)) ∨ (578 ≤ k ∧ k ≤ 583) ∨ (k = 536 ∧ f = 5)) h (jw_setI (jw_setI h8 571 16 (pxJ 0)) 536 5 (pxJ 0)) := (F18.mono (fun k f z => by omega)).trans (F9.mono (fun k f z => by omega))
    refine ⟨jw_setI (jw_setI h8 571 16 (pxJ 0)) 536 5 (pxJ 0), ?_, F19, by rw [F59.m (by omega)]; exact m175, a1.fr F19 (fun f z => by omega), a2.fr F19 (fun f z => by omega), a3.fr F19 (fun f z => by omega), pxIT.fr a4 F19 (fun k f _ _ => by omega), a5.fr F19 (fun k f _ _ => by omega), pxIS.fr a6 F19 (fun k f _ _ => by omega), ⟨by rw [F59.m (by omega)]; exact m105, by rw [F59.m (by omega)]; exact m115, by rw [F59.m (by omega)]; exact m125, by rw [F59.m (by omega)]; exact m135, ?_, (R7.fr F8 (fun k f _ _ => by unfold pxC; omega)).fr F9 (fun k f _ _ => by omega), R8'.fr F9 (fun k f _ _ => by omega), by show 0 ≤ W.2.2.1 + 1 ∧ W.2.2.1 + 1 ≤ _; omega, by show 0 ≤ W.2.2.1 + 1 ∧ W.2.2.1 + 1 ≤ _; omega, by show 0 ≤ W.2.2.2.1 + 1; omega, by show W.2.2.2.1 + 1 ≤ W.2.2.1 + 1; omega⟩, ⟨rs8, a8.fr F19 (fun k f _ _ => by omega)⟩, pxM_eq (by omega) (by omega), a10⟩
    · have t14 : (jw_t h4 571).1 = 1 := by rw [F1.t]; exact t1
      have r14 : jw_r h4 571 1 = some 255 := by rw [F1.r (by omega)]; exact r1
      have t94 : (jw_t h4 255).1 = 9 := by rw [F1.t]; exact t9
      have r74 : jw_r h4 571 7 = some 578 := by rw [F1.r (by omega)]; exact r7
      have t15 : (jw_t h5 571).1 = 1 := by rw [F15.t]; exact t1
      have r75 : jw_r h5 571 7 = some 578 := by rw [F15.r (by omega)]; exact r7
      have t785 : (jw_t h5 578).1 = 7 := by rw [F15.t]; exact b6.1.1
      have t16 : (jw_t h6 571).1 = 1 := by rw [F16.t]; exact t1
      have r76 : jw_r h6 571 7 = some 578 := by rw [F16.r (by omega)]; exact r7
      have r16 : jw_r h6 571 1 = some 255 := by rw [F16.r (by omega)]; exact r1
      have t96 : (jw_t h6 255).1 = 9 := by rw [F16.t]; exact t9
      have q06 : jw_r h6 255 0 = some 256 := by rw [F16.r (by omega)]; exact q0
      have m126 : pxM h6 571 12 = W.2.2.1 + 1 := by rw [F6.m (by unfold pxC; omega)]; exact m125
      have t786 : (jw_t h6 578).1 = 7 := by rw [F16.t]; exact b6.1.1
      have t17 : (jw_t h7 571).1 = 1 := by rw [F17.t]; exact t1
      have r87 : jw_r h7 571 8 = some 581 := by rw [F17.r (by omega)]; exact r8
      have t817 : (jw_t h7 581).1 = 7 := by rw [F17.t]; exact b7.1.1
      have t18 : (jw_t h8 571).1 = 1 := by rw [F18.t]; exact t1
      have r58 : jw_r h8 571 5 = some 536 := by rw [F18.r (by omega)]; exact r5
      have t28 : (jw_t h8 536).1 = 2 := by rw [F18.t]; exact t2
      unfold g_X1_takeNext_b23
      clear a1 a2 a3 a4 a5 a6 a8 b6 b7 a10 R6 R7 R8 R8' T4 T6 F1 F15 F16 F17 F18 F19 F5 F6 F7 F8 F9 F58 F59 head
      simp (maxSteps := 4000000) (disch := first | assumption | omega | (simp only [jw_t_I, px_cpt, t1, t28]; done) | (simp only [jw_t_I, px_cpt, t1, t28]; omega)) only [pxL0, pxL1, pxL2, pxL3, pxL4, pxL5, pxL6, pxL7, pxL8, pxL9, pxL10, pxL11, pxL12, pxL13, pxL14, pxL15, pxL16, pxL17, pxL18, pxL19, pxL20, pxL21, pxL22, pxL23, pxL24, pxL25, pxL26, pxL27, pxL28, pxL29, pxL30, pxL31, pxL32, pxL33, pxL34, pxL35, pxL36, pxL37, pxL38, pxL39, pxL40, pxL41, pxL42, pxL43, pxL44, pxL45, pxL46, pxL47, pxL48, pxL49, pxL51, pxL57, pxL58, pxL59, pxL60, pxL61, pxL62, pxL63, pxL64, pxL65, pxL66, pxL67, pxL68, pxL69, pxL70, pxL71, pxL72, pxL73, pxL74, pxL75, pxL76, pxL77, pxL78, pxL79, pxL80, pxL81, pxL82, pxL83, pxL84, pxL85, pxL86, pxL87, pxL88, pxL89, pxL90, pxL91, pxL92, pxL93, pxL94, pxL95, pxL96, pxL97, pxL98, pxL99, pxL100, pxL101, pxL102, pxL103, pxL104, pxL105, pxL106, pxL107, pxL108, pxL109, pxL110, pxL111, pxL112, pxL113, pxL114, pxL115, pxL116, pxL117, pxL118, pxL119, pxL120, pxL121, pxL122, pxL123, pxL124, pxL125, pxL126, pxL200, pxL240, pxL287, pxL388, pxL400, pxL429, pxL431, pxL440, pxL1240, pxL1600, pxL1681, pxL12028, pxL13849, pxL14880, pxL25173, pxL26908, pxL49600, pxL65535, pxL65536, ↓reduceIte, reduceCtorEq, pxJ_add, pxJ_sub, pxJ_mul, pxJ_neg, pxD_lt_t, pxD_lt_f, pxD_le_t, pxD_le_f, pxD_eq_t, pxD_eq_f, pxJ_lt, pxJ_le, pxJ_eq, px_gI, px_gR, px_pI, px_rc, px_ai, px_ar, px_si, px_ln, px_cp, pxJ_div, pxJ_b8, pxJ_byte, px_b2, px_bs, px_rb0, px_rb1, px_min, px_max, px_compare, pxW_some, jw_t_I, px_cpt, jw_r_I, px_cpr, jw_l_I, px_cpl, Option.some.injEq, t1, t28, px_pB1, px_pB0, m171, m121, m132, m123, e4, m124, t14, r14, r1, r7, r74, r5, t94, io, e5, t15, r75, t785, e6, t16, r76, r16, t96, q06, m126, t786, e7, t17, r87, t817, e8, t18, r58]
    · show pxM (jw_setI (jw_setI h8 571 16 (pxJ 0)) 536 5 (pxJ 0)) 571 16 = 0
      rw [pxM_ne (by omega)]; exact pxM_eq (by omega) (by omega)
  · have m170 : pxM (jw_setI h 571 17 (pxJ 0)) 571 17 = 0 := pxM_eq (by omega) (by omega)
    unfold g_X1_takeNext_b23
    clear a1 a2 a3 a4 a5 a6 a8 b6 b7 a10
    simp (maxSteps := 4000000) (disch := first | assumption | omega | (simp only [jw_t_I, px_cpt, t1]; done) | (simp only [jw_t_I, px_cpt, t1]; omega)) only [pxL0, pxL1, pxL2, pxL3, pxL4, pxL5, pxL6, pxL7, pxL8, pxL9, pxL10, pxL11, pxL12, pxL13, pxL14, pxL15, pxL16, pxL17, pxL18, pxL19, pxL20, pxL21, pxL22, pxL23, pxL24, pxL25, pxL26, pxL27, pxL28, pxL29, pxL30, pxL31, pxL32, pxL33, pxL34, pxL35, pxL36, pxL37, pxL38, pxL39, pxL40, pxL41, pxL42, pxL43, pxL44, pxL45, pxL46, pxL47, pxL48, pxL49, pxL51, pxL57, pxL58, pxL59, pxL60, pxL61, pxL62, pxL63, pxL64, pxL65, pxL66, pxL67, pxL68, pxL69, pxL70, pxL71, pxL72, pxL73, pxL74, pxL75, pxL76, pxL77, pxL78, pxL79, pxL80, pxL81, pxL82, pxL83, pxL84, pxL85, pxL86, pxL87, pxL88, pxL89, pxL90, pxL91, pxL92, pxL93, pxL94, pxL95, pxL96, pxL97, pxL98, pxL99, pxL100, pxL101, pxL102, pxL103, pxL104, pxL105, pxL106, pxL107, pxL108, pxL109, pxL110, pxL111, pxL112, pxL113, pxL114, pxL115, pxL116, pxL117, pxL118, pxL119, pxL120, pxL121, pxL122, pxL123, pxL124, pxL125, pxL126, pxL200, pxL240, pxL287, pxL388, pxL400, pxL429, pxL431, pxL440, pxL1240, pxL1600, pxL1681, pxL12028, pxL13849, pxL14880, pxL25173, pxL26908, pxL49600, pxL65535, pxL65536, ↓reduceIte, reduceCtorEq, pxJ_add, pxJ_sub, pxJ_mul, pxJ_neg, pxD_lt_t, pxD_lt_f, pxD_le_t, pxD_le_f, pxD_eq_t, pxD_eq_f, pxJ_lt, pxJ_le, pxJ_eq, px_gI, px_gR, px_pI, px_rc, px_ai, px_ar, px_si, px_ln, px_cp, pxJ_div, pxJ_b8, pxJ_byte, px_b2, px_bs, px_rb0, px_rb1, px_min, px_max, px_compare, pxW_some, jw_t_I, px_cpt, jw_r_I, px_cpr, jw_l_I, px_cpl, Option.some.injEq, t1, b3, t1, r1, t9, q0, t7, c2, px_pB0, m170]
end
/-- files that are written are made empty -/
def pxBClr (s : List Int) : List (Int × Nat) → pxSto → pxSto
  | [], S => S
  | e :: r, S => pxBClr s r (if pxAc s e.1 = 119 then (S.1, S.2.1, pxUF S.2.2 (pxOn s (pxWh s e.1).2.1) []) else S)
/-- what must be there ahead of a play, and is there behind it -/
def pxBX (h : jw_H) : Prop := pxBF h ∧ pxSX h 572 ∧ (∃ rs, pxIR h 578 1 rs) ∧ (∃ rs, pxIR h 581 41 rs) ∧ (∃ rs, pxIR h 584 60 rs)
theorem pxIT.none0 {h : jw_H} {t : Nat} {ls : pxLs} {mk : Int → Int} {now nx : Int} {h' : jw_H} (H : pxIT h t ls mk now nx) (F : pxF (pxC (t + 1) (t + 3)) h h') (R : pxIR h' (t + 1) 40 []) : pxIT h' t [] mk now nx := by
  obtain ⟨a1, a2, a3, a4, a5, a6⟩ := H
  exact ⟨a1.fr F (fun f z => by unfold pxC; omega), R, fun x x1 x2 => by
    have : (([] : pxLs).length : Int) = 0 := rfl
    omega, fun k k0 k1 => by rw [F.m (by unfold pxC; omega)]; exact a4 k k0 k1, by rw [F.m (by unfold pxC; omega)]; exact a5, by rw [F.m (by unfold pxC; omega)]; exact a6⟩
section
variable {T : pxTx} {S : pxSto} {h : jw_H} {s : List Int} {b : Nat} {L : List (Int × List Int)}
theorem s_X1_begin_b79 : ∀ (m N : Nat) (h : jw_H) (k : Nat) (S : pxSto), k + m = pxCnt L → m < N → pxPr h b s L → (jw_t h 571).1 = 1 → jw_r h 571 0 = some 10 → jw_r h 571 2 = some 261 → pxIY h S →
    ∃ h', f_X1_begin_b79 N h 571 (pxJ ((k : Nat) : Int)) = some ((), h') ∧ pxF (fun k f => 261 ≤ k ∧ k ≤ 281) h h' ∧ pxIY h' (pxBClr s ((pxFl L 0).drop k) S) := by
  intro m
  induction m with
  | zero =>
    intro N h k S hk hN PR t1 r0 r2 Y
    obtain ⟨N, rfl, -⟩ := px_fu hN
    have dr : (pxFl L 0).drop k = [] := List.drop_of_length_le (by rw [pxFl_len]; omega)
    rw [dr]
    refine ⟨h, ?_, pxF.rfl, Y⟩
    have tg := PR.2.1.1.1
    have m6 := PR.2.2.2.1
    have c60 := PR.2.2.2.2.1
    rw [u_X1_begin_b79]
    unfold g_X1_begin_b79
    clear PR Y dr
    simp (maxSteps := 4000000) (disch := first | assumption | omega | (simp only [jw_t_I, px_cpt]; done) | (simp only [jw_t_I, px_cpt]; omega)) only [pxL0, pxL1, pxL2, pxL3, pxL4, pxL5, pxL6, pxL7, pxL8, pxL9, pxL10, pxL11, pxL12, pxL13, pxL14, pxL15, pxL16, pxL17, pxL18, pxL19, pxL20, pxL21, pxL22, pxL23, pxL24, pxL25, pxL26, pxL27, pxL28, pxL29, pxL30, pxL31, pxL32, pxL33, pxL34, pxL35, pxL36, pxL37, pxL38, pxL39, pxL40, pxL41, pxL42, pxL43, pxL44, pxL45, pxL46, pxL47, pxL48, pxL49, pxL51, pxL57, pxL58, pxL59, pxL60, pxL61, pxL62, pxL63, pxL64, pxL65, pxL66, pxL67, pxL68, pxL69, pxL70, pxL71, pxL72, pxL73, pxL74, pxL75, pxL76, pxL77, pxL78, pxL79, pxL80, pxL81, pxL82, pxL83, pxL84, pxL85, pxL86, pxL87, pxL88, pxL89, pxL90, pxL91, pxL92, pxL93, pxL94, pxL95, pxL96, pxL97, pxL98, pxL99, pxL100, pxL101, pxL102, pxL103, pxL104, pxL105, pxL106, pxL107, pxL108, pxL109, pxL110, pxL111, pxL112, pxL113, pxL114, pxL115, pxL116, pxL117, pxL118, pxL119, pxL120, pxL121, pxL122, pxL123, pxL124, pxL125, pxL126, pxL200, pxL240, pxL287, pxL388, pxL400, pxL429, pxL431, pxL440, pxL1240, pxL1600, pxL1681, pxL12028, pxL13849, pxL14880, pxL25173, pxL26908, pxL49600, pxL65535, pxL65536, ↓reduceIte, reduceCtorEq, pxJ_add, pxJ_sub, pxJ_mul, pxJ_neg, pxD_lt_t, pxD_lt_f, pxD_le_t, pxD_le_f, pxD_eq_t, pxD_eq_f, pxJ_lt, pxJ_le, pxJ_eq, px_gI, px_gR, px_pI, px_rc, px_ai, px_ar, px_si, px_ln, px_cp, pxJ_div, pxJ_b8, pxJ_byte, px_b2, px_bs, px_rb0, px_rb1, px_min, px_max, px_compare, pxW_some, jw_t_I, px_cpt, jw_r_I, px_cpr, jw_l_I, px_cpl, Option.some.injEq, t1, r0, tg, m6]
  | succ m ih =>
    intro N h k S hk hN PR t1 r0 r2 Y
    obtain ⟨N, rfl, -⟩ := px_fu hN
    have kl : k < (pxFl L 0).length := by rw [pxFl_len]; omega
    obtain ⟨⟨q, nx⟩, eq⟩ : ∃ e, (pxFl L 0)[k]? = some e := ⟨_, List.getElem?_eq_getElem kl⟩
    have dr : (pxFl L 0).drop k = (q, nx) :: (pxFl L 0).drop (k + 1) := by
      rw [List.drop_eq_getElem_cons kl]
      rw [List.getElem?_eq_getElem kl] at eq
      rw [Option.some.inj eq]
    obtain ⟨OC, m9, -, -⟩ := PR.fl eq
    have PS := OC.2.2.1.1
    have tg := PS.1
    have m6 := PR.2.2.2.1
    have c60 := PR.2.2.2.2.1
    have t5 := (PS.2.2.2.2.2.2.2 k OC.2.1).2.1
    have f3 : pxM h (12 + 4 * k) 3 = pxAc s q := OC.2.2.2.1.2.2.2.1
    have g0 := pxM_lo h (12 + 4 * k) 3
    have g1 := pxM_hi h (12 + 4 * k) 3
    rw [f3] at g0 g1
    have oa := s_X6_orderAt PS m6 (by omega) (x := ((k : Nat) : Int)) (by omega) (by omega)
    rw [if_pos (by omega), show (((k : Nat) : Int)).toNat = k by omega] at oa
    rw [dr]
    unfold pxBClr
    by_cases c : pxAc s q = 119
    · rw [if_pos c]
      have n3 : ¬ (pxAc s q = 123 ∨ pxAc s q = 103 ∨ pxAc s q = 71) := by omega
      obtain ⟨-, -, -, Ak, ok, -⟩ := OC.co n3
      have rc : pxP s (pxWh s q).2.1 = 119 := c
      have n5 := Ak.2.1 (by unfold pxOnA; omega)
      have eO : pxOn s (pxWh s q).2.1 = pxP s ((pxWh s q).2.1 + 1) - 48 := by unfold pxOn; rw [if_neg (by omega), if_pos (Or.inr rc)]
      have nr : 48 ≤ pxP s ((pxWh s q).2.1 + 1) ∧ pxP s ((pxWh s q).2.1 + 1) ≤ 51 := by
        unfold pxAct at ok
        rw [rc] at ok
        by_cases z : 48 ≤ pxP s ((pxWh s q).2.1 + 1) ∧ pxP s ((pxWh s q).2.1 + 1) ≤ 51
        · exact z
        · rw [if_neg (by omega), if_neg (by omega), if_neg (by omega), if_neg (by omega), if_neg (by omega), if_pos (by omega), if_neg z] at ok
          cases ok
      have fe := s_X8_file Y.1 (k := pxOn s (pxWh s q).2.1) (by omega) (by omega)
      rw [if_pos (by omega)] at fe
      have Rf := Y.2.2.2 (pxOn s (pxWh s q).2.1) (by omega) (by omega)
      obtain ⟨u1, h1, e1, F1, R1⟩ := s_X7_empty Rf
      have Y1 := pxIY.file Y F1 (k := pxOn s (pxWh s q).2.1) (by omega) (fun k' f z => by unfold pxC at z; omega) R1
      have F1' : pxF (fun k f => 261 ≤ k ∧ k ≤ 281) h h1 := F1.mono (fun k' f z => by unfold pxC at z; omega)
      obtain ⟨h', e', F', Y'⟩ := ih N h1 (k + 1) _ (by omega) (by omega) (PR.fb F1' (fun k f z => by omega)) (by rw [F1.t]; exact t1) (by rw [F1'.r (by omega)]; exact r0) (by rw [F1'.r (by omega)]; exact r2) Y1
      refine ⟨h', ?_, F1'.trans F', Y'⟩
      rw [← e', u_X1_begin_b79, show (((k + 1 : Nat) : Nat) : Int) = (k : Int) + 1 by omega]
      unfold g_X1_begin_b79 g_X1_begin_b127 g_X1_begin_b137
      have t8 := Y.1.1
      have t7f := Rf.1.1
      clear ih PR OC PS Y Y1 Y' F1 F1' F' e' R1 Rf Ak ok eq dr
      simp (maxSteps := 4000000) (disch := first | assumption | omega | (simp only [jw_t_I, px_cpt, t7f]; done) | (simp only [jw_t_I, px_cpt, t7f]; omega)) only [pxL0, pxL1, pxL2, pxL3, pxL4, pxL5, pxL6, pxL7, pxL8, pxL9, pxL10, pxL11, pxL12, pxL13, pxL14, pxL15, pxL16, pxL17, pxL18, pxL19, pxL20, pxL21, pxL22, pxL23, pxL24, pxL25, pxL26, pxL27, pxL28, pxL29, pxL30, pxL31, pxL32, pxL33, pxL34, pxL35, pxL36, pxL37, pxL38, pxL39, pxL40, pxL41, pxL42, pxL43, pxL44, pxL45, pxL46, pxL47, pxL48, pxL49, pxL51, pxL57, pxL58, pxL59, pxL60, pxL61, pxL62, pxL63, pxL64, pxL65, pxL66, pxL67, pxL68, pxL69, pxL70, pxL71, pxL72, pxL73, pxL74, pxL75, pxL76, pxL77, pxL78, pxL79, pxL80, pxL81, pxL82, pxL83, pxL84, pxL85, pxL86, pxL87, pxL88, pxL89, pxL90, pxL91, pxL92, pxL93, pxL94, pxL95, pxL96, pxL97, pxL98, pxL99, pxL100, pxL101, pxL102, pxL103, pxL104, pxL105, pxL106, pxL107, pxL108, pxL109, pxL110, pxL111, pxL112, pxL113, pxL114, pxL115, pxL116, pxL117, pxL118, pxL119, pxL120, pxL121, pxL122, pxL123, pxL124, pxL125, pxL126, pxL200, pxL240, pxL287, pxL388, pxL400, pxL429, pxL431, pxL440, pxL1240, pxL1600, pxL1681, pxL12028, pxL13849, pxL14880, pxL25173, pxL26908, pxL49600, pxL65535, pxL65536, ↓reduceIte, reduceCtorEq, pxJ_add, pxJ_sub, pxJ_mul, pxJ_neg, pxD_lt_t, pxD_lt_f, pxD_le_t, pxD_le_f, pxD_eq_t, pxD_eq_f, pxJ_lt, pxJ_le, pxJ_eq, px_gI, px_gR, px_pI, px_rc, px_ai, px_ar, px_si, px_ln, px_cp, pxJ_div, pxJ_b8, pxJ_byte, px_b2, px_bs, px_rb0, px_rb1, px_min, px_max, px_compare, pxW_some, jw_t_I, px_cpt, jw_r_I, px_cpr, jw_l_I, px_cpl, Option.some.injEq, t7f, t1, r0, tg, m6, oa, t5, f3, c, r2, n5, t8, fe, e1]
    · rw [if_neg c]
      obtain ⟨h', e', F', Y'⟩ := ih N h (k + 1) S (by omega) (by omega) PR t1 r0 r2 Y
      refine ⟨h', ?_, F', Y'⟩
      rw [← e', u_X1_begin_b79, show (((k + 1 : Nat) : Nat) : Int) = (k : Int) + 1 by omega]
      unfold g_X1_begin_b79 g_X1_begin_b112 g_X1_begin_b127 g_X1_begin_b137
      clear ih PR OC PS Y Y' F' e' eq dr
      simp (maxSteps := 4000000) (disch := first | assumption | omega | (simp only [jw_t_I, px_cpt, t5]; done) | (simp only [jw_t_I, px_cpt, t5]; omega)) only [pxL0, pxL1, pxL2, pxL3, pxL4, pxL5, pxL6, pxL7, pxL8, pxL9, pxL10, pxL11, pxL12, pxL13, pxL14, pxL15, pxL16, pxL17, pxL18, pxL19, pxL20, pxL21, pxL22, pxL23, pxL24, pxL25, pxL26, pxL27, pxL28, pxL29, pxL30, pxL31, pxL32, pxL33, pxL34, pxL35, pxL36, pxL37, pxL38, pxL39, pxL40, pxL41, pxL42, pxL43, pxL44, pxL45, pxL46, pxL47, pxL48, pxL49, pxL51, pxL57, pxL58, pxL59, pxL60, pxL61, pxL62, pxL63, pxL64, pxL65, pxL66, pxL67, pxL68, pxL69, pxL70, pxL71, pxL72, pxL73, pxL74, pxL75, pxL76, pxL77, pxL78, pxL79, pxL80, pxL81, pxL82, pxL83, pxL84, pxL85, pxL86, pxL87, pxL88, pxL89, pxL90, pxL91, pxL92, pxL93, pxL94, pxL95, pxL96, pxL97, pxL98, pxL99, pxL100, pxL101, pxL102, pxL103, pxL104, pxL105, pxL106, pxL107, pxL108, pxL109, pxL110, pxL111, pxL112, pxL113, pxL114, pxL115, pxL116, pxL117, pxL118, pxL119, pxL120, pxL121, pxL122, pxL123, pxL124, pxL125, pxL126, pxL200, pxL240, pxL287, pxL388, pxL400, pxL429, pxL431, pxL440, pxL1240, pxL1600, pxL1681, pxL12028, pxL13849, pxL14880, pxL25173, pxL26908, pxL49600, pxL65535, pxL65536, ↓reduceIte, reduceCtorEq, pxJ_add, pxJ_sub, pxJ_mul, pxJ_neg, pxD_lt_t, pxD_lt_f, pxD_le_t, pxD_le_f, pxD_eq_t, pxD_eq_f, pxJ_lt, pxJ_le, pxJ_eq, px_gI, px_gR, px_pI, px_rc, px_ai, px_ar, px_si, px_ln, px_cp, pxJ_div, pxJ_b8, pxJ_byte, px_b2, px_bs, px_rb0, px_rb1, px_min, px_max, px_compare, pxW_some, jw_t_I, px_cpt, jw_r_I, px_cpr, jw_l_I, px_cpl, Option.some.injEq, t5, t1, r0, tg, m6, oa, f3]
theorem s_X1_begin (PR : pxPr h b s L) (X : pxBX h) (I : pxIX h T) (Y : pxIY h S) (B : pxSSX h 538) :
    ∃ h', f_X1_begin h 571 = some ((), h') ∧ pxF (fun k f => (261 ≤ k ∧ k ≤ 281) ∨ (538 ≤ k ∧ k ≤ 558) ∨ (572 ≤ k ∧ k ≤ 577) ∨ (k = 571 ∧ (12 ≤ f ∧ f ≤ 15 ∨ f = 18 ∨ f = 19))) h h' ∧ pxIS h' 538 S.1 S.2.1 S.2.2 ∧ pxIF h' ([], T.2.1, T.2.2.2) ∧ pxIY h' (pxBClr s (pxFl L 0) S) ∧
      pxM h' 571 12 = 0 ∧ pxM h' 571 13 = 0 ∧ pxM h' 571 14 = 0 ∧ pxM h' 571 15 = 0 ∧ pxM h' 571 18 = 0 ∧ pxM h' 571 19 = 0 := by
  obtain ⟨a1, a5, -⟩ := X
  obtain ⟨t1, r0, r1, r2, r3, r4, r5, r6, r7, r8, r9⟩ := id a1
  obtain ⟨u1, h1, e1, F1, B1⟩ := s_X8_copy (s := 538) (s2 := 261) B (hl := S.1) (ou := S.2.1) (fl := S.2.2) Y (by omega)
  have F1' : pxF (fun k f => 538 ≤ k ∧ k ≤ 558) h h1 := F1.mono (fun k f z => by unfold pxC at z; omega)
  have I1 : pxIX h1 T := pxIT.fr I F1' (fun k f _ _ => by omega)
  have a51 : pxSX h1 572 := a5.fr F1' (fun k f _ _ => by omega)
  obtain ⟨u2, h2, e2, F2, I2⟩ := s_X9_copy a51 I1 (by omega)
  have F2' : pxF (fun k f => 572 ≤ k ∧ k ≤ 577) h1 h2 := F2.mono (fun k f z => by unfold pxC at z; omega)
  obtain ⟨u3, h3, e3, F3, R3⟩ := s_X7_empty I2.2.1
  have I3 := pxIT.none0 I2 F3 R3
  have F3' : pxF (fun k f => 572 ≤ k ∧ k ≤ 577) h2 h3 := F3.mono (fun k f z => by unfold pxC at z; omega)
  have nxr := pxIT.nxr I
  have I4 := pxIT.nxt4 I3 (v := T.2.2.2) nxr.1 nxr.2
  have F13 : pxF (fun k f => (538 ≤ k ∧ k ≤ 558) ∨ (572 ≤ k ∧ k ≤ 577)) h h3 := ((F1'.mono (fun k f z => Or.inl z)).trans (F2'.mono (fun k f z => Or.inr z))).trans (F3'.mono (fun k f z => Or.inr z))
  have F5 : pxF (fun k f => k = 571 ∧ (12 ≤ f ∧ f ≤ 15 ∨ f = 18 ∨ f = 19)) (jw_setI h3 572 4 (pxJ T.2.2.2)) (jw_setI (jw_setI (jw_setI (jw_setI (jw_setI (jw_setI (jw_setI h3 572 4 (pxJ T.2.2.2)) 571 12 (pxJ 0)) 571 13 (pxJ 0)) 571 14 (pxJ 0)) 571 15 (pxJ 0)) 571 18 (pxJ 0)) 571 19 (pxJ 0)) :=
    (((((pxF.setI (by omega)).trans (pxF.setI (by omega))).trans (pxF.setI (by omega))).trans (pxF.setI (by omega))).trans (pxF.setI (by omega))).trans (pxF.setI (by omega))
  have z12 : pxM (jw_setI (jw_setI (jw_setI (jw_setI (jw_setI (jw_setI (jw_setI h3 572 4 (pxJ T.2.2.2)) 571 12 (pxJ 0)) 571 13 (pxJ 0)) 571 14 (pxJ 0)) 571 15 (pxJ 0)) 571 18 (pxJ 0)) 571 19 (pxJ 0)) 571 12 = 0 := by simp (disch := omega) only [pxM_ne, pxM_eq, pxPl_p, pxPl_n]
  have z13 : pxM (jw_setI (jw_setI (jw_setI (jw_setI (jw_setI (jw_setI (jw_setI h3 572 4 (pxJ T.2.2.2)) 571 12 (pxJ 0)) 571 13 (pxJ 0)) 571 14 (pxJ 0)) 571 15 (pxJ 0)) 571 18 (pxJ 0)) 571 19 (pxJ 0)) 571 13 = 0 := by simp (disch := omega) only [pxM_ne, pxM_eq, pxPl_p, pxPl_n]
  have z14 : pxM (jw_setI (jw_setI (jw_setI (jw_setI (jw_setI (jw_setI (jw_setI h3 572 4 (pxJ T.2.2.2)) 571 12 (pxJ 0)) 571 13 (pxJ 0)) 571 14 (pxJ 0)) 571 15 (pxJ 0)) 571 18 (pxJ 0)) 571 19 (pxJ 0)) 571 14 = 0 := by simp (disch := omega) only [pxM_ne, pxM_eq, pxPl_p, pxPl_n]
  have z15 : pxM (jw_setI (jw_setI (jw_setI (jw_setI (jw_setI (jw_setI (jw_setI h3 572 4 (pxJ T.2.2.2)) 571 12 (pxJ 0)) 571 13 (pxJ 0)) 571 14 (pxJ 0)) 571 15 (pxJ 0)) 571 18 (pxJ 0)) 571 19 (pxJ 0)) 571 15 = 0 := by simp (disch := omega) only [pxM_ne, pxM_eq, pxPl_p, pxPl_n]
  have z18 : pxM (jw_setI (jw_setI (jw_setI (jw_setI (jw_setI (jw_setI (jw_setI h3 572 4 (pxJ T.2.2.2)) 571 12 (pxJ 0)) 571 13 (pxJ 0)) 571 14 (pxJ 0)) 571 15 (pxJ 0)) 571 18 (pxJ 0)) 571 19 (pxJ 0)) 571 18 = 0 := by simp (disch := omega) only [pxM_ne, pxM_eq, pxPl_p, pxPl_n]
  have z19 : pxM (jw_setI (jw_setI (jw_setI (jw_setI (jw_setI (jw_setI (jw_setI h3 572 4 (pxJ T.2.2.2)) 571 12 (pxJ 0)) 571 13 (pxJ 0)) 571 14 (pxJ 0)) 571 15 (pxJ 0)) 571 18 (pxJ 0)) 571 19 (pxJ 0)) 571 19 = 0 := by simp (disch := omega) only [pxM_ne, pxM_eq, pxPl_p, pxPl_n]
  generalize e5 : jw_setI (jw_setI (jw_setI (jw_setI (jw_setI (jw_setI (jw_setI h3 572 4 (pxJ T.2.2.2)) 571 12 (pxJ 0)) 571 13 (pxJ 0)) 571 14 (pxJ 0)) 571 15 (pxJ 0)) 571 18 (pxJ 0)) 571 19 (pxJ 0) = h5 at *
  have F45 : pxF (fun k f => (572 ≤ k ∧ k ≤ 577) ∨ (k = 571 ∧ (12 ≤ f ∧ f ≤ 15 ∨ f = 18 ∨ f = 19))) h3 h5 := (pxF.setI (P := fun k f => (572 ≤ k ∧ k ≤ 577) ∨ (k = 571 ∧ (12 ≤ f ∧ f ≤ 15 ∨ f = 18 ∨ f = 19))) (by omega)).trans (F5.mono (fun k f z => Or.inr z))
  have F15 : pxF (fun k f => (538 ≤ k ∧ k ≤ 558) ∨ (572 ≤ k ∧ k ≤ 577) ∨ (k = 571 ∧ (12 ≤ f ∧ f ≤ 15 ∨ f = 18 ∨ f = 19))) h h5 := (F13.mono (fun k f z => by omega)).trans (F45.mono (fun k f z => by omega))
  obtain ⟨h', e', F6, Y6⟩ := s_X1_begin_b79 (L := L) (pxCnt L) jw_FU h5 0 S (by omega) (by have := PR.2.2.2.2.1; unfold jw_FU; omega) (PR.fb F15 (fun k f z => by omega)) (by rw [F15.t]; exact t1) (by rw [F15.r (by omega)]; exact r0) (by rw [F15.r (by omega)]; exact r2) (pxIS.fr Y F15 (fun k f _ _ => by omega))
  rw [List.drop_zero] at Y6
  refine ⟨h', ?_, (F15.mono (fun k f z => by omega)).trans (F6.mono (fun k f z => by omega)), ?_, ⟨_, pxIT.fr (pxIT.fr I4 F5 (fun k f _ _ => by omega)) F6 (fun k f _ _ => by omega)⟩, Y6, by rw [F6.m (by omega)]; exact z12, by rw [F6.m (by omega)]; exact z13, by rw [F6.m (by omega)]; exact z14, by rw [F6.m (by omega)]; exact z15, by rw [F6.m (by omega)]; exact z18, by rw [F6.m (by omega)]; exact z19⟩
  · rw [← e']
    have t8 := B.1.1
    have t11 : (jw_t h1 571).1 = 1 := by rw [F1.t]; exact t1
    have r61 : jw_r h1 571 6 = some 572 := by rw [F1'.r (by omega)]; exact r6
    have r11 : jw_r h1 571 1 = some 255 := by rw [F1'.r (by omega)]; exact r1
    have t91 : (jw_t h1 572).1 = 9 := a51.1.1
    have F12 : pxF (fun k f => (538 ≤ k ∧ k ≤ 558) ∨ (572 ≤ k ∧ k ≤ 577)) h h2 := (F1'.mono (fun k f z => Or.inl z)).trans (F2'.mono (fun k f z => Or.inr z))
    have t12 : (jw_t h2 571).1 = 1 := by rw [F12.t]; exact t1
    have r62 : jw_r h2 571 6 = some 572 := by rw [F12.r (by omega)]; exact r6
    have t92 : (jw_t h2 572).1 = 9 := I2.1.1
    have q02 : jw_r h2 572 0 = some 573 := I2.1.2.1
    have t72 : (jw_t h2 573).1 = 7 := I2.2.1.1.1
    have t13 : (jw_t h3 571).1 = 1 := by rw [F13.t]; exact t1
    have r63 : jw_r h3 571 6 = some 572 := by rw [F13.r (by omega)]; exact r6
    have r13 : jw_r h3 571 1 = some 255 := by rw [F13.r (by omega)]; exact r1
    have t93 : (jw_t h3 255).1 = 9 := by rw [F13.t]; exact I.1.1
    have m43 : pxM h3 255 4 = T.2.2.2 := by rw [F13.m (by omega)]; exact I.2.2.2.2.2
    have t9f3 : (jw_t h3 572).1 = 9 := I3.1.1
    unfold f_X1_begin
    clear PR a1 a5 I Y B B1 I1 a51 I2 R3 I3 I4 F1 F1' F2 F2' F3 F3' F13 F5 F45 F15 F6 Y6 e' F12 z12 z13 z14 z15 z18 z19
    simp (maxSteps := 4000000) (disch := first | assumption | omega | (simp only [jw_t_I, px_cpt, t13, t8]; done) | (simp only [jw_t_I, px_cpt, t13, t8]; omega)) only [pxL0, pxL1, pxL2, pxL3, pxL4, pxL5, pxL6, pxL7, pxL8, pxL9, pxL10, pxL11, pxL12, pxL13, pxL14, pxL15, pxL16, pxL17, pxL18, pxL19, pxL20, pxL21, pxL22, pxL23, pxL24, pxL25, pxL26, pxL27, pxL28, pxL29, pxL30, pxL31, pxL32, pxL33, pxL34, pxL35, pxL36, pxL37, pxL38, pxL39, pxL40, pxL41, pxL42, pxL43, pxL44, pxL45, pxL46, pxL47, pxL48, pxL49, pxL51, pxL57, pxL58, pxL59, pxL60, pxL61, pxL62, pxL63, pxL64, pxL65, pxL66, pxL67, pxL68, pxL69, pxL70, pxL71, pxL72, pxL73, pxL74, pxL75, pxL76, pxL77, pxL78, pxL79, pxL80, pxL81, pxL82, pxL83, pxL84, pxL85, pxL86, pxL87, pxL88, pxL89, pxL90, pxL91, pxL92, pxL93, pxL94, pxL95, pxL96, pxL97, pxL98, pxL99, pxL100, pxL101, pxL102, pxL103, pxL104, pxL105, pxL106, pxL107, pxL108, pxL109, pxL110, pxL111, pxL112, pxL113, pxL114, pxL115, pxL116, pxL117, pxL118, pxL119, pxL120, pxL121, pxL122, pxL123, pxL124, pxL125, pxL126, pxL200, pxL240, pxL287, pxL388, pxL400, pxL429, pxL431, pxL440, pxL1240, pxL1600, pxL1681, pxL12028, pxL13849, pxL14880, pxL25173, pxL26908, pxL49600, pxL65535, pxL65536, ↓reduceIte, reduceCtorEq, pxJ_add, pxJ_sub, pxJ_mul, pxJ_neg, pxD_lt_t, pxD_lt_f, pxD_le_t, pxD_le_f, pxD_eq_t, pxD_eq_f, pxJ_lt, pxJ_le, pxJ_eq, px_gI, px_gR, px_pI, px_rc, px_ai, px_ar, px_si, px_ln, px_cp, pxJ_div, pxJ_b8, pxJ_byte, px_b2, px_bs, px_rb0, px_rb1, px_min, px_max, px_compare, pxW_some, jw_t_I, px_cpt, jw_r_I, px_cpr, jw_l_I, px_cpl, Option.some.injEq, t13, t8, px_pB0, t1, r3, r2, e1, t11, r61, r11, t91, e2, t12, r62, t92, q02, t72, e3, t13, r63, r13, t93, m43, t9f3, e5]
    rfl
  · have Fz : pxF (fun k f => (572 ≤ k ∧ k ≤ 577) ∨ k = 571 ∨ (261 ≤ k ∧ k ≤ 281)) h1 h' := (((F2'.mono (fun k f z => Or.inl z)).trans (F3'.mono (fun k f z => Or.inl z))).trans (F45.mono (fun k f z => by omega))).trans (F6.mono (fun k f z => Or.inr (Or.inr z)))
    exact pxIS.fr B1 Fz (fun k f _ _ => by omega)
end
