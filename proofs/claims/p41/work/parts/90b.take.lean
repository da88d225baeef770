/-! orders line by line: lines are taken, and put -/
section
variable {T : pxTx} {W : pxWk} {Fr : pxFh} {S : pxSto} {rep : Bool} {h : jw_H}
theorem s_X1_putDue {ρ cap : Nat} {rs : List (List Int)} (hρ : ρ + 2 < 571 ∨ 583 < ρ) (H : pxBS h T (W, Fr, S, rep)) (R : pxIR h ρ cap rs) :
    ∃ h', f_X1_putDue h 571 (some ρ) = some ((), h') ∧ pxF (pxC 581 583) h h' ∧ pxBS h' T ((W.1, W.2.1, W.2.2.1, W.2.2.2.1, W.2.2.2.2.1, W.2.2.2.2.2.1, pxBDue W.2.2.2.2.2.2 rs), Fr, S, rep) := by
  obtain ⟨a1, a2, a3, a4, a5, a6, ⟨b1, b2, b3, b4, b5, b6, b7, b8⟩, ⟨rs8, a8⟩, a9, a10⟩ := pxBS_i.mp H
  have cap100 := R.1.2.2.2.2.2
  have rcap := R.2.1
  obtain ⟨h', e, F, D⟩ := s_X1_putDue_b2 (ρ := ρ) (cap := cap) (by omega) (by omega) rs.length jw_FU h 1 W.2.2.2.2.2.2 (by omega) (by omega) (by unfold jw_FU; omega) a1.1 a1.2.2.2.2.2.2.2.2.2.1 R b7
  rw [show ((1 : Int) - 1).toNat = 0 from rfl, List.drop_zero] at D
  refine ⟨h', ?_, F, a1.fr F (fun f z => by unfold pxC; omega), a2.fr F (fun f z => by unfold pxC; omega), a3.fr F (fun f z => by unfold pxC; omega), pxIT.fr a4 F (fun k f _ _ => by unfold pxC; omega), a5.fr F (fun k f _ _ => by unfold pxC; omega), pxIS.fr a6 F (fun k f _ _ => by unfold pxC; omega), ⟨by rw [F.m (by unfold pxC; omega)]; exact b1, by rw [F.m (by unfold pxC; omega)]; exact b2, by rw [F.m (by unfold pxC; omega)]; exact b3, by rw [F.m (by unfold pxC; omega)]; exact b4, by rw [F.m (by unfold pxC; omega)]; exact b5, b6.fr F (fun k f _ _ => by unfold pxC; omega), D, b8⟩, ⟨rs8, a8.fr F (fun k f _ _ => by unfold pxC; omega)⟩, by rw [F.m (by unfold pxC; omega)]; exact a9, a10⟩
  unfold f_X1_putDue
  rw [show (1 : Int32) = pxJ 1 from rfl]
  exact e
/-- the next line is taken -/
theorem s_X1_takeNext (H : pxBS h T (W, Fr, S, rep)) :
    (W.2.2.1 < T.1.length → ∃ h', f_X1_takeNext h 571 = some ((), h') ∧ pxF (fun k f => (k = 571 ∧ (10 ≤ f ∧ f ≤ 13 ∨ f = 16 ∨ f = 17)) ∨ (578 ≤ k ∧ k ≤ 583) ∨ (k = 536 ∧ f = 5)) h h' ∧ pxM h' 571 17 = 1 ∧ pxBS h' T (pxBNext T W, Fr, S, false)) ∧
    (¬ W.2.2.1 < T.1.length → f_X1_takeNext h 571 = some ((), jw_setI h 571 17 (pxJ 0))) := by
  obtain ⟨a1, a2, a3, a4, a5, a6, ⟨b1, b2, b3, b4, b5, b6, b7, b8, b9, b10, b11⟩, ⟨rs8, a8⟩, a9, a10⟩ := pxBS_i.mp H
  obtain ⟨t1, r0, r1, r2, r3, r4, r5, r6, r7, r8, r9⟩ := id a1
  have t9 := a4.1.1
  have q0 := a4.1.2.1
  have t7 := a4.2.1.1.1
  have c2 := pxIT.c2 a4
  have l40 := pxIT.len a4
  unfold f_X1_takeNext
  refine ⟨fun c => ?_, fun c => ?_⟩
  · -- fields
    have t2 := a3.1
    have F1 : pxF (fun k f => k = 571 ∧ (11 ≤ f ∧ f ≤ 13 ∨ f = 17)) h (jw_setI (jw_setI (jw_setI (jw_setI h 571 17 (pxJ 1)) 571 12 (pxJ (W.2.2.1 + 1))) 571 13 (pxJ (W.2.2.2.1 + 1))) 571 11 (pxJ (W.2.2.1 + 1))) :=
      (((pxF.setI (by omega)).trans (pxF.setI (by omega))).trans (pxF.setI (by omega))).trans (pxF.setI (by omega))
    have m171 : pxM (jw_setI h 571 17 (pxJ 1)) 571 17 = 1 := pxM_eq (by omega) (by omega)
    have m121 : pxM (jw_setI h 571 17 (pxJ 1)) 571 12 = W.2.2.1 := by rw [pxM_ne (by omega)]; exact b3
    have m132 : pxM (jw_setI (jw_setI h 571 17 (pxJ 1)) 571 12 (pxJ (W.2.2.1 + 1))) 571 13 = W.2.2.2.1 := by rw [pxM_ne (by omega), pxM_ne (by omega)]; exact b4
    have m123 : pxM (jw_setI (jw_setI (jw_setI h 571 17 (pxJ 1)) 571 12 (pxJ (W.2.2.1 + 1))) 571 13 (pxJ (W.2.2.2.1 + 1))) 571 12 = W.2.2.1 + 1 := by rw [pxM_ne (by omega)]; exact pxM_eq (by omega) (by omega)
    have m124 : pxM (jw_setI (jw_setI (jw_setI (jw_setI h 571 17 (pxJ 1)) 571 12 (pxJ (W.2.2.1 + 1))) 571 13 (pxJ (W.2.2.2.1 + 1))) 571 11 (pxJ (W.2.2.1 + 1))) 571 12 = W.2.2.1 + 1 := by rw [pxM_ne (by omega)]; exact m123
    have m134 : pxM (jw_setI (jw_setI (jw_setI (jw_setI h 571 17 (pxJ 1)) 571 12 (pxJ (W.2.2.1 + 1))) 571 13 (pxJ (W.2.2.2.1 + 1))) 571 11 (pxJ (W.2.2.1 + 1))) 571 13 = W.2.2.2.1 + 1 := by rw [pxM_ne (by omega)]; exact pxM_eq (by omega) (by omega)
    have m114 : pxM (jw_setI (jw_setI (jw_setI (jw_setI h 571 17 (pxJ 1)) 571 12 (pxJ (W.2.2.1 + 1))) 571 13 (pxJ (W.2.2.2.1 + 1))) 571 11 (pxJ (W.2.2.1 + 1))) 571 11 = W.2.2.1 + 1 := pxM_eq (by omega) (by omega)
    have m174 : pxM (jw_setI (jw_setI (jw_setI (jw_setI h 571 17 (pxJ 1)) 571 12 (pxJ (W.2.2.1 + 1))) 571 13 (pxJ (W.2.2.2.1 + 1))) 571 11 (pxJ (W.2.2.1 + 1))) 571 17 = 1 := by rw [pxM_ne (by omega), pxM_ne (by omega), pxM_ne (by omega)]; exact m171
    have head : ((jw_gI h 1 (some 571) 12).bind fun v1 =>
 (jw_gR h 1 (some 571) 1).bind fun v2 =>
 (jw_gR h 9 v2 0).bind fun v3 =>
 (jw_gI h 7 v3 2).bind fun v4 =>
 if v4 ≤ v1 then (g_X1_takeNext_b23 h 571 571 (0 : Int32))
 else (g_X1_takeNext_b23 h 571 571 (1 : Int32))) = g_X1_takeNext_b23 h 571 571 (1 : Int32) := by
      clear a1 a2 a3 a4 a5 a6 a8 b6 b7 a10
      simp (maxSteps := 4000000) (disch := first | assumption | omega | (simp only [jw_t_I, px_cpt]; done) | (simp only [jw_t_I, px_cpt]; omega)) only [pxL0, pxL1, pxL2, pxL3, pxL4, pxL5, pxL6, pxL7, pxL8, pxL9, pxL10, pxL11, pxL12, pxL13, pxL14, pxL15, pxL16, pxL17, pxL18, pxL19, pxL20, pxL21, pxL22, pxL23, pxL24, pxL25, pxL26, pxL27, pxL28, pxL29, pxL30, pxL31, pxL32, pxL33, pxL34, pxL35, pxL36, pxL37, pxL38, pxL39, pxL40, pxL41, pxL42, pxL43, pxL44, pxL45, pxL46, pxL47, pxL48, pxL49, pxL51, pxL57, pxL58, pxL59, pxL60, pxL61, pxL62, pxL63, pxL64, pxL65, pxL66, pxL67, pxL68, pxL69, pxL70, pxL71, pxL72, pxL73, pxL74, pxL75, pxL76, pxL77, pxL78, pxL79, pxL80, pxL81, pxL82, pxL83, pxL84, pxL85, pxL86, pxL87, pxL88, pxL89, pxL90, pxL91, pxL92, pxL93, pxL94, pxL95, pxL96, pxL97, pxL98, pxL99, pxL100, pxL101, pxL102, pxL103, pxL104, pxL105, pxL106, pxL107, pxL108, pxL109, pxL110, pxL111, pxL112, pxL113, pxL114, pxL115, pxL116, pxL117, pxL118, pxL119, pxL120, pxL121, pxL122, pxL123, pxL124, pxL125, pxL126, pxL200, pxL240, pxL287, pxL388, pxL400, pxL429, pxL431, pxL440, pxL1240, pxL1600, pxL1681, pxL12028, pxL13849, pxL14880, pxL25173, pxL26908, pxL49600, pxL65535, pxL65536, ↓reduceIte, reduceCtorEq, pxJ_add, pxJ_sub, pxJ_mul, pxJ_neg, pxD_lt_t, pxD_lt_f, pxD_le_t, pxD_le_f, pxD_eq_t, pxD_eq_f, pxJ_lt, pxJ_le, pxJ_eq, px_gI, px_gR, px_pI, px_rc, px_ai, px_ar, px_si, px_ln, px_cp, pxJ_div, pxJ_b8, pxJ_byte, px_b2, px_bs, px_rb0, px_rb1, px_min, px_max, px_compare, pxW_some, jw_t_I, px_cpt, jw_r_I, px_cpr, jw_l_I, px_cpl, Option.some.injEq, b3, t1, r1, t9, q0, t7, c2]
    rw [head]
    generalize e4 : jw_setI (jw_setI (jw_setI (jw_setI h 571 17 (pxJ 1)) 571 12 (pxJ (W.2.2.1 + 1))) 571 13 (pxJ (W.2.2.2.1 + 1))) 571 11 (pxJ (W.2.2.1 + 1)) = h4 at *
    have T4 : pxIX h4 T := pxIT.fr a4 F1 (fun k f _ _ => by omega)
    have io := s_X9_idOf T4 (x := W.2.2.1 + 1) (by omega) (by omega)
    rw [if_pos (by omega)] at io
    have idr := pxIT.idr T4 (x := W.2.2.1 + 1) (by omega) (by omega)
    have F5 : pxF (fun k f => k = 571 ∧ f = 10) h4 (jw_setI h4 571 10 (pxJ (pxId T.1 (W.2.2.1 + 1)))) := pxF.setI ⟨rfl, rfl⟩
    have F15 : pxF (fun k f => k = 571 ∧ (10 ≤ f ∧ f ≤ 13 ∨ f = 17)) h (jw_setI h4 571 10 (pxJ (pxId T.1 (W.2.2.1 + 1)))) := (F1.mono (fun k f z => by omega)).trans (F5.mono (fun k f z => by omega))
    have m105 : pxM (jw_setI h4 571 10 (pxJ (pxId T.1 (W.2.2.1 + 1)))) 571 10 = pxId T.1 (W.2.2.1 + 1) := pxM_eq (by omega) (by omega)
    have m125 : pxM (jw_setI h4 571 10 (pxJ (pxId T.1 (W.2.2.1 + 1)))) 571 12 = W.2.2.1 + 1 := by rw [F5.m (by omega)]; exact m124
    have m135 : pxM (jw_setI h4 571 10 (pxJ (pxId T.1 (W.2.2.1 + 1)))) 571 13 = W.2.2.2.1 + 1 := by rw [F5.m (by omega)]; exact m134
    have m115 : pxM (jw_setI h4 571 10 (pxJ (pxId T.1 (W.2.2.1 + 1)))) 571 11 = W.2.2.1 + 1 := by rw [F5.m (by omega)]; exact m114
    have m175 : pxM (jw_setI h4 571 10 (pxJ (pxId T.1 (W.2.2.1 + 1)))) 571 17 = 1 := by rw [F5.m (by omega)]; exact m174
    generalize e5 : jw_setI h4 571 10 (pxJ (pxId T.1 (W.2.2.1 + 1))) = h5 at *
    obtain ⟨q6, h6, e6, F6, R6⟩ := s_X7_shrink (b6.fr F15 (fun k f _ _ => by omega)) (x := 0) (by omega) (by omega)
    rw [if_pos (by simp), show ((0 : Int)).toNat = 0 from rfl, List.take_zero] at R6
    have F16 : pxF (fun k f => (k = 571 ∧ (10 ≤ f ∧ f ≤ 13 ∨ f = 17)) ∨ (578 ≤ k ∧ k ≤ 580)) h h6 := (F15.mono (fun k f z => Or.inl z)).trans (F6.mono (fun k f z => by unfold pxC at z; omega))
    have T6 : pxIX h6 T := pxIT.fr a4 F16 (fun k f _ _ => by omega)
    have lr : (pxRs T.1).length = T.1.length := List.length_map _
    obtain ⟨q7, h7, e7, F7, eq7, R7⟩ := s_X7_addRow R6 T6.2.1 (y := W.2.2.1 + 1) (by omega) (by omega)
    rw [if_pos (by simp), List.nil_append] at R7
    have F17 : pxF (fun k f => (k = 571 ∧ (10 ≤ f ∧ f ≤ 13 ∨ f = 17)) ∨ (578 ≤ k ∧ k ≤ 580)) h h7 := F16.trans (F7.mono (fun k f z => by unfold pxC at z; omega))
    obtain ⟨q8, h8, e8, F8, R8⟩ := s_X7_shrink (b7.fr F17 (fun k f _ _ => by omega)) (x := 0) (by omega) (by omega)
    have R8' : pxIR h8 581 41 [] := by
      by_cases z : 0 ≤ (0 : Int) ∧ (0 : Int) < W.2.2.2.2.2.2.length
      · rw [if_pos z, show ((0 : Int)).toNat = 0 from rfl, List.take_zero] at R8; exact R8
      · rw [if_neg z] at R8
        have : W.2.2.2.2.2.2 = [] := List.length_eq_zero_iff.mp (by omega)
        rw [this] at R8; exact R8
    have F18 : pxF (fun k f => (k = 571 ∧ (10 ≤ f ∧ f ≤ 13 ∨ f = 17)) ∨ (578 ≤ k ∧ k ≤ 583)) h h8 := (F17.mono (fun k f z => by omega)).trans (F8.mono (fun k f z => by unfold pxC at z; omega))
    have F9 : pxF (fun k f => (k = 571 ∧ f = 16) ∨ (k = 536 ∧ f = 5)) h8 (jw_setI (jw_setI h8 571 16 (pxJ 0)) 536 5 (pxJ 0)) := (pxF.setI (Or.inl ⟨rfl, rfl⟩)).trans (pxF.setI (Or.inr ⟨rfl, rfl⟩))
    have F58 : pxF (fun k f => 578 ≤ k ∧ k ≤ 583) h5 h8 := ((F6.mono (fun k f z => by unfold pxC at z; omega)).trans (F7.mono (fun k f z => by unfold pxC at z; omega))).trans (F8.mono (fun k f z => by unfold pxC at z; omega))
    have F59 : pxF (fun k f => (578 ≤ k ∧ k ≤ 583) ∨ (k = 571 ∧ f = 16) ∨ (k = 536 ∧ f = 5)) h5 (jw_setI (jw_setI h8 571 16 (pxJ 0)) 536 5 (pxJ 0)) := (F58.mono (fun k f z => Or.inl z)).trans (F9.mono (fun k f z => Or.inr z))
    have F19 : pxF (fun k f => (k = 571 ∧ (10 ≤ f ∧ f ≤ 13 ∨ f = 16 ∨ f = 17)) ∨ (578 ≤ k ∧ k ≤ 583) ∨ (k = 536 ∧ f = 5)) h (jw_setI (jw_setI h8 571 16 (pxJ 0)) 536 5 (pxJ 0)) := (F18.mono (fun k f z => by omega)).trans (F9.mono (fun k f z => by omega))
    refine ⟨jw_setI (jw_setI h8 571 16 (pxJ 0)) 536 5 (pxJ 0), ?_, F19, by rw [F59.m (by omega)]; exact m175, a1.fr F19 (fun f z => by omega), a2.fr F19 (fun f z => by omega), a3.fr F19 (fun f z => by omega), pxIT.fr a4 F19 (fun k f _ _ => by omega), a5.fr F19 (fun k f _ _ => by omega), pxIS.fr a6 F19 (fun k f _ _ => by omega), ⟨by rw [F59.m (by omega)]; exact m105, by rw [F59.m (by omega)]; exact m115, by rw [F59.m (by omega)]; exact m125, by rw [F59.m (by omega)]; exact m135, ?_, (R7.fr F8 (fun k f _ _ => by unfold pxC; omega)).fr F9 (fun k f _ _ => by omega), R8'.fr F9 (fun k f _ _ => by omega), by show 0 ≤ W.2.2.1 + 1 ∧ W.2.2.1 + 1 ≤ _; omega, by show 0 ≤ W.2.2.1 + 1 ∧ W.2.2.1 + 1 ≤ _; omega, by show 0 ≤ W.2.2.2.1 + 1; omega, by show W.2.2.2.1 + 1 ≤ W.2.2.1 + 1; omega⟩, ⟨rs8, a8.fr F19 (fun k f _ _ => by omega)⟩, pxM_eq (by omega) (by omega), a10⟩
    · have t14 : (jw_t h4 571).1 = 1 := by rw [F1.t]; exact t1
      have r14 : jw_r h4 571 1 = some 255 := by rw [F1.r (by omega)]; exact r1
      have t94 : (jw_t h4 255).1 = 9 := by rw [F1.t]; exact t9
      have r74 : jw_r h4 571 7 = some 578 := by rw [F1.r (by omega)]; exact r7
      have t15 : (jw_t h5 571).1 = 1 := by rw [F15.t]; exact t1
      have r75 : jw_r h5 571 7 = some 578 := by rw [F15.r (by omega)]; exact r7
      have t785 : (jw_t h5 578).1 = 7 := by rw [F15.t]; exact b6.1.1
      have t16 : (jw_t h6 571).1 = 1 := by rw [F16.t]; exact t1
      have r76 : jw_r h6 571 7 = some 578 := by rw [F16.r (by omega)]; exact r7
      have r16 : jw_r h6 571 1 = some 255 := by rw [F16.r (by omega)]; exact r1
      have t96 : (jw_t h6 255).1 = 9 := by rw [F16.t]; exact t9
      have q06 : jw_r h6 255 0 = some 256 := by rw [F16.r (by omega)]; exact q0
      have m126 : pxM h6 571 12 = W.2.2.1 + 1 := by rw [F6.m (by unfold pxC; omega)]; exact m125
      have t786 : (jw_t h6 578).1 = 7 := by rw [F16.t]; exact b6.1.1
      have t17 : (jw_t h7 571).1 = 1 := by rw [F17.t]; exact t1
      have r87 : jw_r h7 571 8 = some 581 := by rw [F17.r (by omega)]; exact r8
      have t817 : (jw_t h7 581).1 = 7 := by rw [F17.t]; exact b7.1.1
      have t18 : (jw_t h8 571).1 = 1 := by rw [F18.t]; exact t1
      have r58 : jw_r h8 571 5 = some 536 := by rw [F18.r (by omega)]; exact r5
      have t28 : (jw_t h8 536).1 = 2 := by rw [F18.t]; exact t2
      unfold g_X1_takeNext_b23
      clear a1 a2 a3 a4 a5 a6 a8 b6 b7 a10 R6 R7 R8 R8' T4 T6 F1 F15 F16 F17 F18 F19 F5 F6 F7 F8 F9 F58 F59 head
      simp (maxSteps := 4000000) (disch := first | assumption | omega | (simp only [jw_t_I, px_cpt, t1, t28]; done) | (simp only [jw_t_I, px_cpt, t1, t28]; omega)) only [pxL0, pxL1, pxL2, pxL3, pxL4, pxL5, pxL6, pxL7, pxL8, pxL9, pxL10, pxL11, pxL12, pxL13, pxL14, pxL15, pxL16, pxL17, pxL18, pxL19, pxL20, pxL21, pxL22, pxL23, pxL24, pxL25, pxL26, pxL27, pxL28, pxL29, pxL30, pxL31, pxL32, pxL33, pxL34, pxL35, pxL36, pxL37, pxL38, pxL39, pxL40, pxL41, pxL42, pxL43, pxL44, pxL45, pxL46, pxL47, pxL48, pxL49, pxL51, pxL57, pxL58, pxL59, pxL60, pxL61, pxL62, pxL63, pxL64, pxL65, pxL66, pxL67, pxL68, pxL69, pxL70, pxL71, pxL72, pxL73, pxL74, pxL75, pxL76, pxL77, pxL78, pxL79, pxL80, pxL81, pxL82, pxL83, pxL84, pxL85, pxL86, pxL87, pxL88, pxL89, pxL90, pxL91, pxL92, pxL93, pxL94, pxL95, pxL96, pxL97, pxL98, pxL99, pxL100, pxL101, pxL102, pxL103, pxL104, pxL105, pxL106, pxL107, pxL108, pxL109, pxL110, pxL111, pxL112, pxL113, pxL114, pxL115, pxL116, pxL117, pxL118, pxL119, pxL120, pxL121, pxL122, pxL123, pxL124, pxL125, pxL126, pxL200, pxL240, pxL287, pxL388, pxL400, pxL429, pxL431, pxL440, pxL1240, pxL1600, pxL1681, pxL12028, pxL13849, pxL14880, pxL25173, pxL26908, pxL49600, pxL65535, pxL65536, ↓reduceIte, reduceCtorEq, pxJ_add, pxJ_sub, pxJ_mul, pxJ_neg, pxD_lt_t, pxD_lt_f, pxD_le_t, pxD_le_f, pxD_eq_t, pxD_eq_f, pxJ_lt, pxJ_le, pxJ_eq, px_gI, px_gR, px_pI, px_rc, px_ai, px_ar, px_si, px_ln, px_cp, pxJ_div, pxJ_b8, pxJ_byte, px_b2, px_bs, px_rb0, px_rb1, px_min, px_max, px_compare, pxW_some, jw_t_I, px_cpt, jw_r_I, px_cpr, jw_l_I, px_cpl, Option.some.injEq, t1, t28, px_pB1, px_pB0, m171, m121, m132, m123, e4, m124, t14, r14, r1, r7, r74, r5, t94, io, e5, t15, r75, t785, e6, t16, r76, r16, t96, q06, m126, t786, e7, t17, r87, t817, e8, t18, r58]
    · show pxM (jw_setI (jw_setI h8 571 16 (pxJ 0)) 536 5 (pxJ 0)) 571 16 = 0
      rw [pxM_ne (by omega)]; exact pxM_eq (by omega) (by omega)
  · have m170 : pxM (jw_setI h 571 17 (pxJ 0)) 571 17 = 0 := pxM_eq (by omega) (by omega)
    unfold g_X1_takeNext_b23
    clear a1 a2 a3 a4 a5 a6 a8 b6 b7 a10
    simp (maxSteps := 4000000) (disch := first | assumption | omega | (simp only [jw_t_I, px_cpt, t1]; done) | (simp only [jw_t_I, px_cpt, t1]; omega)) only [pxL0, pxL1, pxL2, pxL3, pxL4, pxL5, pxL6, pxL7, pxL8, pxL9, pxL10, pxL11, pxL12, pxL13, pxL14, pxL15, pxL16, pxL17, pxL18, pxL19, pxL20, pxL21, pxL22, pxL23, pxL24, pxL25, pxL26, pxL27, pxL28, pxL29, pxL30, pxL31, pxL32, pxL33, pxL34, pxL35, pxL36, pxL37, pxL38, pxL39, pxL40, pxL41, pxL42, pxL43, pxL44, pxL45, pxL46, pxL47, pxL48, pxL49, pxL51, pxL57, pxL58, pxL59, pxL60, pxL61, pxL62, pxL63, pxL64, pxL65, pxL66, pxL67, pxL68, pxL69, pxL70, pxL71, pxL72, pxL73, pxL74, pxL75, pxL76, pxL77, pxL78, pxL79, pxL80, pxL81, pxL82, pxL83, pxL84, pxL85, pxL86, pxL87, pxL88, pxL89, pxL90, pxL91, pxL92, pxL93, pxL94, pxL95, pxL96, pxL97, pxL98, pxL99, pxL100, pxL101, pxL102, pxL103, pxL104, pxL105, pxL106, pxL107, pxL108, pxL109, pxL110, pxL111, pxL112, pxL113, pxL114, pxL115, pxL116, pxL117, pxL118, pxL119, pxL120, pxL121, pxL122, pxL123, pxL124, pxL125, pxL126, pxL200, pxL240, pxL287, pxL388, pxL400, pxL429, pxL431, pxL440, pxL1240, pxL1600, pxL1681, pxL12028, pxL13849, pxL14880, pxL25173, pxL26908, pxL49600, pxL65535, pxL65536, ↓reduceIte, reduceCtorEq, pxJ_add, pxJ_sub, pxJ_mul, pxJ_neg, pxD_lt_t, pxD_lt_f, pxD_le_t, pxD_le_f, pxD_eq_t, pxD_eq_f, pxJ_lt, pxJ_le, pxJ_eq, px_gI, px_gR, px_pI, px_rc, px_ai, px_ar, px_si, px_ln, px_cp, pxJ_div, pxJ_b8, pxJ_byte, px_b2, px_bs, px_rb0, px_rb1, px_min, px_max, px_compare, pxW_some, jw_t_I, px_cpt, jw_r_I, px_cpr, jw_l_I, px_cpl, Option.some.injEq, t1, b3, t1, r1, t9, q0, t7, c2, px_pB0, m170]
end
