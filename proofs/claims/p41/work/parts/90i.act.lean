/-! orders line by line: an act -/
section
variable {T : pxTx} {W : pxWk} {Fr : pxFh} {S : pxSto} {rep : Bool} {h : jw_H} {s : List Int} {b i : Nat} {p wh : Int} {over : Bool}
/-- rows that are told are read -/
theorem s_BRows (CO : pxCO h b s i p) (H : pxBS h T (W, Fr, S, rep)) (c : pxP s p = 97 ∨ pxP s p = 105 ∨ pxP s p = 99) : ∃ u h', f_X6_rowsOf h 10 (some (12 + 4 * i)) (some 584) = some (u, h') ∧ pxF (fun k _ => 584 ≤ k ∧ k ≤ 586) h h' ∧ pxBS h' T (W, Fr, S, rep) ∧ pxIR h' 584 60 (pxTold s 61 (p + 1)) := by
  obtain ⟨hb, hi, G, Ak, ok, m7, p0, p1⟩ := CO
  have t5 := (G.1.2.2.2.2.2.2.2 i hi).2.1
  have lt := pxP_lt (s := s) (p := p) (by omega)
  obtain ⟨e7, e8⟩ := Ak.2.2.1 (by unfold pxOtA; omega)
  have o7 : pxOfr s p = p + 1 := by unfold pxOfr; rw [if_neg (by omega), if_neg (by omega)]
  have o8 : pxOto s p = (pxRowsE s 61 0 (p + 1)).2 := by unfold pxOto; rw [if_neg (by omega), if_neg (by omega)]
  rw [o7] at e7
  rw [o8] at e8
  have okR : (pxRowsE s 61 0 (p + 1)).1 = true := by
    unfold pxAct at ok
    rcases c with c | c | c <;> (rw [c] at ok; exact ok)
  obtain ⟨rs, Z⟩ := (pxBS_i.mp H).2.2.2.2.2.2.2.1
  obtain ⟨u, h', e, F, R⟩ := s_X6_rowsOf (ρ := 584) (cap := 60) hb (show 12 + 4 * i < 252 by omega) (by omega) (by omega) (by omega) (by omega) okR e7 e8 G t5 Z
  have F' : pxF (fun k _ => 584 ≤ k ∧ k ≤ 586) h h' := F.mono (fun k f z => by unfold pxC at z; omega)
  exact ⟨u, h', e, F', H.setSp F' (fun k f z => z) R, R⟩
theorem s_X1_doOne (CO : pxCO h b s i p) (H : pxBS h T (W, Fr, S, rep)) (m15 : pxM h 571 15 = 0) (f4 : pxM h (12 + 4 * i) 4 = wh) (f12 : pxM h (12 + 4 * i) 12 = if over = true then 1 else 0)
    (ns : ¬ pxSteer (pxP s p) = true) (n3 : ¬ (pxP s p = 123 ∨ pxP s p = 103 ∨ pxP s p = 71)) (nb : ¬ (pxP s p = 108 ∨ pxP s p = 111 ∨ pxP s p = 79 ∨ pxP s p = 109 ∨ pxP s p = 116)) :
    pxW (f_X1_doOne h 571 (some (12 + 4 * i))) fun _ h' => pxBR T h (pxBAct s p wh over T W Fr S rep) h' := by
  obtain ⟨hb, hi, G, Ak, ok, m7, p0, p1⟩ := id CO
  have t5 := (G.1.2.2.2.2.2.2.2 i hi).2.1
  have f3 := Ak.1
  have tg := G.1.1
  obtain ⟨a1, a2, a3, a4, a5, a6, ⟨b1, b2, b3, b4, b5, b6, b7, b8⟩, ⟨rs, a8⟩, a9, a10⟩ := pxBS_i.mp H
  obtain ⟨t1, r0, r1, r2, r3, r4, r5, r6, r7, r8, r9⟩ := id a1
  have lo := pxM_lo h (12 + 4 * i) 4
  have hi4 := pxM_hi h (12 + 4 * i) 4
  rw [f4] at lo hi4
  have rw1 : pxRw [W.2.2.2.2.2.1] 1 = W.2.2.2.2.2.1 := rfl
  have l1 : (1 : Int) ≤ ([W.2.2.2.2.2.1].length : Int) := by show (1 : Int) ≤ ((1 : Nat) : Int); omega
  unfold pxBAct
  by_cases cC : pxP s p = 62 ∨ pxP s p = 115 ∨ pxP s p = 122 ∨ pxP s p = 60
  · rw [if_pos cC]
    have t2 := a3.1
    have st : f_X1_doOne h 571 (some (12 + 4 * i)) = g_X1_doOne_b120 h 571 (some (12 + 4 * i)) := by
      rcases cC with c | c | c | c
      · exact px_lt62 t5 (f3.trans c)
      · exact px_lt115 t5 (f3.trans c)
      · exact px_lt122 t5 (f3.trans c)
      · exact px_lt60 t5 (f3.trans c)
    rw [st]
    obtain ⟨y1, y2⟩ := s_X2_change (ρ := 578) (x := 1) (y := 1) (by omega) (by omega) cC (by omega) (by omega) l1 CO a3 a2 b6 a9
    rw [show ((1 : Int) + 1 - 1).toNat = 1 from rfl] at y1 y2
    have ec : pxChgs s p 1 1 [W.2.2.2.2.2.1] rep = if 30 < (pxChg s p W.2.2.2.2.2.1).1.length then (false, [W.2.2.2.2.2.1], rep) else (true, [(pxChg s p W.2.2.2.2.2.1).1], (rep || (pxChg s p W.2.2.2.2.2.1).2)) := rfl
    have Fm : ∀ {h1 : jw_H}, pxF (pxQr 578) h h1 → pxF pxQB h h1 ∧ pxF (fun k f => (k = 531 ∧ 5 ≤ f) ∨ (532 ≤ k ∧ k ≤ 535) ∨ (k = 536 ∧ 3 ≤ f) ∨ k = 537 ∨ (578 ≤ k ∧ k ≤ 580)) h h1 := fun F => ⟨F.mono (fun k f z => by unfold pxQr pxQy at z; unfold pxQB; omega), F.mono (fun k f z => by unfold pxQr pxQy at z; omega)⟩
    by_cases d : 30 < (pxChg s p W.2.2.2.2.2.1).1.length
    · rw [if_pos d] at ec ⊢
      obtain ⟨h1, rs', rep', e1, F1, R1, l2, m5⟩ := y2 (by rw [ec])
      obtain ⟨r', hr'⟩ : ∃ r', rs' = [r'] := List.length_eq_one_iff.mp l2
      rw [hr'] at R1
      have H1 := H.setRow (Fm F1).2 (fun k f z => z) R1 m5
      have t11 : (jw_t h1 571).1 = 1 := by rw [F1.t]; exact t1
      refine ⟨(), jw_setI h1 571 15 (pxJ 4), ?_, pxBS.s15 (Fm F1).1 H1 (by omega) (by omega) rfl (fun z => absurd z (by show ¬ (4 : Int) = 0; omega))⟩
      unfold g_X1_doOne_b120
      clear CO H a1 a2 a3 a4 a5 a6 b6 b7 a8 G Ak ok ns H1 F1 R1 Fm y1 y2 cC
      simp (maxSteps := 4000000) (disch := first | assumption | omega | (simp only [jw_t_I, px_cpt]; done) | (simp only [jw_t_I, px_cpt]; omega)) only [pxL0, pxL1, pxL2, pxL3, pxL4, pxL5, pxL6, pxL7, pxL8, pxL9, pxL10, pxL11, pxL12, pxL13, pxL14, pxL15, pxL16, pxL17, pxL18, pxL19, pxL20, pxL21, pxL22, pxL23, pxL24, pxL25, pxL26, pxL27, pxL28, pxL29, pxL30, pxL31, pxL32, pxL33, pxL34, pxL35, pxL36, pxL37, pxL38, pxL39, pxL40, pxL41, pxL42, pxL43, pxL44, pxL45, pxL46, pxL47, pxL48, pxL49, pxL51, pxL57, pxL58, pxL59, pxL60, pxL61, pxL62, pxL63, pxL64, pxL65, pxL66, pxL67, pxL68, pxL69, pxL70, pxL71, pxL72, pxL73, pxL74, pxL75, pxL76, pxL77, pxL78, pxL79, pxL80, pxL81, pxL82, pxL83, pxL84, pxL85, pxL86, pxL87, pxL88, pxL89, pxL90, pxL91, pxL92, pxL93, pxL94, pxL95, pxL96, pxL97, pxL98, pxL99, pxL100, pxL101, pxL102, pxL103, pxL104, pxL105, pxL106, pxL107, pxL108, pxL109, pxL110, pxL111, pxL112, pxL113, pxL114, pxL115, pxL116, pxL117, pxL118, pxL119, pxL120, pxL121, pxL122, pxL123, pxL124, pxL125, pxL126, pxL200, pxL240, pxL287, pxL388, pxL400, pxL429, pxL431, pxL440, pxL1240, pxL1600, pxL1681, pxL12028, pxL13849, pxL14880, pxL25173, pxL26908, pxL49600, pxL65535, pxL65536, ↓reduceIte, reduceCtorEq, pxJ_add, pxJ_sub, pxJ_mul, pxJ_neg, pxD_lt_t, pxD_lt_f, pxD_le_t, pxD_le_f, pxD_eq_t, pxD_eq_f, pxJ_lt, pxJ_le, pxJ_eq, px_gI, px_gR, px_pI, px_rc, px_ai, px_ar, px_si, px_ln, px_cp, pxJ_div, pxJ_b8, pxJ_byte, px_b2, px_bs, px_rb0, px_rb1, px_min, px_max, px_compare, pxW_some, jw_t_I, px_cpt, jw_r_I, px_cpr, jw_l_I, px_cpl, Option.some.injEq, t1, r5, r7, t2, e1, t11]
    · rw [if_neg d] at ec ⊢
      obtain ⟨h1, e1, F1, R1, m5⟩ := y1 (by rw [ec])
      rw [ec] at R1 m5
      have H1 := H.setRow (Fm F1).2 (fun k f z => z) R1 m5
      have t11 : (jw_t h1 571).1 = 1 := by rw [F1.t]; exact t1
      refine ⟨(), jw_setI h1 571 15 (pxJ 0), ?_, pxBS.s15 (Fm F1).1 H1 (by omega) (by omega) rfl (fun _ => rfl)⟩
      unfold g_X1_doOne_b120
      clear CO H a1 a2 a3 a4 a5 a6 b6 b7 a8 G Ak ok ns H1 F1 R1 Fm y1 y2 cC
      simp (maxSteps := 4000000) (disch := first | assumption | omega | (simp only [jw_t_I, px_cpt]; done) | (simp only [jw_t_I, px_cpt]; omega)) only [pxL0, pxL1, pxL2, pxL3, pxL4, pxL5, pxL6, pxL7, pxL8, pxL9, pxL10, pxL11, pxL12, pxL13, pxL14, pxL15, pxL16, pxL17, pxL18, pxL19, pxL20, pxL21, pxL22, pxL23, pxL24, pxL25, pxL26, pxL27, pxL28, pxL29, pxL30, pxL31, pxL32, pxL33, pxL34, pxL35, pxL36, pxL37, pxL38, pxL39, pxL40, pxL41, pxL42, pxL43, pxL44, pxL45, pxL46, pxL47, pxL48, pxL49, pxL51, pxL57, pxL58, pxL59, pxL60, pxL61, pxL62, pxL63, pxL64, pxL65, pxL66, pxL67, pxL68, pxL69, pxL70, pxL71, pxL72, pxL73, pxL74, pxL75, pxL76, pxL77, pxL78, pxL79, pxL80, pxL81, pxL82, pxL83, pxL84, pxL85, pxL86, pxL87, pxL88, pxL89, pxL90, pxL91, pxL92, pxL93, pxL94, pxL95, pxL96, pxL97, pxL98, pxL99, pxL100, pxL101, pxL102, pxL103, pxL104, pxL105, pxL106, pxL107, pxL108, pxL109, pxL110, pxL111, pxL112, pxL113, pxL114, pxL115, pxL116, pxL117, pxL118, pxL119, pxL120, pxL121, pxL122, pxL123, pxL124, pxL125, pxL126, pxL200, pxL240, pxL287, pxL388, pxL400, pxL429, pxL431, pxL440, pxL1240, pxL1600, pxL1681, pxL12028, pxL13849, pxL14880, pxL25173, pxL26908, pxL49600, pxL65535, pxL65536, ↓reduceIte, reduceCtorEq, pxJ_add, pxJ_sub, pxJ_mul, pxJ_neg, pxD_lt_t, pxD_lt_f, pxD_le_t, pxD_le_f, pxD_eq_t, pxD_eq_f, pxJ_lt, pxJ_le, pxJ_eq, px_gI, px_gR, px_pI, px_rc, px_ai, px_ar, px_si, px_ln, px_cp, pxJ_div, pxJ_b8, pxJ_byte, px_b2, px_bs, px_rb0, px_rb1, px_min, px_max, px_compare, pxW_some, jw_t_I, px_cpt, jw_r_I, px_cpr, jw_l_I, px_cpl, Option.some.injEq, t1, r5, r7, t2, e1, t11]
  rw [if_neg cC]
  by_cases c97 : pxP s p = 97
  · rw [if_pos c97]
    obtain ⟨u1, h1, e1, F1, H1, R1⟩ := s_BRows CO H (by omega)
    obtain ⟨h2, e2, F2, H2⟩ := s_X1_putDue (by omega) H1 R1
    have F12 : pxF (fun k f => 581 ≤ k ∧ k ≤ 586) h h2 := (F1.mono (fun k f z => by omega)).trans (F2.mono (fun k f z => by unfold pxC at z; omega))
    refine ⟨(), h2, ?_, pxBR.mk (F12.mono (fun k f z => by unfold pxQB; omega)) (by rw [F12.m (by omega)]; exact m15) H2 (fun _ => rfl)⟩
    have t11 := H1.1.1
    have r91 := H1.1.2.2.2.2.2.2.2.2.2.2
    rw [px_lt97 t5 (f3.trans c97)]
    clear CO H a1 a2 a3 a4 a5 a6 b6 b7 a8 G Ak ok ns H1 F1 R1 F2 F12 H2 cC
    simp (maxSteps := 4000000) (disch := first | assumption | omega | (simp only [jw_t_I, px_cpt, t5]; done) | (simp only [jw_t_I, px_cpt, t5]; omega)) only [pxL0, pxL1, pxL2, pxL3, pxL4, pxL5, pxL6, pxL7, pxL8, pxL9, pxL10, pxL11, pxL12, pxL13, pxL14, pxL15, pxL16, pxL17, pxL18, pxL19, pxL20, pxL21, pxL22, pxL23, pxL24, pxL25, pxL26, pxL27, pxL28, pxL29, pxL30, pxL31, pxL32, pxL33, pxL34, pxL35, pxL36, pxL37, pxL38, pxL39, pxL40, pxL41, pxL42, pxL43, pxL44, pxL45, pxL46, pxL47, pxL48, pxL49, pxL51, pxL57, pxL58, pxL59, pxL60, pxL61, pxL62, pxL63, pxL64, pxL65, pxL66, pxL67, pxL68, pxL69, pxL70, pxL71, pxL72, pxL73, pxL74, pxL75, pxL76, pxL77, pxL78, pxL79, pxL80, pxL81, pxL82, pxL83, pxL84, pxL85, pxL86, pxL87, pxL88, pxL89, pxL90, pxL91, pxL92, pxL93, pxL94, pxL95, pxL96, pxL97, pxL98, pxL99, pxL100, pxL101, pxL102, pxL103, pxL104, pxL105, pxL106, pxL107, pxL108, pxL109, pxL110, pxL111, pxL112, pxL113, pxL114, pxL115, pxL116, pxL117, pxL118, pxL119, pxL120, pxL121, pxL122, pxL123, pxL124, pxL125, pxL126, pxL200, pxL240, pxL287, pxL388, pxL400, pxL429, pxL431, pxL440, pxL1240, pxL1600, pxL1681, pxL12028, pxL13849, pxL14880, pxL25173, pxL26908, pxL49600, pxL65535, pxL65536, ↓reduceIte, reduceCtorEq, pxJ_add, pxJ_sub, pxJ_mul, pxJ_neg, pxD_lt_t, pxD_lt_f, pxD_le_t, pxD_le_f, pxD_eq_t, pxD_eq_f, pxJ_lt, pxJ_le, pxJ_eq, px_gI, px_gR, px_pI, px_rc, px_ai, px_ar, px_si, px_ln, px_cp, pxJ_div, pxJ_b8, pxJ_byte, px_b2, px_bs, px_rb0, px_rb1, px_min, px_max, px_compare, pxW_some, jw_t_I, px_cpt, jw_r_I, px_cpr, jw_l_I, px_cpl, Option.some.injEq, t5, t1, r0, r9, tg, e1, t11, r91, e2]
  rw [if_neg c97]
  by_cases c99 : pxP s p = 99
  · rw [if_pos c99]
    obtain ⟨h1, e1, F1, H1⟩ := s_X1_goAway H
    have CO1 := CO.fb F1 (fun k f z => by omega)
    obtain ⟨u2, h2, e2, F2, H2, R2⟩ := s_BRows CO1 H1 (by omega)
    have F12 : pxF (fun k f => (572 ≤ k ∧ k ≤ 577) ∨ (k = 571 ∧ f = 16) ∨ (584 ≤ k ∧ k ≤ 586)) h h2 := (F1.mono (fun k f z => by omega)).trans (F2.mono (fun k f z => by omega))
    have t11 := H1.1.1
    have r01 := H1.1.2.1
    have r91 := H1.1.2.2.2.2.2.2.2.2.2.2
    have tg1 : (jw_t h1 10).1 = 6 := by rw [F1.t]; exact tg
    have t52 : (jw_t h2 (12 + 4 * i)).1 = 5 := by rw [F12.t]; exact t5
    have f42 : pxM h2 (12 + 4 * i) 4 = wh := by rw [F12.m (by omega)]; exact f4
    have f122 : pxM h2 (12 + 4 * i) 12 = if over = true then 1 else 0 := by rw [F12.m (by omega)]; exact f12
    have st : f_X1_doOne h 571 (some (12 + 4 * i)) = if wh = 3 ∧ over = false then some ((), h2) else g_X1_doOne_b218 h2 571 := by
      rw [px_lt99 t5 (f3.trans c99)]
      clear CO H a1 a2 a3 a4 a5 a6 b6 b7 a8 G Ak ok ns H1 F1 R2 F2 F12 H2 cC CO1
      by_cases w3 : wh = 3
      · cases over with
        | false =>
          rw [if_pos ⟨w3, rfl⟩]
          rw [if_neg (by decide)] at f122
          simp (maxSteps := 4000000) (disch := first | assumption | omega | (simp only [jw_t_I, px_cpt, t5, t52]; done) | (simp only [jw_t_I, px_cpt, t5, t52]; omega)) only [pxL0, pxL1, pxL2, pxL3, pxL4, pxL5, pxL6, pxL7, pxL8, pxL9, pxL10, pxL11, pxL12, pxL13, pxL14, pxL15, pxL16, pxL17, pxL18, pxL19, pxL20, pxL21, pxL22, pxL23, pxL24, pxL25, pxL26, pxL27, pxL28, pxL29, pxL30, pxL31, pxL32, pxL33, pxL34, pxL35, pxL36, pxL37, pxL38, pxL39, pxL40, pxL41, pxL42, pxL43, pxL44, pxL45, pxL46, pxL47, pxL48, pxL49, pxL51, pxL57, pxL58, pxL59, pxL60, pxL61, pxL62, pxL63, pxL64, pxL65, pxL66, pxL67, pxL68, pxL69, pxL70, pxL71, pxL72, pxL73, pxL74, pxL75, pxL76, pxL77, pxL78, pxL79, pxL80, pxL81, pxL82, pxL83, pxL84, pxL85, pxL86, pxL87, pxL88, pxL89, pxL90, pxL91, pxL92, pxL93, pxL94, pxL95, pxL96, pxL97, pxL98, pxL99, pxL100, pxL101, pxL102, pxL103, pxL104, pxL105, pxL106, pxL107, pxL108, pxL109, pxL110, pxL111, pxL112, pxL113, pxL114, pxL115, pxL116, pxL117, pxL118, pxL119, pxL120, pxL121, pxL122, pxL123, pxL124, pxL125, pxL126, pxL200, pxL240, pxL287, pxL388, pxL400, pxL429, pxL431, pxL440, pxL1240, pxL1600, pxL1681, pxL12028, pxL13849, pxL14880, pxL25173, pxL26908, pxL49600, pxL65535, pxL65536, ↓reduceIte, reduceCtorEq, pxJ_add, pxJ_sub, pxJ_mul, pxJ_neg, pxD_lt_t, pxD_lt_f, pxD_le_t, pxD_le_f, pxD_eq_t, pxD_eq_f, pxJ_lt, pxJ_le, pxJ_eq, px_gI, px_gR, px_pI, px_rc, px_ai, px_ar, px_si, px_ln, px_cp, pxJ_div, pxJ_b8, pxJ_byte, px_b2, px_bs, px_rb0, px_rb1, px_min, px_max, px_compare, pxW_some, jw_t_I, px_cpt, jw_r_I, px_cpr, jw_l_I, px_cpl, Option.some.injEq, t5, t52, t1, e1, t11, r01, r91, tg1, e2, f42, w3, f122]
        | true =>
          rw [if_neg (fun z => absurd z.2 (by decide))]
          rw [if_pos rfl] at f122
          simp (maxSteps := 4000000) (disch := first | assumption | omega | (simp only [jw_t_I, px_cpt, t5, t52]; done) | (simp only [jw_t_I, px_cpt, t5, t52]; omega)) only [pxL0, pxL1, pxL2, pxL3, pxL4, pxL5, pxL6, pxL7, pxL8, pxL9, pxL10, pxL11, pxL12, pxL13, pxL14, pxL15, pxL16, pxL17, pxL18, pxL19, pxL20, pxL21, pxL22, pxL23, pxL24, pxL25, pxL26, pxL27, pxL28, pxL29, pxL30, pxL31, pxL32, pxL33, pxL34, pxL35, pxL36, pxL37, pxL38, pxL39, pxL40, pxL41, pxL42, pxL43, pxL44, pxL45, pxL46, pxL47, pxL48, pxL49, pxL51, pxL57, pxL58, pxL59, pxL60, pxL61, pxL62, pxL63, pxL64, pxL65, pxL66, pxL67, pxL68, pxL69, pxL70, pxL71, pxL72, pxL73, pxL74, pxL75, pxL76, pxL77, pxL78, pxL79, pxL80, pxL81, pxL82, pxL83, pxL84, pxL85, pxL86, pxL87, pxL88, pxL89, pxL90, pxL91, pxL92, pxL93, pxL94, pxL95, pxL96, pxL97, pxL98, pxL99, pxL100, pxL101, pxL102, pxL103, pxL104, pxL105, pxL106, pxL107, pxL108, pxL109, pxL110, pxL111, pxL112, pxL113, pxL114, pxL115, pxL116, pxL117, pxL118, pxL119, pxL120, pxL121, pxL122, pxL123, pxL124, pxL125, pxL126, pxL200, pxL240, pxL287, pxL388, pxL400, pxL429, pxL431, pxL440, pxL1240, pxL1600, pxL1681, pxL12028, pxL13849, pxL14880, pxL25173, pxL26908, pxL49600, pxL65535, pxL65536, ↓reduceIte, reduceCtorEq, pxJ_add, pxJ_sub, pxJ_mul, pxJ_neg, pxD_lt_t, pxD_lt_f, pxD_le_t, pxD_le_f, pxD_eq_t, pxD_eq_f, pxJ_lt, pxJ_le, pxJ_eq, px_gI, px_gR, px_pI, px_rc, px_ai, px_ar, px_si, px_ln, px_cp, pxJ_div, pxJ_b8, pxJ_byte, px_b2, px_bs, px_rb0, px_rb1, px_min, px_max, px_compare, pxW_some, jw_t_I, px_cpt, jw_r_I, px_cpr, jw_l_I, px_cpl, Option.some.injEq, t5, t52, t1, e1, t11, r01, r91, tg1, e2, f42, w3, f122]
      · rw [if_neg (fun z => w3 z.1)]
        clear f122 f12
        simp (maxSteps := 4000000) (disch := first | assumption | omega | (simp only [jw_t_I, px_cpt, t5, t52]; done) | (simp only [jw_t_I, px_cpt, t5, t52]; omega)) only [pxL0, pxL1, pxL2, pxL3, pxL4, pxL5, pxL6, pxL7, pxL8, pxL9, pxL10, pxL11, pxL12, pxL13, pxL14, pxL15, pxL16, pxL17, pxL18, pxL19, pxL20, pxL21, pxL22, pxL23, pxL24, pxL25, pxL26, pxL27, pxL28, pxL29, pxL30, pxL31, pxL32, pxL33, pxL34, pxL35, pxL36, pxL37, pxL38, pxL39, pxL40, pxL41, pxL42, pxL43, pxL44, pxL45, pxL46, pxL47, pxL48, pxL49, pxL51, pxL57, pxL58, pxL59, pxL60, pxL61, pxL62, pxL63, pxL64, pxL65, pxL66, pxL67, pxL68, pxL69, pxL70, pxL71, pxL72, pxL73, pxL74, pxL75, pxL76, pxL77, pxL78, pxL79, pxL80, pxL81, pxL82, pxL83, pxL84, pxL85, pxL86, pxL87, pxL88, pxL89, pxL90, pxL91, pxL92, pxL93, pxL94, pxL95, pxL96, pxL97, pxL98, pxL99, pxL100, pxL101, pxL102, pxL103, pxL104, pxL105, pxL106, pxL107, pxL108, pxL109, pxL110, pxL111, pxL112, pxL113, pxL114, pxL115, pxL116, pxL117, pxL118, pxL119, pxL120, pxL121, pxL122, pxL123, pxL124, pxL125, pxL126, pxL200, pxL240, pxL287, pxL388, pxL400, pxL429, pxL431, pxL440, pxL1240, pxL1600, pxL1681, pxL12028, pxL13849, pxL14880, pxL25173, pxL26908, pxL49600, pxL65535, pxL65536, ↓reduceIte, reduceCtorEq, pxJ_add, pxJ_sub, pxJ_mul, pxJ_neg, pxD_lt_t, pxD_lt_f, pxD_le_t, pxD_le_f, pxD_eq_t, pxD_eq_f, pxJ_lt, pxJ_le, pxJ_eq, px_gI, px_gR, px_pI, px_rc, px_ai, px_ar, px_si, px_ln, px_cp, pxJ_div, pxJ_b8, pxJ_byte, px_b2, px_bs, px_rb0, px_rb1, px_min, px_max, px_compare, pxW_some, jw_t_I, px_cpt, jw_r_I, px_cpr, jw_l_I, px_cpl, Option.some.injEq, t5, t52, t1, e1, t11, r01, r91, tg1, e2, f42]
    rw [st]
    by_cases d : wh = 3 ∧ over = false
    · rw [if_pos d, if_pos d]
      exact ⟨(), h2, rfl, pxBR.mk (F12.mono (fun k f z => by unfold pxQB; omega)) (by rw [F12.m (by omega)]; exact m15) H2 (fun _ => rfl)⟩
    · rw [if_neg d, if_neg d]
      obtain ⟨h3, e3, F3, m3, Fr', H3, J⟩ := s_X1_putNew (by omega) H2 R2 (by rw [F12.m (by omega)]; exact m15)
      have t12 := H2.1.1
      have r92 := H2.1.2.2.2.2.2.2.2.2.2.2
      refine ⟨(), h3, ?_, pxBR.opt ((F12.mono (fun k f z => by unfold pxQB; omega)).trans (F3.mono (fun k f z => by unfold pxQB; omega))) m3 H3 J⟩
      unfold g_X1_doOne_b218
      clear CO H a1 a2 a3 a4 a5 a6 b6 b7 a8 G Ak ok ns H1 F1 R2 F2 F12 H2 cC CO1 H3 F3 J m3
      simp (maxSteps := 4000000) (disch := first | assumption | omega | (simp only [jw_t_I, px_cpt]; done) | (simp only [jw_t_I, px_cpt]; omega)) only [pxL0, pxL1, pxL2, pxL3, pxL4, pxL5, pxL6, pxL7, pxL8, pxL9, pxL10, pxL11, pxL12, pxL13, pxL14, pxL15, pxL16, pxL17, pxL18, pxL19, pxL20, pxL21, pxL22, pxL23, pxL24, pxL25, pxL26, pxL27, pxL28, pxL29, pxL30, pxL31, pxL32, pxL33, pxL34, pxL35, pxL36, pxL37, pxL38, pxL39, pxL40, pxL41, pxL42, pxL43, pxL44, pxL45, pxL46, pxL47, pxL48, pxL49, pxL51, pxL57, pxL58, pxL59, pxL60, pxL61, pxL62, pxL63, pxL64, pxL65, pxL66, pxL67, pxL68, pxL69, pxL70, pxL71, pxL72, pxL73, pxL74, pxL75, pxL76, pxL77, pxL78, pxL79, pxL80, pxL81, pxL82, pxL83, pxL84, pxL85, pxL86, pxL87, pxL88, pxL89, pxL90, pxL91, pxL92, pxL93, pxL94, pxL95, pxL96, pxL97, pxL98, pxL99, pxL100, pxL101, pxL102, pxL103, pxL104, pxL105, pxL106, pxL107, pxL108, pxL109, pxL110, pxL111, pxL112, pxL113, pxL114, pxL115, pxL116, pxL117, pxL118, pxL119, pxL120, pxL121, pxL122, pxL123, pxL124, pxL125, pxL126, pxL200, pxL240, pxL287, pxL388, pxL400, pxL429, pxL431, pxL440, pxL1240, pxL1600, pxL1681, pxL12028, pxL13849, pxL14880, pxL25173, pxL26908, pxL49600, pxL65535, pxL65536, ↓reduceIte, reduceCtorEq, pxJ_add, pxJ_sub, pxJ_mul, pxJ_neg, pxD_lt_t, pxD_lt_f, pxD_le_t, pxD_le_f, pxD_eq_t, pxD_eq_f, pxJ_lt, pxJ_le, pxJ_eq, px_gI, px_gR, px_pI, px_rc, px_ai, px_ar, px_si, px_ln, px_cp, pxJ_div, pxJ_b8, pxJ_byte, px_b2, px_bs, px_rb0, px_rb1, px_min, px_max, px_compare, pxW_some, jw_t_I, px_cpt, jw_r_I, px_cpr, jw_l_I, px_cpl, Option.some.injEq, t12, r92, e3]
  rw [if_neg c99]
  by_cases c100 : pxP s p = 100
  · rw [if_pos c100]
    obtain ⟨h1, e1, F1, H1⟩ := s_X1_goAway H
    refine ⟨(), h1, ?_, pxBR.mk (F1.mono (fun k f z => by unfold pxQB; omega)) (by rw [F1.m (by omega)]; exact m15) H1 (fun _ => rfl)⟩
    rw [px_lt100 t5 (f3.trans c100)]
    clear CO H a1 a2 a3 a4 a5 a6 b6 b7 a8 G Ak ok ns H1 F1 cC
    simp (maxSteps := 4000000) (disch := first | assumption | omega | (simp only [jw_t_I, px_cpt, t5]; done) | (simp only [jw_t_I, px_cpt, t5]; omega)) only [pxL0, pxL1, pxL2, pxL3, pxL4, pxL5, pxL6, pxL7, pxL8, pxL9, pxL10, pxL11, pxL12, pxL13, pxL14, pxL15, pxL16, pxL17, pxL18, pxL19, pxL20, pxL21, pxL22, pxL23, pxL24, pxL25, pxL26, pxL27, pxL28, pxL29, pxL30, pxL31, pxL32, pxL33, pxL34, pxL35, pxL36, pxL37, pxL38, pxL39, pxL40, pxL41, pxL42, pxL43, pxL44, pxL45, pxL46, pxL47, pxL48, pxL49, pxL51, pxL57, pxL58, pxL59, pxL60, pxL61, pxL62, pxL63, pxL64, pxL65, pxL66, pxL67, pxL68, pxL69, pxL70, pxL71, pxL72, pxL73, pxL74, pxL75, pxL76, pxL77, pxL78, pxL79, pxL80, pxL81, pxL82, pxL83, pxL84, pxL85, pxL86, pxL87, pxL88, pxL89, pxL90, pxL91, pxL92, pxL93, pxL94, pxL95, pxL96, pxL97, pxL98, pxL99, pxL100, pxL101, pxL102, pxL103, pxL104, pxL105, pxL106, pxL107, pxL108, pxL109, pxL110, pxL111, pxL112, pxL113, pxL114, pxL115, pxL116, pxL117, pxL118, pxL119, pxL120, pxL121, pxL122, pxL123, pxL124, pxL125, pxL126, pxL200, pxL240, pxL287, pxL388, pxL400, pxL429, pxL431, pxL440, pxL1240, pxL1600, pxL1681, pxL12028, pxL13849, pxL14880, pxL25173, pxL26908, pxL49600, pxL65535, pxL65536, ↓reduceIte, reduceCtorEq, pxJ_add, pxJ_sub, pxJ_mul, pxJ_neg, pxD_lt_t, pxD_lt_f, pxD_le_t, pxD_le_f, pxD_eq_t, pxD_eq_f, pxJ_lt, pxJ_le, pxJ_eq, px_gI, px_gR, px_pI, px_rc, px_ai, px_ar, px_si, px_ln, px_cp, pxJ_div, pxJ_b8, pxJ_byte, px_b2, px_bs, px_rb0, px_rb1, px_min, px_max, px_compare, pxW_some, jw_t_I, px_cpt, jw_r_I, px_cpr, jw_l_I, px_cpl, Option.some.injEq, t5, t1, e1]
  rw [if_neg c100]
  by_cases c101 : pxP s p = 101
  · rw [if_pos c101]
    obtain ⟨u1, h1, e1, B1⟩ := s_X1_exchange H m15
    refine ⟨(), h1, ?_, B1⟩
    rw [px_lt101 t5 (f3.trans c101)]
    clear CO H a1 a2 a3 a4 a5 a6 b6 b7 a8 G Ak ok ns B1 cC
    simp (maxSteps := 4000000) (disch := first | assumption | omega | (simp only [jw_t_I, px_cpt, t5]; done) | (simp only [jw_t_I, px_cpt, t5]; omega)) only [pxL0, pxL1, pxL2, pxL3, pxL4, pxL5, pxL6, pxL7, pxL8, pxL9, pxL10, pxL11, pxL12, pxL13, pxL14, pxL15, pxL16, pxL17, pxL18, pxL19, pxL20, pxL21, pxL22, pxL23, pxL24, pxL25, pxL26, pxL27, pxL28, pxL29, pxL30, pxL31, pxL32, pxL33, pxL34, pxL35, pxL36, pxL37, pxL38, pxL39, pxL40, pxL41, pxL42, pxL43, pxL44, pxL45, pxL46, pxL47, pxL48, pxL49, pxL51, pxL57, pxL58, pxL59, pxL60, pxL61, pxL62, pxL63, pxL64, pxL65, pxL66, pxL67, pxL68, pxL69, pxL70, pxL71, pxL72, pxL73, pxL74, pxL75, pxL76, pxL77, pxL78, pxL79, pxL80, pxL81, pxL82, pxL83, pxL84, pxL85, pxL86, pxL87, pxL88, pxL89, pxL90, pxL91, pxL92, pxL93, pxL94, pxL95, pxL96, pxL97, pxL98, pxL99, pxL100, pxL101, pxL102, pxL103, pxL104, pxL105, pxL106, pxL107, pxL108, pxL109, pxL110, pxL111, pxL112, pxL113, pxL114, pxL115, pxL116, pxL117, pxL118, pxL119, pxL120, pxL121, pxL122, pxL123, pxL124, pxL125, pxL126, pxL200, pxL240, pxL287, pxL388, pxL400, pxL429, pxL431, pxL440, pxL1240, pxL1600, pxL1681, pxL12028, pxL13849, pxL14880, pxL25173, pxL26908, pxL49600, pxL65535, pxL65536, ↓reduceIte, reduceCtorEq, pxJ_add, pxJ_sub, pxJ_mul, pxJ_neg, pxD_lt_t, pxD_lt_f, pxD_le_t, pxD_le_f, pxD_eq_t, pxD_eq_f, pxJ_lt, pxJ_le, pxJ_eq, px_gI, px_gR, px_pI, px_rc, px_ai, px_ar, px_si, px_ln, px_cp, pxJ_div, pxJ_b8, pxJ_byte, px_b2, px_bs, px_rb0, px_rb1, px_min, px_max, px_compare, pxW_some, jw_t_I, px_cpt, jw_r_I, px_cpr, jw_l_I, px_cpl, Option.some.injEq, t5, t1, e1]
  rw [if_neg c101]
  by_cases c105 : pxP s p = 105
  · rw [if_pos c105]
    obtain ⟨u1, h1, e1, F1, H1, R1⟩ := s_BRows CO H (by omega)
    obtain ⟨h3, e3, F3, m3, Fr', H3, J⟩ := s_X1_putNew (by omega) H1 R1 (by rw [F1.m (by omega)]; exact m15)
    have t11 := H1.1.1
    have r91 := H1.1.2.2.2.2.2.2.2.2.2.2
    refine ⟨(), h3, ?_, pxBR.opt ((F1.mono (fun k f z => by unfold pxQB; omega)).trans (F3.mono (fun k f z => by unfold pxQB; omega))) m3 H3 J⟩
    rw [px_lt105 t5 (f3.trans c105)]
    clear CO H a1 a2 a3 a4 a5 a6 b6 b7 a8 G Ak ok ns H1 F1 R1 cC H3 F3 J m3
    simp (maxSteps := 4000000) (disch := first | assumption | omega | (simp only [jw_t_I, px_cpt, t5]; done) | (simp only [jw_t_I, px_cpt, t5]; omega)) only [pxL0, pxL1, pxL2, pxL3, pxL4, pxL5, pxL6, pxL7, pxL8, pxL9, pxL10, pxL11, pxL12, pxL13, pxL14, pxL15, pxL16, pxL17, pxL18, pxL19, pxL20, pxL21, pxL22, pxL23, pxL24, pxL25, pxL26, pxL27, pxL28, pxL29, pxL30, pxL31, pxL32, pxL33, pxL34, pxL35, pxL36, pxL37, pxL38, pxL39, pxL40, pxL41, pxL42, pxL43, pxL44, pxL45, pxL46, pxL47, pxL48, pxL49, pxL51, pxL57, pxL58, pxL59, pxL60, pxL61, pxL62, pxL63, pxL64, pxL65, pxL66, pxL67, pxL68, pxL69, pxL70, pxL71, pxL72, pxL73, pxL74, pxL75, pxL76, pxL77, pxL78, pxL79, pxL80, pxL81, pxL82, pxL83, pxL84, pxL85, pxL86, pxL87, pxL88, pxL89, pxL90, pxL91, pxL92, pxL93, pxL94, pxL95, pxL96, pxL97, pxL98, pxL99, pxL100, pxL101, pxL102, pxL103, pxL104, pxL105, pxL106, pxL107, pxL108, pxL109, pxL110, pxL111, pxL112, pxL113, pxL114, pxL115, pxL116, pxL117, pxL118, pxL119, pxL120, pxL121, pxL122, pxL123, pxL124, pxL125, pxL126, pxL200, pxL240, pxL287, pxL388, pxL400, pxL429, pxL431, pxL440, pxL1240, pxL1600, pxL1681, pxL12028, pxL13849, pxL14880, pxL25173, pxL26908, pxL49600, pxL65535, pxL65536, ↓reduceIte, reduceCtorEq, pxJ_add, pxJ_sub, pxJ_mul, pxJ_neg, pxD_lt_t, pxD_lt_f, pxD_le_t, pxD_le_f, pxD_eq_t, pxD_eq_f, pxJ_lt, pxJ_le, pxJ_eq, px_gI, px_gR, px_pI, px_rc, px_ai, px_ar, px_si, px_ln, px_cp, pxJ_div, pxJ_b8, pxJ_byte, px_b2, px_bs, px_rb0, px_rb1, px_min, px_max, px_compare, pxW_some, jw_t_I, px_cpt, jw_r_I, px_cpr, jw_l_I, px_cpl, Option.some.injEq, t5, t1, r0, r9, tg, e1, t11, r91, e3]
  rw [if_neg c105]
  by_cases c106 : pxP s p = 106
  · rw [if_pos c106]
    obtain ⟨u1, h1, e1, B1⟩ := s_X1_join H m15
    refine ⟨(), h1, ?_, B1⟩
    rw [px_lt106 t5 (f3.trans c106)]
    clear CO H a1 a2 a3 a4 a5 a6 b6 b7 a8 G Ak ok ns B1 cC
    simp (maxSteps := 4000000) (disch := first | assumption | omega | (simp only [jw_t_I, px_cpt, t5]; done) | (simp only [jw_t_I, px_cpt, t5]; omega)) only [pxL0, pxL1, pxL2, pxL3, pxL4, pxL5, pxL6, pxL7, pxL8, pxL9, pxL10, pxL11, pxL12, pxL13, pxL14, pxL15, pxL16, pxL17, pxL18, pxL19, pxL20, pxL21, pxL22, pxL23, pxL24, pxL25, pxL26, pxL27, pxL28, pxL29, pxL30, pxL31, pxL32, pxL33, pxL34, pxL35, pxL36, pxL37, pxL38, pxL39, pxL40, pxL41, pxL42, pxL43, pxL44, pxL45, pxL46, pxL47, pxL48, pxL49, pxL51, pxL57, pxL58, pxL59, pxL60, pxL61, pxL62, pxL63, pxL64, pxL65, pxL66, pxL67, pxL68, pxL69, pxL70, pxL71, pxL72, pxL73, pxL74, pxL75, pxL76, pxL77, pxL78, pxL79, pxL80, pxL81, pxL82, pxL83, pxL84, pxL85, pxL86, pxL87, pxL88, pxL89, pxL90, pxL91, pxL92, pxL93, pxL94, pxL95, pxL96, pxL97, pxL98, pxL99, pxL100, pxL101, pxL102, pxL103, pxL104, pxL105, pxL106, pxL107, pxL108, pxL109, pxL110, pxL111, pxL112, pxL113, pxL114, pxL115, pxL116, pxL117, pxL118, pxL119, pxL120, pxL121, pxL122, pxL123, pxL124, pxL125, pxL126, pxL200, pxL240, pxL287, pxL388, pxL400, pxL429, pxL431, pxL440, pxL1240, pxL1600, pxL1681, pxL12028, pxL13849, pxL14880, pxL25173, pxL26908, pxL49600, pxL65535, pxL65536, ↓reduceIte, reduceCtorEq, pxJ_add, pxJ_sub, pxJ_mul, pxJ_neg, pxD_lt_t, pxD_lt_f, pxD_le_t, pxD_le_f, pxD_eq_t, pxD_eq_f, pxJ_lt, pxJ_le, pxJ_eq, px_gI, px_gR, px_pI, px_rc, px_ai, px_ar, px_si, px_ln, px_cp, pxJ_div, pxJ_b8, pxJ_byte, px_b2, px_bs, px_rb0, px_rb1, px_min, px_max, px_compare, pxW_some, jw_t_I, px_cpt, jw_r_I, px_cpr, jw_l_I, px_cpl, Option.some.injEq, t5, t1, e1]
  rw [if_neg c106]
  have t8 := a6.1.1
  by_cases c114 : pxP s p = 114
  · rw [if_pos c114]
    have eO : pxOn s p = pxP s (p + 1) - 48 := by unfold pxOn; rw [if_neg (by omega), if_pos (Or.inl c114)]
    have n5 := Ak.2.1 (by unfold pxOnA; omega)
    rw [eO] at n5
    have nr : 48 ≤ pxP s (p + 1) ∧ pxP s (p + 1) ≤ 51 := by
      unfold pxAct at ok
      rw [c114] at ok
      by_cases z : 48 ≤ pxP s (p + 1) ∧ pxP s (p + 1) ≤ 51
      · exact z
      · rw [if_neg (by omega), if_neg (by omega), if_neg (by omega), if_neg (by omega), if_neg (by omega), if_pos (by omega), if_neg z] at ok
        cases ok
    have fe := s_X8_file a6.1 (k := pxP s (p + 1) - 48) (by omega) (by omega)
    rw [if_pos (by omega)] at fe
    have Rf := a6.2.2.2 (pxP s (p + 1) - 48) (by omega) (by omega)
    obtain ⟨h2, e2, F2, H2⟩ := s_X1_putDue (by omega) H Rf
    refine ⟨(), h2, ?_, pxBR.mk (F2.mono (fun k f z => by unfold pxC at z; unfold pxQB; omega)) (by rw [F2.m (by unfold pxC; omega)]; exact m15) H2 (fun _ => rfl)⟩
    rw [px_lt114 t5 (f3.trans c114)]
    clear CO H a1 a2 a3 a4 a5 a6 b6 b7 a8 G Ak ok ns F2 Rf H2 cC
    simp (maxSteps := 4000000) (disch := first | assumption | omega | (simp only [jw_t_I, px_cpt, t5]; done) | (simp only [jw_t_I, px_cpt, t5]; omega)) only [pxL0, pxL1, pxL2, pxL3, pxL4, pxL5, pxL6, pxL7, pxL8, pxL9, pxL10, pxL11, pxL12, pxL13, pxL14, pxL15, pxL16, pxL17, pxL18, pxL19, pxL20, pxL21, pxL22, pxL23, pxL24, pxL25, pxL26, pxL27, pxL28, pxL29, pxL30, pxL31, pxL32, pxL33, pxL34, pxL35, pxL36, pxL37, pxL38, pxL39, pxL40, pxL41, pxL42, pxL43, pxL44, pxL45, pxL46, pxL47, pxL48, pxL49, pxL51, pxL57, pxL58, pxL59, pxL60, pxL61, pxL62, pxL63, pxL64, pxL65, pxL66, pxL67, pxL68, pxL69, pxL70, pxL71, pxL72, pxL73, pxL74, pxL75, pxL76, pxL77, pxL78, pxL79, pxL80, pxL81, pxL82, pxL83, pxL84, pxL85, pxL86, pxL87, pxL88, pxL89, pxL90, pxL91, pxL92, pxL93, pxL94, pxL95, pxL96, pxL97, pxL98, pxL99, pxL100, pxL101, pxL102, pxL103, pxL104, pxL105, pxL106, pxL107, pxL108, pxL109, pxL110, pxL111, pxL112, pxL113, pxL114, pxL115, pxL116, pxL117, pxL118, pxL119, pxL120, pxL121, pxL122, pxL123, pxL124, pxL125, pxL126, pxL200, pxL240, pxL287, pxL388, pxL400, pxL429, pxL431, pxL440, pxL1240, pxL1600, pxL1681, pxL12028, pxL13849, pxL14880, pxL25173, pxL26908, pxL49600, pxL65535, pxL65536, ↓reduceIte, reduceCtorEq, pxJ_add, pxJ_sub, pxJ_mul, pxJ_neg, pxD_lt_t, pxD_lt_f, pxD_le_t, pxD_le_f, pxD_eq_t, pxD_eq_f, pxJ_lt, pxJ_le, pxJ_eq, px_gI, px_gR, px_pI, px_rc, px_ai, px_ar, px_si, px_ln, px_cp, pxJ_div, pxJ_b8, pxJ_byte, px_b2, px_bs, px_rb0, px_rb1, px_min, px_max, px_compare, pxW_some, jw_t_I, px_cpt, jw_r_I, px_cpr, jw_l_I, px_cpl, Option.some.injEq, t5, t1, r2, n5, t8, fe, e2]
  rw [if_neg c114]
  by_cases c117 : pxP s p = 117
  · rw [if_pos c117]
    have s0 := a6.1.2.1
    have R := a6.2.1
    have t7h := R.1.1
    have c2 := R.2.2.2.1
    have h40 := R.2.1
    by_cases d : S.1 = []
    · rw [if_pos d]
      have d' : (S.1.length : Int) = 0 := by rw [d]; rfl
      have F0 : pxF (fun k f => k = 571 ∧ f = 15) h (jw_setI h 571 15 (pxJ 5)) := pxF.setI ⟨rfl, rfl⟩
      have H0 : pxBS (jw_setI h 571 15 (pxJ 5)) T (W, Fr, S, rep) := H.fr F0 (fun k f z => by omega)
      obtain ⟨h2, e2, F2, H2⟩ := s_X1_putDue (by omega) H0 (pxIR.fr R F0 (fun k f _ _ => by omega))
      refine ⟨(), h2, ?_, pxBR.mk ((F0.mono (fun k f z => by unfold pxQB; omega)).trans (F2.mono (fun k f z => by unfold pxC at z; unfold pxQB; omega))) (by rw [F2.m (by unfold pxC; omega)]; exact pxM_eq (by omega) (by omega)) H2 (fun z => absurd z (by show ¬ (5 : Int) = 0; omega))⟩
      rw [px_lt117 t5 (f3.trans c117)]
      unfold g_X1_doOne_b273
      clear CO H a1 a2 a3 a4 a5 a6 b6 b7 a8 G Ak ok ns F2 R H2 cC F0 H0
      simp (maxSteps := 4000000) (disch := first | assumption | omega | (simp only [jw_t_I, px_cpt, t5]; done) | (simp only [jw_t_I, px_cpt, t5]; omega)) only [pxL0, pxL1, pxL2, pxL3, pxL4, pxL5, pxL6, pxL7, pxL8, pxL9, pxL10, pxL11, pxL12, pxL13, pxL14, pxL15, pxL16, pxL17, pxL18, pxL19, pxL20, pxL21, pxL22, pxL23, pxL24, pxL25, pxL26, pxL27, pxL28, pxL29, pxL30, pxL31, pxL32, pxL33, pxL34, pxL35, pxL36, pxL37, pxL38, pxL39, pxL40, pxL41, pxL42, pxL43, pxL44, pxL45, pxL46, pxL47, pxL48, pxL49, pxL51, pxL57, pxL58, pxL59, pxL60, pxL61, pxL62, pxL63, pxL64, pxL65, pxL66, pxL67, pxL68, pxL69, pxL70, pxL71, pxL72, pxL73, pxL74, pxL75, pxL76, pxL77, pxL78, pxL79, pxL80, pxL81, pxL82, pxL83, pxL84, pxL85, pxL86, pxL87, pxL88, pxL89, pxL90, pxL91, pxL92, pxL93, pxL94, pxL95, pxL96, pxL97, pxL98, pxL99, pxL100, pxL101, pxL102, pxL103, pxL104, pxL105, pxL106, pxL107, pxL108, pxL109, pxL110, pxL111, pxL112, pxL113, pxL114, pxL115, pxL116, pxL117, pxL118, pxL119, pxL120, pxL121, pxL122, pxL123, pxL124, pxL125, pxL126, pxL200, pxL240, pxL287, pxL388, pxL400, pxL429, pxL431, pxL440, pxL1240, pxL1600, pxL1681, pxL12028, pxL13849, pxL14880, pxL25173, pxL26908, pxL49600, pxL65535, pxL65536, ↓reduceIte, reduceCtorEq, pxJ_add, pxJ_sub, pxJ_mul, pxJ_neg, pxD_lt_t, pxD_lt_f, pxD_le_t, pxD_le_f, pxD_eq_t, pxD_eq_f, pxJ_lt, pxJ_le, pxJ_eq, px_gI, px_gR, px_pI, px_rc, px_ai, px_ar, px_si, px_ln, px_cp, pxJ_div, pxJ_b8, pxJ_byte, px_b2, px_bs, px_rb0, px_rb1, px_min, px_max, px_compare, pxW_some, jw_t_I, px_cpt, jw_r_I, px_cpr, jw_l_I, px_cpl, Option.some.injEq, t5, t1, r2, t8, s0, t7h, c2, d', e2]
    · rw [if_neg d]
      have d' : ¬ (S.1.length : Int) = 0 := fun z => d (List.length_eq_zero_iff.mp (by omega))
      have F0 : pxF (fun k f => k = 571 ∧ f = 15) h (jw_setI h 571 15 (pxJ 0)) := pxF.setI ⟨rfl, rfl⟩
      have H0 : pxBS (jw_setI h 571 15 (pxJ 0)) T (W, Fr, S, rep) := H.fr F0 (fun k f z => by omega)
      obtain ⟨h2, e2, F2, H2⟩ := s_X1_putDue (by omega) H0 (pxIR.fr R F0 (fun k f _ _ => by omega))
      refine ⟨(), h2, ?_, pxBR.mk ((F0.mono (fun k f z => by unfold pxQB; omega)).trans (F2.mono (fun k f z => by unfold pxC at z; unfold pxQB; omega))) (by rw [F2.m (by unfold pxC; omega)]; exact pxM_eq (by omega) (by omega)) H2 (fun _ => rfl)⟩
      rw [px_lt117 t5 (f3.trans c117)]
      unfold g_X1_doOne_b273
      clear CO H a1 a2 a3 a4 a5 a6 b6 b7 a8 G Ak ok ns F2 R H2 cC F0 H0
      simp (maxSteps := 4000000) (disch := first | assumption | omega | (simp only [jw_t_I, px_cpt, t5]; done) | (simp only [jw_t_I, px_cpt, t5]; omega)) only [pxL0, pxL1, pxL2, pxL3, pxL4, pxL5, pxL6, pxL7, pxL8, pxL9, pxL10, pxL11, pxL12, pxL13, pxL14, pxL15, pxL16, pxL17, pxL18, pxL19, pxL20, pxL21, pxL22, pxL23, pxL24, pxL25, pxL26, pxL27, pxL28, pxL29, pxL30, pxL31, pxL32, pxL33, pxL34, pxL35, pxL36, pxL37, pxL38, pxL39, pxL40, pxL41, pxL42, pxL43, pxL44, pxL45, pxL46, pxL47, pxL48, pxL49, pxL51, pxL57, pxL58, pxL59, pxL60, pxL61, pxL62, pxL63, pxL64, pxL65, pxL66, pxL67, pxL68, pxL69, pxL70, pxL71, pxL72, pxL73, pxL74, pxL75, pxL76, pxL77, pxL78, pxL79, pxL80, pxL81, pxL82, pxL83, pxL84, pxL85, pxL86, pxL87, pxL88, pxL89, pxL90, pxL91, pxL92, pxL93, pxL94, pxL95, pxL96, pxL97, pxL98, pxL99, pxL100, pxL101, pxL102, pxL103, pxL104, pxL105, pxL106, pxL107, pxL108, pxL109, pxL110, pxL111, pxL112, pxL113, pxL114, pxL115, pxL116, pxL117, pxL118, pxL119, pxL120, pxL121, pxL122, pxL123, pxL124, pxL125, pxL126, pxL200, pxL240, pxL287, pxL388, pxL400, pxL429, pxL431, pxL440, pxL1240, pxL1600, pxL1681, pxL12028, pxL13849, pxL14880, pxL25173, pxL26908, pxL49600, pxL65535, pxL65536, ↓reduceIte, reduceCtorEq, pxJ_add, pxJ_sub, pxJ_mul, pxJ_neg, pxD_lt_t, pxD_lt_f, pxD_le_t, pxD_le_f, pxD_eq_t, pxD_eq_f, pxJ_lt, pxJ_le, pxJ_eq, px_gI, px_gR, px_pI, px_rc, px_ai, px_ar, px_si, px_ln, px_cp, pxJ_div, pxJ_b8, pxJ_byte, px_b2, px_bs, px_rb0, px_rb1, px_min, px_max, px_compare, pxW_some, jw_t_I, px_cpt, jw_r_I, px_cpr, jw_l_I, px_cpl, Option.some.injEq, t5, t1, r2, t8, s0, t7h, c2, e2]
  rw [if_neg c117]
  by_cases c118 : pxP s p = 118
  · rw [if_pos c118]
    have n5 := Ak.2.1 (by unfold pxOnA; omega)
    have eO : pxOn s p = pxNumV s (p + 1) := by unfold pxOn; rw [if_neg (by omega), if_neg (by omega), if_neg (by omega), if_neg (by omega), if_neg (by omega)]
    rw [eO] at n5
    have nr : 0 ≤ pxNumV s (p + 1) ∧ pxNumV s (p + 1) ≤ 99 := by
      have dg : pxIsDg (pxP s (p + 1)) = true := by
        by_cases z : pxIsDg (pxP s (p + 1)) = true
        · exact z
        · unfold pxAct at ok
          rw [c118, if_neg (by omega), if_neg (by omega), if_pos (by omega)] at ok
          unfold pxNum at ok
          rw [if_neg z] at ok
          cases ok
      have dg' := pxIsDg_i.mp dg
      unfold pxNumV
      by_cases e2 : pxIsDg (pxP s (p + 1 + 1)) = true
      · have := pxIsDg_i.mp e2
        rw [if_pos e2]; omega
      · rw [if_neg e2]; omega
    obtain ⟨u1, h1, e1, B1⟩ := s_X1_part (n := pxNumV s (p + 1)) H m15 nr.1 nr.2
    refine ⟨(), h1, ?_, B1⟩
    rw [px_lt118 t5 (f3.trans c118)]
    clear CO H a1 a2 a3 a4 a5 a6 b6 b7 a8 G Ak ok ns B1 cC
    simp (maxSteps := 4000000) (disch := first | assumption | omega | (simp only [jw_t_I, px_cpt, t5]; done) | (simp only [jw_t_I, px_cpt, t5]; omega)) only [pxL0, pxL1, pxL2, pxL3, pxL4, pxL5, pxL6, pxL7, pxL8, pxL9, pxL10, pxL11, pxL12, pxL13, pxL14, pxL15, pxL16, pxL17, pxL18, pxL19, pxL20, pxL21, pxL22, pxL23, pxL24, pxL25, pxL26, pxL27, pxL28, pxL29, pxL30, pxL31, pxL32, pxL33, pxL34, pxL35, pxL36, pxL37, pxL38, pxL39, pxL40, pxL41, pxL42, pxL43, pxL44, pxL45, pxL46, pxL47, pxL48, pxL49, pxL51, pxL57, pxL58, pxL59, pxL60, pxL61, pxL62, pxL63, pxL64, pxL65, pxL66, pxL67, pxL68, pxL69, pxL70, pxL71, pxL72, pxL73, pxL74, pxL75, pxL76, pxL77, pxL78, pxL79, pxL80, pxL81, pxL82, pxL83, pxL84, pxL85, pxL86, pxL87, pxL88, pxL89, pxL90, pxL91, pxL92, pxL93, pxL94, pxL95, pxL96, pxL97, pxL98, pxL99, pxL100, pxL101, pxL102, pxL103, pxL104, pxL105, pxL106, pxL107, pxL108, pxL109, pxL110, pxL111, pxL112, pxL113, pxL114, pxL115, pxL116, pxL117, pxL118, pxL119, pxL120, pxL121, pxL122, pxL123, pxL124, pxL125, pxL126, pxL200, pxL240, pxL287, pxL388, pxL400, pxL429, pxL431, pxL440, pxL1240, pxL1600, pxL1681, pxL12028, pxL13849, pxL14880, pxL25173, pxL26908, pxL49600, pxL65535, pxL65536, ↓reduceIte, reduceCtorEq, pxJ_add, pxJ_sub, pxJ_mul, pxJ_neg, pxD_lt_t, pxD_lt_f, pxD_le_t, pxD_le_f, pxD_eq_t, pxD_eq_f, pxJ_lt, pxJ_le, pxJ_eq, px_gI, px_gR, px_pI, px_rc, px_ai, px_ar, px_si, px_ln, px_cp, pxJ_div, pxJ_b8, pxJ_byte, px_b2, px_bs, px_rb0, px_rb1, px_min, px_max, px_compare, pxW_some, jw_t_I, px_cpt, jw_r_I, px_cpr, jw_l_I, px_cpl, Option.some.injEq, t5, t1, n5, e1]
  rw [if_neg c118]
  have okc := ok
  have ac : pxP s p = 112 ∨ pxP s p = 110 ∨ pxP s p = 61 ∨ pxP s p = 104 ∨ pxP s p = 72 ∨ (pxP s p = 107 ∧ pxM h (12 + 4 * i) 5 = pxP s (p + 1) - 97 ∧ 97 ≤ pxP s (p + 1) ∧ pxP s (p + 1) ≤ 101) ∨ (pxP s p = 119 ∧ pxM h (12 + 4 * i) 5 = pxP s (p + 1) - 48 ∧ 48 ≤ pxP s (p + 1) ∧ pxP s (p + 1) ≤ 51) := by
    have ns' : ¬ (pxP s p = 58 ∨ pxP s p = 98 ∨ pxP s p = 84 ∨ pxP s p = 113 ∨ pxP s p = 78) := fun z => ns (pxSteer_i.mpr z)
    by_cases c107 : pxP s p = 107
    · have n5 := Ak.2.1 (by unfold pxOnA; omega)
      have eO : pxOn s p = pxP s (p + 1) - 97 := by unfold pxOn; rw [if_pos c107]
      rw [eO] at n5
      unfold pxAct at okc
      rw [c107, if_neg (by omega), if_neg (by omega), if_neg (by omega), if_neg (by omega), if_pos (by omega)] at okc
      by_cases z : 97 ≤ pxP s (p + 1) ∧ pxP s (p + 1) ≤ 101
      · exact Or.inr (Or.inr (Or.inr (Or.inr (Or.inr (Or.inl ⟨c107, n5, z⟩)))))
      · rw [if_neg z] at okc; cases okc
    · by_cases c119 : pxP s p = 119
      · have n5 := Ak.2.1 (by unfold pxOnA; omega)
        have eO : pxOn s p = pxP s (p + 1) - 48 := by unfold pxOn; rw [if_neg c107, if_pos (Or.inr c119)]
        rw [eO] at n5
        unfold pxAct at okc
        rw [c119, if_neg (by omega), if_neg (by omega), if_neg (by omega), if_neg (by omega), if_neg (by omega), if_pos (by omega)] at okc
        by_cases z : 48 ≤ pxP s (p + 1) ∧ pxP s (p + 1) ≤ 51
        · exact Or.inr (Or.inr (Or.inr (Or.inr (Or.inr (Or.inr ⟨c119, n5, z⟩)))))
        · rw [if_neg z] at okc; cases okc
      · by_cases c112 : pxP s p = 112 ∨ pxP s p = 110 ∨ pxP s p = 61 ∨ pxP s p = 104 ∨ pxP s p = 72
        · omega
        · exfalso
          unfold pxAct at okc
          rw [if_neg (by omega), if_neg (by omega), if_neg (by omega), if_neg (by omega), if_neg (by omega), if_neg (by omega), if_neg (by omega), if_neg (by omega), if_neg (by omega), if_neg (by omega)] at okc
          cases okc
  obtain ⟨u1, h1, e1, B1⟩ := s_X1_tell H m15 t5 f3 (by omega) ac
  refine ⟨(), h1, ?_, B1⟩
  rw [px_ltT t5 f3 (by omega)]
  clear CO H a1 a2 a3 a4 a5 a6 b6 b7 a8 G Ak ok ns B1 okc ac
  simp (maxSteps := 4000000) (disch := first | assumption | omega | (simp only [jw_t_I, px_cpt, t5]; done) | (simp only [jw_t_I, px_cpt, t5]; omega)) only [pxL0, pxL1, pxL2, pxL3, pxL4, pxL5, pxL6, pxL7, pxL8, pxL9, pxL10, pxL11, pxL12, pxL13, pxL14, pxL15, pxL16, pxL17, pxL18, pxL19, pxL20, pxL21, pxL22, pxL23, pxL24, pxL25, pxL26, pxL27, pxL28, pxL29, pxL30, pxL31, pxL32, pxL33, pxL34, pxL35, pxL36, pxL37, pxL38, pxL39, pxL40, pxL41, pxL42, pxL43, pxL44, pxL45, pxL46, pxL47, pxL48, pxL49, pxL51, pxL57, pxL58, pxL59, pxL60, pxL61, pxL62, pxL63, pxL64, pxL65, pxL66, pxL67, pxL68, pxL69, pxL70, pxL71, pxL72, pxL73, pxL74, pxL75, pxL76, pxL77, pxL78, pxL79, pxL80, pxL81, pxL82, pxL83, pxL84, pxL85, pxL86, pxL87, pxL88, pxL89, pxL90, pxL91, pxL92, pxL93, pxL94, pxL95, pxL96, pxL97, pxL98, pxL99, pxL100, pxL101, pxL102, pxL103, pxL104, pxL105, pxL106, pxL107, pxL108, pxL109, pxL110, pxL111, pxL112, pxL113, pxL114, pxL115, pxL116, pxL117, pxL118, pxL119, pxL120, pxL121, pxL122, pxL123, pxL124, pxL125, pxL126, pxL200, pxL240, pxL287, pxL388, pxL400, pxL429, pxL431, pxL440, pxL1240, pxL1600, pxL1681, pxL12028, pxL13849, pxL14880, pxL25173, pxL26908, pxL49600, pxL65535, pxL65536, ↓reduceIte, reduceCtorEq, pxJ_add, pxJ_sub, pxJ_mul, pxJ_neg, pxD_lt_t, pxD_lt_f, pxD_le_t, pxD_le_f, pxD_eq_t, pxD_eq_f, pxJ_lt, pxJ_le, pxJ_eq, px_gI, px_gR, px_pI, px_rc, px_ai, px_ar, px_si, px_ln, px_cp, pxJ_div, pxJ_b8, pxJ_byte, px_b2, px_bs, px_rb0, px_rb1, px_min, px_max, px_compare, pxW_some, jw_t_I, px_cpt, jw_r_I, px_cpr, jw_l_I, px_cpl, Option.some.injEq, t5, t1, e1]
end
