/-! orders over the whole: orders that steer -/
theorem pxOn_lab {s : List Int} {p : Int} (h : pxP s p = 58 ∨ pxP s p = 98 ∨ pxP s p = 84) : -1 ≤ pxOn s p ∧ pxOn s p ≤ 25 := by
  unfold pxOn
  rw [if_neg (show ¬ pxP s p = 107 by omega), if_neg (show ¬ (pxP s p = 114 ∨ pxP s p = 119) by omega), if_pos h]
  by_cases c : 65 ≤ pxP s (p + 1) ∧ pxP s (p + 1) ≤ 90
  · rw [if_pos c]; omega
  · rw [if_neg c]; omega
theorem pxCnt_tle : ∀ (L : List (Int × List Int)) (d : Nat), pxCnt (L.take d) ≤ pxCnt L
  | [], d => by rw [List.take_nil]; exact Nat.le_refl _
  | u :: r, 0 => Nat.zero_le _
  | u :: r, d + 1 => by
    have := pxCnt_tle r d
    show 1 + u.2.length + pxCnt (r.take d) ≤ 1 + u.2.length + pxCnt r
    omega
/-- an order that steers: the reason, the next place, text, whether one was replaced -/
def pxStr (s : List Int) (L : List (Int × List Int)) (j : Nat) (p f l : Int) (T : pxTx) (rep : Bool) : Int × Nat × pxTx × Bool :=
  if (pxWh s p).2.2.1 ≠ 0 ∧ (T.2.2.1 < f ∨ l < T.2.2.1) then (0, j + 1, T, rep)
  else if pxAc s p = 78 then (if T.2.2.1 < (T.1.length : Int) then (0, j + 1, (T.1, T.2.1, T.2.2.1 + 1, T.2.2.2), rep) else (1, j + 1, T, rep))
  else if pxAc s p = 58 ∨ (pxAc s p = 84 ∧ rep = false) then (0, j + 1, T, rep)
  else if pxAc s p = 113 ∨ pxOn s (pxWh s p).2.1 = -1 then (0, L.length, T, rep)
  else (if pxBeh s (pxOn s (pxWh s p).2.1) L 0 = -1 then 6 else 0, (pxBeh s (pxOn s (pxWh s p).2.1) L 0).toNat, T, if pxAc s p = 84 then false else rep)
def pxQS : Nat → Nat → Prop := fun k f => (k = 559 ∧ f = 14) ∨ (k = 255 ∧ f = 3) ∨ (k = 536 ∧ f = 5)
theorem pxAux.rep0 {h : jw_H} {rep : Bool} (A : pxAux h rep) : pxAux (jw_setI h 536 5 (pxJ 0)) false := by
  obtain ⟨a1, a2, a3, ⟨rs, a4⟩, a5, a6⟩ := A
  have F : pxF (fun k f => k = 536 ∧ f = 5) h (jw_setI h 536 5 (pxJ 0)) := pxF.setI ⟨rfl, rfl⟩
  exact ⟨a1.fr F (fun f z => by omega), a2.fr F (fun f z => by omega), a3.fr F (fun f z => by omega), ⟨rs, a4.fr F (fun k f _ _ => by omega)⟩, a5.fr F (fun k f _ _ => by omega), pxM_eq (by omega) (by omega)⟩
theorem s_steer_lab {h : jw_H} {k : Nat} {c n v cnt : Int} (w0 : (jw_t h 559).1 = 10) (wp : jw_r h 559 0 = some 10) (w5 : jw_r h 559 5 = some 536) (t2 : (jw_t h 536).1 = 2) (tg : (jw_t h 10).1 = 6) (t5 : (jw_t h (12 + 4 * k)).1 = 5) (hk : k < 60) (o3 : pxM h (12 + 4 * k) 3 = c) (g5 : pxM h (12 + 4 * k) 5 = n) (m6 : pxM h 10 6 = cnt) (cc : c = 98 ∨ c = 84) (n0 : 0 ≤ n) (n1 : n ≤ 25) (v0 : -1 ≤ v) (v1 : v ≤ 60) (ct0 : 0 ≤ cnt) (ct1 : cnt ≤ 60) (ev : f_X6_placeBehind (jw_setI h 559 14 (pxJ cnt)) 10 (pxJ n) = some (pxJ v, jw_setI h 559 14 (pxJ cnt))) :
    (c = 98 → g_X10_steer_b113 h 559 (some (12 + 4 * k)) = some (pxJ (if v = -1 then 6 else 0), jw_setI (jw_setI h 559 14 (pxJ cnt)) 559 14 (pxJ v))) ∧
    (c = 84 → g_X10_steer_b113 h 559 (some (12 + 4 * k)) = some (pxJ (if v = -1 then 6 else 0), jw_setI (jw_setI (jw_setI h 559 14 (pxJ cnt)) 559 14 (pxJ v)) 536 5 (pxJ 0))) := by
  have o3' : pxM (jw_setI h 559 14 (pxJ cnt)) (12 + 4 * k) 3 = c := by rw [pxM_ne (by omega)]; exact o3
  have g5' : pxM (jw_setI h 559 14 (pxJ cnt)) (12 + 4 * k) 5 = n := by rw [pxM_ne (by omega)]; exact g5
  have o3'' : pxM (jw_setI (jw_setI h 559 14 (pxJ cnt)) 559 14 (pxJ v)) (12 + 4 * k) 3 = c := by rw [pxM_ne (by omega)]; exact o3'
  have M2 : pxM (jw_setI (jw_setI h 559 14 (pxJ cnt)) 559 14 (pxJ v)) 559 14 = v := pxM_eq (by omega) (by omega)
  have M3 : pxM (jw_setI (jw_setI (jw_setI h 559 14 (pxJ cnt)) 559 14 (pxJ v)) 536 5 (pxJ 0)) 559 14 = v := by rw [pxM_ne (by omega)]; exact M2
  unfold g_X10_steer_b113 g_X10_steer_b175 g_X10_steer_b189
  clear cc
  refine ⟨fun c98 => ?_, fun c84 => ?_⟩
  · rw [c98] at o3' o3''
    clear o3 g5
    by_cases zv : v = -1
    · subst zv
      rw [if_pos rfl]
      simp (maxSteps := 4000000) (disch := first | assumption | omega | (simp only [jw_t_I, px_cpt, t5]; done) | (simp only [jw_t_I, px_cpt, t5]; omega)) only [pxL0, pxL1, pxL2, pxL3, pxL4, pxL5, pxL6, pxL7, pxL8, pxL9, pxL10, pxL11, pxL12, pxL13, pxL14, pxL15, pxL16, pxL17, pxL18, pxL19, pxL20, pxL21, pxL22, pxL23, pxL24, pxL25, pxL26, pxL27, pxL28, pxL29, pxL30, pxL31, pxL32, pxL33, pxL34, pxL35, pxL36, pxL37, pxL38, pxL39, pxL40, pxL41, pxL42, pxL43, pxL44, pxL45, pxL46, pxL47, pxL48, pxL49, pxL51, pxL57, pxL58, pxL59, pxL60, pxL61, pxL62, pxL63, pxL64, pxL65, pxL66, pxL67, pxL68, pxL69, pxL70, pxL71, pxL72, pxL73, pxL74, pxL75, pxL76, pxL77, pxL78, pxL79, pxL80, pxL81, pxL82, pxL83, pxL84, pxL85, pxL86, pxL87, pxL88, pxL89, pxL90, pxL91, pxL92, pxL93, pxL94, pxL95, pxL96, pxL97, pxL98, pxL99, pxL100, pxL101, pxL102, pxL103, pxL104, pxL105, pxL106, pxL107, pxL108, pxL109, pxL110, pxL111, pxL112, pxL113, pxL114, pxL115, pxL116, pxL117, pxL118, pxL119, pxL120, pxL121, pxL122, pxL123, pxL124, pxL125, pxL126, pxL200, pxL240, pxL287, pxL388, pxL400, pxL429, pxL431, pxL440, pxL1240, pxL1600, pxL1681, pxL12028, pxL13849, pxL14880, pxL25173, pxL26908, pxL49600, pxL65535, pxL65536, ↓reduceIte, reduceCtorEq, pxJ_add, pxJ_sub, pxJ_mul, pxJ_neg, pxD_lt_t, pxD_lt_f, pxD_le_t, pxD_le_f, pxD_eq_t, pxD_eq_f, pxJ_lt, pxJ_le, pxJ_eq, px_gI, px_gR, px_pI, px_rc, px_ai, px_ar, px_si, px_ln, px_cp, pxJ_div, pxJ_b8, pxJ_byte, px_b2, px_bs, px_rb0, px_rb1, px_min, px_max, px_compare, pxW_some, jw_t_I, px_cpt, jw_r_I, px_cpr, jw_l_I, px_cpl, Option.some.injEq, t5, w0, wp, tg, m6, o3', g5', ev, o3'', M2]
    · rw [if_neg zv]
      simp (maxSteps := 4000000) (disch := first | assumption | omega | (simp only [jw_t_I, px_cpt, t5]; done) | (simp only [jw_t_I, px_cpt, t5]; omega)) only [pxL0, pxL1, pxL2, pxL3, pxL4, pxL5, pxL6, pxL7, pxL8, pxL9, pxL10, pxL11, pxL12, pxL13, pxL14, pxL15, pxL16, pxL17, pxL18, pxL19, pxL20, pxL21, pxL22, pxL23, pxL24, pxL25, pxL26, pxL27, pxL28, pxL29, pxL30, pxL31, pxL32, pxL33, pxL34, pxL35, pxL36, pxL37, pxL38, pxL39, pxL40, pxL41, pxL42, pxL43, pxL44, pxL45, pxL46, pxL47, pxL48, pxL49, pxL51, pxL57, pxL58, pxL59, pxL60, pxL61, pxL62, pxL63, pxL64, pxL65, pxL66, pxL67, pxL68, pxL69, pxL70, pxL71, pxL72, pxL73, pxL74, pxL75, pxL76, pxL77, pxL78, pxL79, pxL80, pxL81, pxL82, pxL83, pxL84, pxL85, pxL86, pxL87, pxL88, pxL89, pxL90, pxL91, pxL92, pxL93, pxL94, pxL95, pxL96, pxL97, pxL98, pxL99, pxL100, pxL101, pxL102, pxL103, pxL104, pxL105, pxL106, pxL107, pxL108, pxL109, pxL110, pxL111, pxL112, pxL113, pxL114, pxL115, pxL116, pxL117, pxL118, pxL119, pxL120, pxL121, pxL122, pxL123, pxL124, pxL125, pxL126, pxL200, pxL240, pxL287, pxL388, pxL400, pxL429, pxL431, pxL440, pxL1240, pxL1600, pxL1681, pxL12028, pxL13849, pxL14880, pxL25173, pxL26908, pxL49600, pxL65535, pxL65536, ↓reduceIte, reduceCtorEq, pxJ_add, pxJ_sub, pxJ_mul, pxJ_neg, pxD_lt_t, pxD_lt_f, pxD_le_t, pxD_le_f, pxD_eq_t, pxD_eq_f, pxJ_lt, pxJ_le, pxJ_eq, px_gI, px_gR, px_pI, px_rc, px_ai, px_ar, px_si, px_ln, px_cp, pxJ_div, pxJ_b8, pxJ_byte, px_b2, px_bs, px_rb0, px_rb1, px_min, px_max, px_compare, pxW_some, jw_t_I, px_cpt, jw_r_I, px_cpr, jw_l_I, px_cpl, Option.some.injEq, t5, w0, wp, tg, m6, o3', g5', ev, o3'', M2]
  · rw [c84] at o3' o3''
    clear o3 g5
    by_cases zv : v = -1
    · subst zv
      rw [if_pos rfl]
      simp (maxSteps := 4000000) (disch := first | assumption | omega | (simp only [jw_t_I, px_cpt, t5, t2]; done) | (simp only [jw_t_I, px_cpt, t5, t2]; omega)) only [pxL0, pxL1, pxL2, pxL3, pxL4, pxL5, pxL6, pxL7, pxL8, pxL9, pxL10, pxL11, pxL12, pxL13, pxL14, pxL15, pxL16, pxL17, pxL18, pxL19, pxL20, pxL21, pxL22, pxL23, pxL24, pxL25, pxL26, pxL27, pxL28, pxL29, pxL30, pxL31, pxL32, pxL33, pxL34, pxL35, pxL36, pxL37, pxL38, pxL39, pxL40, pxL41, pxL42, pxL43, pxL44, pxL45, pxL46, pxL47, pxL48, pxL49, pxL51, pxL57, pxL58, pxL59, pxL60, pxL61, pxL62, pxL63, pxL64, pxL65, pxL66, pxL67, pxL68, pxL69, pxL70, pxL71, pxL72, pxL73, pxL74, pxL75, pxL76, pxL77, pxL78, pxL79, pxL80, pxL81, pxL82, pxL83, pxL84, pxL85, pxL86, pxL87, pxL88, pxL89, pxL90, pxL91, pxL92, pxL93, pxL94, pxL95, pxL96, pxL97, pxL98, pxL99, pxL100, pxL101, pxL102, pxL103, pxL104, pxL105, pxL106, pxL107, pxL108, pxL109, pxL110, pxL111, pxL112, pxL113, pxL114, pxL115, pxL116, pxL117, pxL118, pxL119, pxL120, pxL121, pxL122, pxL123, pxL124, pxL125, pxL126, pxL200, pxL240, pxL287, pxL388, pxL400, pxL429, pxL431, pxL440, pxL1240, pxL1600, pxL1681, pxL12028, pxL13849, pxL14880, pxL25173, pxL26908, pxL49600, pxL65535, pxL65536, ↓reduceIte, reduceCtorEq, pxJ_add, pxJ_sub, pxJ_mul, pxJ_neg, pxD_lt_t, pxD_lt_f, pxD_le_t, pxD_le_f, pxD_eq_t, pxD_eq_f, pxJ_lt, pxJ_le, pxJ_eq, px_gI, px_gR, px_pI, px_rc, px_ai, px_ar, px_si, px_ln, px_cp, pxJ_div, pxJ_b8, pxJ_byte, px_b2, px_bs, px_rb0, px_rb1, px_min, px_max, px_compare, pxW_some, jw_t_I, px_cpt, jw_r_I, px_cpr, jw_l_I, px_cpl, Option.some.injEq, t5, t2, w0, wp, tg, m6, o3', g5', ev, o3'', w5, px_pB0, M3]
    · rw [if_neg zv]
      simp (maxSteps := 4000000) (disch := first | assumption | omega | (simp only [jw_t_I, px_cpt, t5, t2]; done) | (simp only [jw_t_I, px_cpt, t5, t2]; omega)) only [pxL0, pxL1, pxL2, pxL3, pxL4, pxL5, pxL6, pxL7, pxL8, pxL9, pxL10, pxL11, pxL12, pxL13, pxL14, pxL15, pxL16, pxL17, pxL18, pxL19, pxL20, pxL21, pxL22, pxL23, pxL24, pxL25, pxL26, pxL27, pxL28, pxL29, pxL30, pxL31, pxL32, pxL33, pxL34, pxL35, pxL36, pxL37, pxL38, pxL39, pxL40, pxL41, pxL42, pxL43, pxL44, pxL45, pxL46, pxL47, pxL48, pxL49, pxL51, pxL57, pxL58, pxL59, pxL60, pxL61, pxL62, pxL63, pxL64, pxL65, pxL66, pxL67, pxL68, pxL69, pxL70, pxL71, pxL72, pxL73, pxL74, pxL75, pxL76, pxL77, pxL78, pxL79, pxL80, pxL81, pxL82, pxL83, pxL84, pxL85, pxL86, pxL87, pxL88, pxL89, pxL90, pxL91, pxL92, pxL93, pxL94, pxL95, pxL96, pxL97, pxL98, pxL99, pxL100, pxL101, pxL102, pxL103, pxL104, pxL105, pxL106, pxL107, pxL108, pxL109, pxL110, pxL111, pxL112, pxL113, pxL114, pxL115, pxL116, pxL117, pxL118, pxL119, pxL120, pxL121, pxL122, pxL123, pxL124, pxL125, pxL126, pxL200, pxL240, pxL287, pxL388, pxL400, pxL429, pxL431, pxL440, pxL1240, pxL1600, pxL1681, pxL12028, pxL13849, pxL14880, pxL25173, pxL26908, pxL49600, pxL65535, pxL65536, ↓reduceIte, reduceCtorEq, pxJ_add, pxJ_sub, pxJ_mul, pxJ_neg, pxD_lt_t, pxD_lt_f, pxD_le_t, pxD_le_f, pxD_eq_t, pxD_eq_f, pxJ_lt, pxJ_le, pxJ_eq, px_gI, px_gR, px_pI, px_rc, px_ai, px_ar, px_si, px_ln, px_cp, pxJ_div, pxJ_b8, pxJ_byte, px_b2, px_bs, px_rb0, px_rb1, px_min, px_max, px_compare, pxW_some, jw_t_I, px_cpt, jw_r_I, px_cpr, jw_l_I, px_cpl, Option.some.injEq, t5, t2, w0, wp, tg, m6, o3', g5', ev, o3'', w5, px_pB0, M3]
section
variable {h : jw_H} {b j : Nat} {s : List Int} {L : List (Int × List Int)} {t : Int × List Int} {f l came nB : Int} {T : pxTx} {S : pxSto} {rep : Bool}
set_option maxHeartbeats 4000000 in
theorem s_X10_steer (H : pxPr h b s L) (e : L[j]? = some t) (ste : pxSteer (pxAc s t.1) = true) (G : pxGS nB h T S rep came) (Rn : (pxWh s t.1).2.2.1 ≠ 0 → pxRn h f l) (m14 : pxM h 559 14 = ((pxCnt (L.take (j + 1)) : Nat) : Int)) :
    ∃ h', f_X10_steer h 559 (some (12 + 4 * pxCnt (L.take j))) = some (pxJ (pxStr s L j t.1 f l T rep).1, h') ∧ pxF pxQS h h' ∧ pxGS nB h' (pxStr s L j t.1 f l T rep).2.2.1 S (pxStr s L j t.1 f l T rep).2.2.2 came ∧ ((pxStr s L j t.1 f l T rep).1 = 0 → pxM h' 559 14 = ((pxCnt (L.take (pxStr s L j t.1 f l T rep).2.1) : Nat) : Int)) := by
  obtain ⟨OC, -, -, kc, v⟩ := H.at e
  obtain ⟨hb, hi, PG, O, okw, oka, m7, p0, p1⟩ := OC
  have H' := H
  have G' := G
  obtain ⟨A, I, Y, IV, IS, m15, ca0, ca1, nb⟩ := G'
  have PS := PG.1
  have wb := pxWh_b (s := s) p0 p1
  have m6 := H.2.2.2.1
  have c60 := H.2.2.2.2.1
  generalize pxCnt (L.take j) = k at *
  have t5 := (PS.2.2.2.2.2.2.2 k hi).2.1
  have o4 := O.1
  have o3 := O.2.2.2.1
  have o5 := O.2.2.2.2.1
  have tg := PS.1
  have w0 := A.1.1
  have wp := A.1.2.1
  have w1 := A.1.2.2.1
  have w5 := A.1.2.2.2.2.2.2.1
  have t2 := A.2.2.1.1
  have m5 := A.2.2.2.2.2
  have t9 := I.1.1
  have r0 := I.1.2.1
  have t7 := I.2.1.1.1
  have c2 := pxIT.c2 I
  have l40 := IV.1
  have n0 := IV.2.2.1
  have n1 := IV.2.2.2.1
  have m3 : pxM h 255 3 = T.2.2.1 := I.2.2.2.2.1
  have ste' := pxSteer_i.mp ste
  have rc : pxP s (pxWh s t.1).2.1 = pxAc s t.1 := rfl
  rw [rc] at o3 o5
  have F0 : pxF pxQS h h := pxF.rfl
  unfold pxStr
  by_cases cw : (pxWh s t.1).2.2.1 ≠ 0 ∧ (T.2.2.1 < f ∨ l < T.2.2.1)
  · rw [if_pos cw]
    refine ⟨h, ?_, F0, G, fun _ => m14⟩
    obtain ⟨g1, g2⟩ := Rn cw.1
    have b1 := pxM_lo h 559 12
    have b2 := pxM_hi h 559 12
    have b3 := pxM_lo h 559 13
    have b4 := pxM_hi h 559 13
    rw [g1] at b1 b2
    rw [g2] at b3 b4
    unfold f_X10_steer
    clear G A I Y IV IS H H' O PS PG oka v Rn o5
    by_cases d : T.2.2.1 < f
    · simp (maxSteps := 4000000) (disch := first | assumption | omega | (simp only [jw_t_I, px_cpt, t5]; done) | (simp only [jw_t_I, px_cpt, t5]; omega)) only [pxL0, pxL1, pxL2, pxL3, pxL4, pxL5, pxL6, pxL7, pxL8, pxL9, pxL10, pxL11, pxL12, pxL13, pxL14, pxL15, pxL16, pxL17, pxL18, pxL19, pxL20, pxL21, pxL22, pxL23, pxL24, pxL25, pxL26, pxL27, pxL28, pxL29, pxL30, pxL31, pxL32, pxL33, pxL34, pxL35, pxL36, pxL37, pxL38, pxL39, pxL40, pxL41, pxL42, pxL43, pxL44, pxL45, pxL46, pxL47, pxL48, pxL49, pxL51, pxL57, pxL58, pxL59, pxL60, pxL61, pxL62, pxL63, pxL64, pxL65, pxL66, pxL67, pxL68, pxL69, pxL70, pxL71, pxL72, pxL73, pxL74, pxL75, pxL76, pxL77, pxL78, pxL79, pxL80, pxL81, pxL82, pxL83, pxL84, pxL85, pxL86, pxL87, pxL88, pxL89, pxL90, pxL91, pxL92, pxL93, pxL94, pxL95, pxL96, pxL97, pxL98, pxL99, pxL100, pxL101, pxL102, pxL103, pxL104, pxL105, pxL106, pxL107, pxL108, pxL109, pxL110, pxL111, pxL112, pxL113, pxL114, pxL115, pxL116, pxL117, pxL118, pxL119, pxL120, pxL121, pxL122, pxL123, pxL124, pxL125, pxL126, pxL200, pxL240, pxL287, pxL388, pxL400, pxL429, pxL431, pxL440, pxL1240, pxL1600, pxL1681, pxL12028, pxL13849, pxL14880, pxL25173, pxL26908, pxL49600, pxL65535, pxL65536, ↓reduceIte, reduceCtorEq, pxJ_add, pxJ_sub, pxJ_mul, pxJ_neg, pxD_lt_t, pxD_lt_f, pxD_le_t, pxD_le_f, pxD_eq_t, pxD_eq_f, pxJ_lt, pxJ_le, pxJ_eq, px_gI, px_gR, px_pI, px_rc, px_ai, px_ar, px_si, px_ln, px_cp, pxJ_div, pxJ_b8, pxJ_byte, px_b2, px_bs, px_rb0, px_rb1, px_min, px_max, px_compare, pxW_some, jw_t_I, px_cpt, jw_r_I, px_cpr, jw_l_I, px_cpl, Option.some.injEq, t5, o4, w0, w1, t9, m3, g1]
    · have d2 : l < T.2.2.1 := by omega
      simp (maxSteps := 4000000) (disch := first | assumption | omega | (simp only [jw_t_I, px_cpt, t5]; done) | (simp only [jw_t_I, px_cpt, t5]; omega)) only [pxL0, pxL1, pxL2, pxL3, pxL4, pxL5, pxL6, pxL7, pxL8, pxL9, pxL10, pxL11, pxL12, pxL13, pxL14, pxL15, pxL16, pxL17, pxL18, pxL19, pxL20, pxL21, pxL22, pxL23, pxL24, pxL25, pxL26, pxL27, pxL28, pxL29, pxL30, pxL31, pxL32, pxL33, pxL34, pxL35, pxL36, pxL37, pxL38, pxL39, pxL40, pxL41, pxL42, pxL43, pxL44, pxL45, pxL46, pxL47, pxL48, pxL49, pxL51, pxL57, pxL58, pxL59, pxL60, pxL61, pxL62, pxL63, pxL64, pxL65, pxL66, pxL67, pxL68, pxL69, pxL70, pxL71, pxL72, pxL73, pxL74, pxL75, pxL76, pxL77, pxL78, pxL79, pxL80, pxL81, pxL82, pxL83, pxL84, pxL85, pxL86, pxL87, pxL88, pxL89, pxL90, pxL91, pxL92, pxL93, pxL94, pxL95, pxL96, pxL97, pxL98, pxL99, pxL100, pxL101, pxL102, pxL103, pxL104, pxL105, pxL106, pxL107, pxL108, pxL109, pxL110, pxL111, pxL112, pxL113, pxL114, pxL115, pxL116, pxL117, pxL118, pxL119, pxL120, pxL121, pxL122, pxL123, pxL124, pxL125, pxL126, pxL200, pxL240, pxL287, pxL388, pxL400, pxL429, pxL431, pxL440, pxL1240, pxL1600, pxL1681, pxL12028, pxL13849, pxL14880, pxL25173, pxL26908, pxL49600, pxL65535, pxL65536, ↓reduceIte, reduceCtorEq, pxJ_add, pxJ_sub, pxJ_mul, pxJ_neg, pxD_lt_t, pxD_lt_f, pxD_le_t, pxD_le_f, pxD_eq_t, pxD_eq_f, pxJ_lt, pxJ_le, pxJ_eq, px_gI, px_gR, px_pI, px_rc, px_ai, px_ar, px_si, px_ln, px_cp, pxJ_div, pxJ_b8, pxJ_byte, px_b2, px_bs, px_rb0, px_rb1, px_min, px_max, px_compare, pxW_some, jw_t_I, px_cpt, jw_r_I, px_cpr, jw_l_I, px_cpl, Option.some.injEq, t5, o4, w0, w1, t9, m3, g1, g2]
  rw [if_neg cw]
  have st : f_X10_steer h 559 (some (12 + 4 * k)) = g_X10_steer_b37 h 559 (some (12 + 4 * k)) := by
    unfold f_X10_steer
    by_cases d : (pxWh s t.1).2.2.1 = 0
    · clear G A I Y IV IS H H' O PS PG oka v Rn o5
      simp (maxSteps := 4000000) (disch := first | assumption | omega | (simp only [jw_t_I, px_cpt, t5]; done) | (simp only [jw_t_I, px_cpt, t5]; omega)) only [pxL0, pxL1, pxL2, pxL3, pxL4, pxL5, pxL6, pxL7, pxL8, pxL9, pxL10, pxL11, pxL12, pxL13, pxL14, pxL15, pxL16, pxL17, pxL18, pxL19, pxL20, pxL21, pxL22, pxL23, pxL24, pxL25, pxL26, pxL27, pxL28, pxL29, pxL30, pxL31, pxL32, pxL33, pxL34, pxL35, pxL36, pxL37, pxL38, pxL39, pxL40, pxL41, pxL42, pxL43, pxL44, pxL45, pxL46, pxL47, pxL48, pxL49, pxL51, pxL57, pxL58, pxL59, pxL60, pxL61, pxL62, pxL63, pxL64, pxL65, pxL66, pxL67, pxL68, pxL69, pxL70, pxL71, pxL72, pxL73, pxL74, pxL75, pxL76, pxL77, pxL78, pxL79, pxL80, pxL81, pxL82, pxL83, pxL84, pxL85, pxL86, pxL87, pxL88, pxL89, pxL90, pxL91, pxL92, pxL93, pxL94, pxL95, pxL96, pxL97, pxL98, pxL99, pxL100, pxL101, pxL102, pxL103, pxL104, pxL105, pxL106, pxL107, pxL108, pxL109, pxL110, pxL111, pxL112, pxL113, pxL114, pxL115, pxL116, pxL117, pxL118, pxL119, pxL120, pxL121, pxL122, pxL123, pxL124, pxL125, pxL126, pxL200, pxL240, pxL287, pxL388, pxL400, pxL429, pxL431, pxL440, pxL1240, pxL1600, pxL1681, pxL12028, pxL13849, pxL14880, pxL25173, pxL26908, pxL49600, pxL65535, pxL65536, ↓reduceIte, reduceCtorEq, pxJ_add, pxJ_sub, pxJ_mul, pxJ_neg, pxD_lt_t, pxD_lt_f, pxD_le_t, pxD_le_f, pxD_eq_t, pxD_eq_f, pxJ_lt, pxJ_le, pxJ_eq, px_gI, px_gR, px_pI, px_rc, px_ai, px_ar, px_si, px_ln, px_cp, pxJ_div, pxJ_b8, pxJ_byte, px_b2, px_bs, px_rb0, px_rb1, px_min, px_max, px_compare, pxW_some, jw_t_I, px_cpt, jw_r_I, px_cpr, jw_l_I, px_cpl, Option.some.injEq, t5, o4, d]
    · obtain ⟨g1, g2⟩ := Rn d
      have b1 := pxM_lo h 559 12
      have b2 := pxM_hi h 559 12
      have b3 := pxM_lo h 559 13
      have b4 := pxM_hi h 559 13
      rw [g1] at b1 b2
      rw [g2] at b3 b4
      clear G A I Y IV IS H H' O PS PG oka v Rn o5
      simp (maxSteps := 4000000) (disch := first | assumption | omega | (simp only [jw_t_I, px_cpt, t5]; done) | (simp only [jw_t_I, px_cpt, t5]; omega)) only [pxL0, pxL1, pxL2, pxL3, pxL4, pxL5, pxL6, pxL7, pxL8, pxL9, pxL10, pxL11, pxL12, pxL13, pxL14, pxL15, pxL16, pxL17, pxL18, pxL19, pxL20, pxL21, pxL22, pxL23, pxL24, pxL25, pxL26, pxL27, pxL28, pxL29, pxL30, pxL31, pxL32, pxL33, pxL34, pxL35, pxL36, pxL37, pxL38, pxL39, pxL40, pxL41, pxL42, pxL43, pxL44, pxL45, pxL46, pxL47, pxL48, pxL49, pxL51, pxL57, pxL58, pxL59, pxL60, pxL61, pxL62, pxL63, pxL64, pxL65, pxL66, pxL67, pxL68, pxL69, pxL70, pxL71, pxL72, pxL73, pxL74, pxL75, pxL76, pxL77, pxL78, pxL79, pxL80, pxL81, pxL82, pxL83, pxL84, pxL85, pxL86, pxL87, pxL88, pxL89, pxL90, pxL91, pxL92, pxL93, pxL94, pxL95, pxL96, pxL97, pxL98, pxL99, pxL100, pxL101, pxL102, pxL103, pxL104, pxL105, pxL106, pxL107, pxL108, pxL109, pxL110, pxL111, pxL112, pxL113, pxL114, pxL115, pxL116, pxL117, pxL118, pxL119, pxL120, pxL121, pxL122, pxL123, pxL124, pxL125, pxL126, pxL200, pxL240, pxL287, pxL388, pxL400, pxL429, pxL431, pxL440, pxL1240, pxL1600, pxL1681, pxL12028, pxL13849, pxL14880, pxL25173, pxL26908, pxL49600, pxL65535, pxL65536, ↓reduceIte, reduceCtorEq, pxJ_add, pxJ_sub, pxJ_mul, pxJ_neg, pxD_lt_t, pxD_lt_f, pxD_le_t, pxD_le_f, pxD_eq_t, pxD_eq_f, pxJ_lt, pxJ_le, pxJ_eq, px_gI, px_gR, px_pI, px_rc, px_ai, px_ar, px_si, px_ln, px_cp, pxJ_div, pxJ_b8, pxJ_byte, px_b2, px_bs, px_rb0, px_rb1, px_min, px_max, px_compare, pxW_some, jw_t_I, px_cpt, jw_r_I, px_cpr, jw_l_I, px_cpl, Option.some.injEq, t5, o4, w0, w1, t9, m3, g1, g2]
  rw [st]
  unfold g_X10_steer_b37
  by_cases c78 : pxAc s t.1 = 78
  · rw [if_pos c78]
    by_cases d : T.2.2.1 < (T.1.length : Int)
    · rw [if_pos d]
      have F1 : pxF (fun k f => k = 255 ∧ f = 3) h (jw_setI h 255 3 (pxJ (T.2.2.1 + 1))) := pxF.setI ⟨rfl, rfl⟩
      have I1 : pxIX (jw_setI h 255 3 (pxJ (T.2.2.1 + 1))) (T.1, T.2.1, T.2.2.1 + 1, T.2.2.2) := pxIT.now3 I (by omega) (by omega)
      refine ⟨jw_setI h 255 3 (pxJ (T.2.2.1 + 1)), ?_, F1.mono (fun k f z => by unfold pxQS; omega), ⟨A.fr F1 (fun k f z => by omega), I1, pxIS.fr Y F1 (fun k f _ _ => by omega), IV.setNow (by omega) (by omega) (by omega), IS, by rw [F1.m (by omega)]; exact m15, ca0, ca1, nb⟩, fun _ => by rw [F1.m (by omega)]; exact m14⟩
      clear G A I Y IV IS H H' O PS PG oka v Rn o5 I1
      simp (maxSteps := 4000000) (disch := first | assumption | omega | (simp only [jw_t_I, px_cpt, t5]; done) | (simp only [jw_t_I, px_cpt, t5]; omega)) only [pxL0, pxL1, pxL2, pxL3, pxL4, pxL5, pxL6, pxL7, pxL8, pxL9, pxL10, pxL11, pxL12, pxL13, pxL14, pxL15, pxL16, pxL17, pxL18, pxL19, pxL20, pxL21, pxL22, pxL23, pxL24, pxL25, pxL26, pxL27, pxL28, pxL29, pxL30, pxL31, pxL32, pxL33, pxL34, pxL35, pxL36, pxL37, pxL38, pxL39, pxL40, pxL41, pxL42, pxL43, pxL44, pxL45, pxL46, pxL47, pxL48, pxL49, pxL51, pxL57, pxL58, pxL59, pxL60, pxL61, pxL62, pxL63, pxL64, pxL65, pxL66, pxL67, pxL68, pxL69, pxL70, pxL71, pxL72, pxL73, pxL74, pxL75, pxL76, pxL77, pxL78, pxL79, pxL80, pxL81, pxL82, pxL83, pxL84, pxL85, pxL86, pxL87, pxL88, pxL89, pxL90, pxL91, pxL92, pxL93, pxL94, pxL95, pxL96, pxL97, pxL98, pxL99, pxL100, pxL101, pxL102, pxL103, pxL104, pxL105, pxL106, pxL107, pxL108, pxL109, pxL110, pxL111, pxL112, pxL113, pxL114, pxL115, pxL116, pxL117, pxL118, pxL119, pxL120, pxL121, pxL122, pxL123, pxL124, pxL125, pxL126, pxL200, pxL240, pxL287, pxL388, pxL400, pxL429, pxL431, pxL440, pxL1240, pxL1600, pxL1681, pxL12028, pxL13849, pxL14880, pxL25173, pxL26908, pxL49600, pxL65535, pxL65536, ↓reduceIte, reduceCtorEq, pxJ_add, pxJ_sub, pxJ_mul, pxJ_neg, pxD_lt_t, pxD_lt_f, pxD_le_t, pxD_le_f, pxD_eq_t, pxD_eq_f, pxJ_lt, pxJ_le, pxJ_eq, px_gI, px_gR, px_pI, px_rc, px_ai, px_ar, px_si, px_ln, px_cp, pxJ_div, pxJ_b8, pxJ_byte, px_b2, px_bs, px_rb0, px_rb1, px_min, px_max, px_compare, pxW_some, jw_t_I, px_cpt, jw_r_I, px_cpr, jw_l_I, px_cpl, Option.some.injEq, t5, o3, c78, w0, w1, t9, r0, t7, c2, m3]
    · rw [if_neg d]
      refine ⟨h, ?_, F0, G, fun z => absurd z (by show ¬ (1 : Int) = 0; omega)⟩
      clear G A I Y IV IS H H' O PS PG oka v Rn o5
      simp (maxSteps := 4000000) (disch := first | assumption | omega | (simp only [jw_t_I, px_cpt, t5]; done) | (simp only [jw_t_I, px_cpt, t5]; omega)) only [pxL0, pxL1, pxL2, pxL3, pxL4, pxL5, pxL6, pxL7, pxL8, pxL9, pxL10, pxL11, pxL12, pxL13, pxL14, pxL15, pxL16, pxL17, pxL18, pxL19, pxL20, pxL21, pxL22, pxL23, pxL24, pxL25, pxL26, pxL27, pxL28, pxL29, pxL30, pxL31, pxL32, pxL33, pxL34, pxL35, pxL36, pxL37, pxL38, pxL39, pxL40, pxL41, pxL42, pxL43, pxL44, pxL45, pxL46, pxL47, pxL48, pxL49, pxL51, pxL57, pxL58, pxL59, pxL60, pxL61, pxL62, pxL63, pxL64, pxL65, pxL66, pxL67, pxL68, pxL69, pxL70, pxL71, pxL72, pxL73, pxL74, pxL75, pxL76, pxL77, pxL78, pxL79, pxL80, pxL81, pxL82, pxL83, pxL84, pxL85, pxL86, pxL87, pxL88, pxL89, pxL90, pxL91, pxL92, pxL93, pxL94, pxL95, pxL96, pxL97, pxL98, pxL99, pxL100, pxL101, pxL102, pxL103, pxL104, pxL105, pxL106, pxL107, pxL108, pxL109, pxL110, pxL111, pxL112, pxL113, pxL114, pxL115, pxL116, pxL117, pxL118, pxL119, pxL120, pxL121, pxL122, pxL123, pxL124, pxL125, pxL126, pxL200, pxL240, pxL287, pxL388, pxL400, pxL429, pxL431, pxL440, pxL1240, pxL1600, pxL1681, pxL12028, pxL13849, pxL14880, pxL25173, pxL26908, pxL49600, pxL65535, pxL65536, ↓reduceIte, reduceCtorEq, pxJ_add, pxJ_sub, pxJ_mul, pxJ_neg, pxD_lt_t, pxD_lt_f, pxD_le_t, pxD_le_f, pxD_eq_t, pxD_eq_f, pxJ_lt, pxJ_le, pxJ_eq, px_gI, px_gR, px_pI, px_rc, px_ai, px_ar, px_si, px_ln, px_cp, pxJ_div, pxJ_b8, pxJ_byte, px_b2, px_bs, px_rb0, px_rb1, px_min, px_max, px_compare, pxW_some, jw_t_I, px_cpt, jw_r_I, px_cpr, jw_l_I, px_cpl, Option.some.injEq, t5, o3, c78, w0, w1, t9, r0, t7, c2, m3]
  rw [if_neg c78]
  by_cases c58 : pxAc s t.1 = 58 ∨ (pxAc s t.1 = 84 ∧ rep = false)
  · rw [if_pos c58]
    refine ⟨h, ?_, F0, G, fun _ => m14⟩
    rcases c58 with c | ⟨c, cr⟩
    · clear G A I Y IV IS H H' O PS PG oka v Rn o5
      simp (maxSteps := 4000000) (disch := first | assumption | omega | (simp only [jw_t_I, px_cpt, t5]; done) | (simp only [jw_t_I, px_cpt, t5]; omega)) only [pxL0, pxL1, pxL2, pxL3, pxL4, pxL5, pxL6, pxL7, pxL8, pxL9, pxL10, pxL11, pxL12, pxL13, pxL14, pxL15, pxL16, pxL17, pxL18, pxL19, pxL20, pxL21, pxL22, pxL23, pxL24, pxL25, pxL26, pxL27, pxL28, pxL29, pxL30, pxL31, pxL32, pxL33, pxL34, pxL35, pxL36, pxL37, pxL38, pxL39, pxL40, pxL41, pxL42, pxL43, pxL44, pxL45, pxL46, pxL47, pxL48, pxL49, pxL51, pxL57, pxL58, pxL59, pxL60, pxL61, pxL62, pxL63, pxL64, pxL65, pxL66, pxL67, pxL68, pxL69, pxL70, pxL71, pxL72, pxL73, pxL74, pxL75, pxL76, pxL77, pxL78, pxL79, pxL80, pxL81, pxL82, pxL83, pxL84, pxL85, pxL86, pxL87, pxL88, pxL89, pxL90, pxL91, pxL92, pxL93, pxL94, pxL95, pxL96, pxL97, pxL98, pxL99, pxL100, pxL101, pxL102, pxL103, pxL104, pxL105, pxL106, pxL107, pxL108, pxL109, pxL110, pxL111, pxL112, pxL113, pxL114, pxL115, pxL116, pxL117, pxL118, pxL119, pxL120, pxL121, pxL122, pxL123, pxL124, pxL125, pxL126, pxL200, pxL240, pxL287, pxL388, pxL400, pxL429, pxL431, pxL440, pxL1240, pxL1600, pxL1681, pxL12028, pxL13849, pxL14880, pxL25173, pxL26908, pxL49600, pxL65535, pxL65536, ↓reduceIte, reduceCtorEq, pxJ_add, pxJ_sub, pxJ_mul, pxJ_neg, pxD_lt_t, pxD_lt_f, pxD_le_t, pxD_le_f, pxD_eq_t, pxD_eq_f, pxJ_lt, pxJ_le, pxJ_eq, px_gI, px_gR, px_pI, px_rc, px_ai, px_ar, px_si, px_ln, px_cp, pxJ_div, pxJ_b8, pxJ_byte, px_b2, px_bs, px_rb0, px_rb1, px_min, px_max, px_compare, pxW_some, jw_t_I, px_cpt, jw_r_I, px_cpr, jw_l_I, px_cpl, Option.some.injEq, t5, o3, c]
    · have m50 : pxM h 536 5 = 0 := by rw [m5, cr]; rfl
      clear G A I Y IV IS H H' O PS PG oka v Rn o5
      simp (maxSteps := 4000000) (disch := first | assumption | omega | (simp only [jw_t_I, px_cpt, t5]; done) | (simp only [jw_t_I, px_cpt, t5]; omega)) only [pxL0, pxL1, pxL2, pxL3, pxL4, pxL5, pxL6, pxL7, pxL8, pxL9, pxL10, pxL11, pxL12, pxL13, pxL14, pxL15, pxL16, pxL17, pxL18, pxL19, pxL20, pxL21, pxL22, pxL23, pxL24, pxL25, pxL26, pxL27, pxL28, pxL29, pxL30, pxL31, pxL32, pxL33, pxL34, pxL35, pxL36, pxL37, pxL38, pxL39, pxL40, pxL41, pxL42, pxL43, pxL44, pxL45, pxL46, pxL47, pxL48, pxL49, pxL51, pxL57, pxL58, pxL59, pxL60, pxL61, pxL62, pxL63, pxL64, pxL65, pxL66, pxL67, pxL68, pxL69, pxL70, pxL71, pxL72, pxL73, pxL74, pxL75, pxL76, pxL77, pxL78, pxL79, pxL80, pxL81, pxL82, pxL83, pxL84, pxL85, pxL86, pxL87, pxL88, pxL89, pxL90, pxL91, pxL92, pxL93, pxL94, pxL95, pxL96, pxL97, pxL98, pxL99, pxL100, pxL101, pxL102, pxL103, pxL104, pxL105, pxL106, pxL107, pxL108, pxL109, pxL110, pxL111, pxL112, pxL113, pxL114, pxL115, pxL116, pxL117, pxL118, pxL119, pxL120, pxL121, pxL122, pxL123, pxL124, pxL125, pxL126, pxL200, pxL240, pxL287, pxL388, pxL400, pxL429, pxL431, pxL440, pxL1240, pxL1600, pxL1681, pxL12028, pxL13849, pxL14880, pxL25173, pxL26908, pxL49600, pxL65535, pxL65536, ↓reduceIte, reduceCtorEq, pxJ_add, pxJ_sub, pxJ_mul, pxJ_neg, pxD_lt_t, pxD_lt_f, pxD_le_t, pxD_le_f, pxD_eq_t, pxD_eq_f, pxJ_lt, pxJ_le, pxJ_eq, px_gI, px_gR, px_pI, px_rc, px_ai, px_ar, px_si, px_ln, px_cp, pxJ_div, pxJ_b8, pxJ_byte, px_b2, px_bs, px_rb0, px_rb1, px_min, px_max, px_compare, pxW_some, jw_t_I, px_cpt, jw_r_I, px_cpr, jw_l_I, px_cpl, Option.some.injEq, t5, o3, c, w0, w5, t2, m50]
  rw [if_neg c58]
  have st2 : (jw_gI h 5 (some (12 + 4 * k)) 3).bind (fun v1 => if v1 = (78 : Int32) then ((jw_gR h 10 (some 559) 1).bind fun v10 =>
 (jw_gI h 9 v10 3).bind fun v11 =>
 (jw_gR h 10 (some 559) 1).bind fun v12 =>
 (jw_gR h 9 v12 0).bind fun v13 =>
 (jw_gI h 7 v13 2).bind fun v14 =>
 if v11 < v14 then ((jw_gR h 10 (some 559) 1).bind fun v16 =>
 (jw_gI h 9 v16 3).bind fun v17 =>
 (jw_pI h 9 v16 3 (v17 + (1 : Int32))).bind fun h18 =>
 some ((0 : Int32), h18))
 else (some ((1 : Int32), h)))
 else ((jw_gI h 5 (some (12 + 4 * k)) 3).bind fun v3 =>
 if v3 = (58 : Int32) then (some ((0 : Int32), h))
 else ((jw_gI h 5 (some (12 + 4 * k)) 3).bind fun v5 =>
 if v5 = (84 : Int32) then ((jw_gR h 10 (some 559) 5).bind fun v7 =>
 (jw_gI h 2 v7 5).bind fun v8 =>
 if v8 = 0 then (some ((0 : Int32), h))
 else (g_X10_steer_b113 h 559 (some (12 + 4 * k))))
 else (g_X10_steer_b113 h 559 (some (12 + 4 * k)))))) = g_X10_steer_b113 h 559 (some (12 + 4 * k)) := by
    by_cases c84 : pxAc s t.1 = 84
    · have cr : rep = true := by
        cases rep with
        | true => rfl
        | false => exact absurd (Or.inr ⟨c84, rfl⟩) c58
      have m51 : pxM h 536 5 = 1 := by rw [m5, cr]; rfl
      clear G A I Y IV IS H H' O PS PG oka v Rn o5 m5
      simp (maxSteps := 4000000) (disch := first | assumption | omega | (simp only [jw_t_I, px_cpt, t5]; done) | (simp only [jw_t_I, px_cpt, t5]; omega)) only [pxL0, pxL1, pxL2, pxL3, pxL4, pxL5, pxL6, pxL7, pxL8, pxL9, pxL10, pxL11, pxL12, pxL13, pxL14, pxL15, pxL16, pxL17, pxL18, pxL19, pxL20, pxL21, pxL22, pxL23, pxL24, pxL25, pxL26, pxL27, pxL28, pxL29, pxL30, pxL31, pxL32, pxL33, pxL34, pxL35, pxL36, pxL37, pxL38, pxL39, pxL40, pxL41, pxL42, pxL43, pxL44, pxL45, pxL46, pxL47, pxL48, pxL49, pxL51, pxL57, pxL58, pxL59, pxL60, pxL61, pxL62, pxL63, pxL64, pxL65, pxL66, pxL67, pxL68, pxL69, pxL70, pxL71, pxL72, pxL73, pxL74, pxL75, pxL76, pxL77, pxL78, pxL79, pxL80, pxL81, pxL82, pxL83, pxL84, pxL85, pxL86, pxL87, pxL88, pxL89, pxL90, pxL91, pxL92, pxL93, pxL94, pxL95, pxL96, pxL97, pxL98, pxL99, pxL100, pxL101, pxL102, pxL103, pxL104, pxL105, pxL106, pxL107, pxL108, pxL109, pxL110, pxL111, pxL112, pxL113, pxL114, pxL115, pxL116, pxL117, pxL118, pxL119, pxL120, pxL121, pxL122, pxL123, pxL124, pxL125, pxL126, pxL200, pxL240, pxL287, pxL388, pxL400, pxL429, pxL431, pxL440, pxL1240, pxL1600, pxL1681, pxL12028, pxL13849, pxL14880, pxL25173, pxL26908, pxL49600, pxL65535, pxL65536, ↓reduceIte, reduceCtorEq, pxJ_add, pxJ_sub, pxJ_mul, pxJ_neg, pxD_lt_t, pxD_lt_f, pxD_le_t, pxD_le_f, pxD_eq_t, pxD_eq_f, pxJ_lt, pxJ_le, pxJ_eq, px_gI, px_gR, px_pI, px_rc, px_ai, px_ar, px_si, px_ln, px_cp, pxJ_div, pxJ_b8, pxJ_byte, px_b2, px_bs, px_rb0, px_rb1, px_min, px_max, px_compare, pxW_some, jw_t_I, px_cpt, jw_r_I, px_cpr, jw_l_I, px_cpl, Option.some.injEq, t5, o3, c84, w0, w5, t2, m51]
    · have n58 : ¬ pxAc s t.1 = 58 := fun z => c58 (Or.inl z)
      clear G A I Y IV IS H H' O PS PG oka v Rn o5 m5
      rcases (show pxAc s t.1 = 98 ∨ pxAc s t.1 = 113 by omega) with z | z
      · simp (maxSteps := 4000000) (disch := first | assumption | omega | (simp only [jw_t_I, px_cpt, t5]; done) | (simp only [jw_t_I, px_cpt, t5]; omega)) only [pxL0, pxL1, pxL2, pxL3, pxL4, pxL5, pxL6, pxL7, pxL8, pxL9, pxL10, pxL11, pxL12, pxL13, pxL14, pxL15, pxL16, pxL17, pxL18, pxL19, pxL20, pxL21, pxL22, pxL23, pxL24, pxL25, pxL26, pxL27, pxL28, pxL29, pxL30, pxL31, pxL32, pxL33, pxL34, pxL35, pxL36, pxL37, pxL38, pxL39, pxL40, pxL41, pxL42, pxL43, pxL44, pxL45, pxL46, pxL47, pxL48, pxL49, pxL51, pxL57, pxL58, pxL59, pxL60, pxL61, pxL62, pxL63, pxL64, pxL65, pxL66, pxL67, pxL68, pxL69, pxL70, pxL71, pxL72, pxL73, pxL74, pxL75, pxL76, pxL77, pxL78, pxL79, pxL80, pxL81, pxL82, pxL83, pxL84, pxL85, pxL86, pxL87, pxL88, pxL89, pxL90, pxL91, pxL92, pxL93, pxL94, pxL95, pxL96, pxL97, pxL98, pxL99, pxL100, pxL101, pxL102, pxL103, pxL104, pxL105, pxL106, pxL107, pxL108, pxL109, pxL110, pxL111, pxL112, pxL113, pxL114, pxL115, pxL116, pxL117, pxL118, pxL119, pxL120, pxL121, pxL122, pxL123, pxL124, pxL125, pxL126, pxL200, pxL240, pxL287, pxL388, pxL400, pxL429, pxL431, pxL440, pxL1240, pxL1600, pxL1681, pxL12028, pxL13849, pxL14880, pxL25173, pxL26908, pxL49600, pxL65535, pxL65536, ↓reduceIte, reduceCtorEq, pxJ_add, pxJ_sub, pxJ_mul, pxJ_neg, pxD_lt_t, pxD_lt_f, pxD_le_t, pxD_le_f, pxD_eq_t, pxD_eq_f, pxJ_lt, pxJ_le, pxJ_eq, px_gI, px_gR, px_pI, px_rc, px_ai, px_ar, px_si, px_ln, px_cp, pxJ_div, pxJ_b8, pxJ_byte, px_b2, px_bs, px_rb0, px_rb1, px_min, px_max, px_compare, pxW_some, jw_t_I, px_cpt, jw_r_I, px_cpr, jw_l_I, px_cpl, Option.some.injEq, t5, o3, z]
      · simp (maxSteps := 4000000) (disch := first | assumption | omega | (simp only [jw_t_I, px_cpt, t5]; done) | (simp only [jw_t_I, px_cpt, t5]; omega)) only [pxL0, pxL1, pxL2, pxL3, pxL4, pxL5, pxL6, pxL7, pxL8, pxL9, pxL10, pxL11, pxL12, pxL13, pxL14, pxL15, pxL16, pxL17, pxL18, pxL19, pxL20, pxL21, pxL22, pxL23, pxL24, pxL25, pxL26, pxL27, pxL28, pxL29, pxL30, pxL31, pxL32, pxL33, pxL34, pxL35, pxL36, pxL37, pxL38, pxL39, pxL40, pxL41, pxL42, pxL43, pxL44, pxL45, pxL46, pxL47, pxL48, pxL49, pxL51, pxL57, pxL58, pxL59, pxL60, pxL61, pxL62, pxL63, pxL64, pxL65, pxL66, pxL67, pxL68, pxL69, pxL70, pxL71, pxL72, pxL73, pxL74, pxL75, pxL76, pxL77, pxL78, pxL79, pxL80, pxL81, pxL82, pxL83, pxL84, pxL85, pxL86, pxL87, pxL88, pxL89, pxL90, pxL91, pxL92, pxL93, pxL94, pxL95, pxL96, pxL97, pxL98, pxL99, pxL100, pxL101, pxL102, pxL103, pxL104, pxL105, pxL106, pxL107, pxL108, pxL109, pxL110, pxL111, pxL112, pxL113, pxL114, pxL115, pxL116, pxL117, pxL118, pxL119, pxL120, pxL121, pxL122, pxL123, pxL124, pxL125, pxL126, pxL200, pxL240, pxL287, pxL388, pxL400, pxL429, pxL431, pxL440, pxL1240, pxL1600, pxL1681, pxL12028, pxL13849, pxL14880, pxL25173, pxL26908, pxL49600, pxL65535, pxL65536, ↓reduceIte, reduceCtorEq, pxJ_add, pxJ_sub, pxJ_mul, pxJ_neg, pxD_lt_t, pxD_lt_f, pxD_le_t, pxD_le_f, pxD_eq_t, pxD_eq_f, pxJ_lt, pxJ_le, pxJ_eq, px_gI, px_gR, px_pI, px_rc, px_ai, px_ar, px_si, px_ln, px_cp, pxJ_div, pxJ_b8, pxJ_byte, px_b2, px_bs, px_rb0, px_rb1, px_min, px_max, px_compare, pxW_some, jw_t_I, px_cpt, jw_r_I, px_cpr, jw_l_I, px_cpl, Option.some.injEq, t5, o3, z]
  rw [st2]
  have F1 : pxF (fun k f => k = 559 ∧ f = 14) h (jw_setI h 559 14 (pxJ ((pxCnt L : Nat) : Int))) := pxF.setI ⟨rfl, rfl⟩
  have G1 := G.fr F1 (fun k f z => by omega)
  have M1 : pxM (jw_setI h 559 14 (pxJ ((pxCnt L : Nat) : Int))) 559 14 = ((pxCnt L : Nat) : Int) := pxM_eq (by omega) (by omega)
  have F1' : pxF pxQS h (jw_setI h 559 14 (pxJ ((pxCnt L : Nat) : Int))) := F1.mono (fun k f z => by unfold pxQS; omega)
  have o3' : pxM (jw_setI h 559 14 (pxJ ((pxCnt L : Nat) : Int))) (12 + 4 * k) 3 = pxAc s t.1 := by rw [F1.m (by omega)]; exact o3
  by_cases cq : pxAc s t.1 = 113 ∨ pxOn s (pxWh s t.1).2.1 = -1
  · rw [if_pos cq]
    refine ⟨jw_setI h 559 14 (pxJ ((pxCnt L : Nat) : Int)), ?_, F1', G1, fun _ => by rw [M1, pxCnt_le L L.length (Nat.le_refl _)]⟩
    unfold g_X10_steer_b113
    by_cases d : pxAc s t.1 = 113
    · clear G A I Y IV IS H H' O PS PG oka v Rn o5 m5 G1 cq
      simp (maxSteps := 4000000) (disch := first | assumption | omega | (simp only [jw_t_I, px_cpt, t5]; done) | (simp only [jw_t_I, px_cpt, t5]; omega)) only [pxL0, pxL1, pxL2, pxL3, pxL4, pxL5, pxL6, pxL7, pxL8, pxL9, pxL10, pxL11, pxL12, pxL13, pxL14, pxL15, pxL16, pxL17, pxL18, pxL19, pxL20, pxL21, pxL22, pxL23, pxL24, pxL25, pxL26, pxL27, pxL28, pxL29, pxL30, pxL31, pxL32, pxL33, pxL34, pxL35, pxL36, pxL37, pxL38, pxL39, pxL40, pxL41, pxL42, pxL43, pxL44, pxL45, pxL46, pxL47, pxL48, pxL49, pxL51, pxL57, pxL58, pxL59, pxL60, pxL61, pxL62, pxL63, pxL64, pxL65, pxL66, pxL67, pxL68, pxL69, pxL70, pxL71, pxL72, pxL73, pxL74, pxL75, pxL76, pxL77, pxL78, pxL79, pxL80, pxL81, pxL82, pxL83, pxL84, pxL85, pxL86, pxL87, pxL88, pxL89, pxL90, pxL91, pxL92, pxL93, pxL94, pxL95, pxL96, pxL97, pxL98, pxL99, pxL100, pxL101, pxL102, pxL103, pxL104, pxL105, pxL106, pxL107, pxL108, pxL109, pxL110, pxL111, pxL112, pxL113, pxL114, pxL115, pxL116, pxL117, pxL118, pxL119, pxL120, pxL121, pxL122, pxL123, pxL124, pxL125, pxL126, pxL200, pxL240, pxL287, pxL388, pxL400, pxL429, pxL431, pxL440, pxL1240, pxL1600, pxL1681, pxL12028, pxL13849, pxL14880, pxL25173, pxL26908, pxL49600, pxL65535, pxL65536, ↓reduceIte, reduceCtorEq, pxJ_add, pxJ_sub, pxJ_mul, pxJ_neg, pxD_lt_t, pxD_lt_f, pxD_le_t, pxD_le_f, pxD_eq_t, pxD_eq_f, pxJ_lt, pxJ_le, pxJ_eq, px_gI, px_gR, px_pI, px_rc, px_ai, px_ar, px_si, px_ln, px_cp, pxJ_div, pxJ_b8, pxJ_byte, px_b2, px_bs, px_rb0, px_rb1, px_min, px_max, px_compare, pxW_some, jw_t_I, px_cpt, jw_r_I, px_cpr, jw_l_I, px_cpl, Option.some.injEq, t5, w0, wp, tg, m6, o3', d]
    · have d2 : pxOn s (pxWh s t.1).2.1 = -1 := cq.elim (fun z => absurd z d) id
      have g5 := o5 (by unfold pxOnA; omega)
      rw [d2] at g5
      have g5' : pxM (jw_setI h 559 14 (pxJ ((pxCnt L : Nat) : Int))) (12 + 4 * k) 5 = -1 := by rw [F1.m (by omega)]; exact g5
      clear G A I Y IV IS H H' O PS PG oka v Rn o5 m5 G1 cq
      rcases (show pxAc s t.1 = 98 ∨ pxAc s t.1 = 84 by omega) with z | z
      · simp (maxSteps := 4000000) (disch := first | assumption | omega | (simp only [jw_t_I, px_cpt, t5]; done) | (simp only [jw_t_I, px_cpt, t5]; omega)) only [pxL0, pxL1, pxL2, pxL3, pxL4, pxL5, pxL6, pxL7, pxL8, pxL9, pxL10, pxL11, pxL12, pxL13, pxL14, pxL15, pxL16, pxL17, pxL18, pxL19, pxL20, pxL21, pxL22, pxL23, pxL24, pxL25, pxL26, pxL27, pxL28, pxL29, pxL30, pxL31, pxL32, pxL33, pxL34, pxL35, pxL36, pxL37, pxL38, pxL39, pxL40, pxL41, pxL42, pxL43, pxL44, pxL45, pxL46, pxL47, pxL48, pxL49, pxL51, pxL57, pxL58, pxL59, pxL60, pxL61, pxL62, pxL63, pxL64, pxL65, pxL66, pxL67, pxL68, pxL69, pxL70, pxL71, pxL72, pxL73, pxL74, pxL75, pxL76, pxL77, pxL78, pxL79, pxL80, pxL81, pxL82, pxL83, pxL84, pxL85, pxL86, pxL87, pxL88, pxL89, pxL90, pxL91, pxL92, pxL93, pxL94, pxL95, pxL96, pxL97, pxL98, pxL99, pxL100, pxL101, pxL102, pxL103, pxL104, pxL105, pxL106, pxL107, pxL108, pxL109, pxL110, pxL111, pxL112, pxL113, pxL114, pxL115, pxL116, pxL117, pxL118, pxL119, pxL120, pxL121, pxL122, pxL123, pxL124, pxL125, pxL126, pxL200, pxL240, pxL287, pxL388, pxL400, pxL429, pxL431, pxL440, pxL1240, pxL1600, pxL1681, pxL12028, pxL13849, pxL14880, pxL25173, pxL26908, pxL49600, pxL65535, pxL65536, ↓reduceIte, reduceCtorEq, pxJ_add, pxJ_sub, pxJ_mul, pxJ_neg, pxD_lt_t, pxD_lt_f, pxD_le_t, pxD_le_f, pxD_eq_t, pxD_eq_f, pxJ_lt, pxJ_le, pxJ_eq, px_gI, px_gR, px_pI, px_rc, px_ai, px_ar, px_si, px_ln, px_cp, pxJ_div, pxJ_b8, pxJ_byte, px_b2, px_bs, px_rb0, px_rb1, px_min, px_max, px_compare, pxW_some, jw_t_I, px_cpt, jw_r_I, px_cpr, jw_l_I, px_cpl, Option.some.injEq, t5, w0, wp, tg, m6, o3', z, g5']
      · simp (maxSteps := 4000000) (disch := first | assumption | omega | (simp only [jw_t_I, px_cpt, t5]; done) | (simp only [jw_t_I, px_cpt, t5]; omega)) only [pxL0, pxL1, pxL2, pxL3, pxL4, pxL5, pxL6, pxL7, pxL8, pxL9, pxL10, pxL11, pxL12, pxL13, pxL14, pxL15, pxL16, pxL17, pxL18, pxL19, pxL20, pxL21, pxL22, pxL23, pxL24, pxL25, pxL26, pxL27, pxL28, pxL29, pxL30, pxL31, pxL32, pxL33, pxL34, pxL35, pxL36, pxL37, pxL38, pxL39, pxL40, pxL41, pxL42, pxL43, pxL44, pxL45, pxL46, pxL47, pxL48, pxL49, pxL51, pxL57, pxL58, pxL59, pxL60, pxL61, pxL62, pxL63, pxL64, pxL65, pxL66, pxL67, pxL68, pxL69, pxL70, pxL71, pxL72, pxL73, pxL74, pxL75, pxL76, pxL77, pxL78, pxL79, pxL80, pxL81, pxL82, pxL83, pxL84, pxL85, pxL86, pxL87, pxL88, pxL89, pxL90, pxL91, pxL92, pxL93, pxL94, pxL95, pxL96, pxL97, pxL98, pxL99, pxL100, pxL101, pxL102, pxL103, pxL104, pxL105, pxL106, pxL107, pxL108, pxL109, pxL110, pxL111, pxL112, pxL113, pxL114, pxL115, pxL116, pxL117, pxL118, pxL119, pxL120, pxL121, pxL122, pxL123, pxL124, pxL125, pxL126, pxL200, pxL240, pxL287, pxL388, pxL400, pxL429, pxL431, pxL440, pxL1240, pxL1600, pxL1681, pxL12028, pxL13849, pxL14880, pxL25173, pxL26908, pxL49600, pxL65535, pxL65536, ↓reduceIte, reduceCtorEq, pxJ_add, pxJ_sub, pxJ_mul, pxJ_neg, pxD_lt_t, pxD_lt_f, pxD_le_t, pxD_le_f, pxD_eq_t, pxD_eq_f, pxJ_lt, pxJ_le, pxJ_eq, px_gI, px_gR, px_pI, px_rc, px_ai, px_ar, px_si, px_ln, px_cp, pxJ_div, pxJ_b8, pxJ_byte, px_b2, px_bs, px_rb0, px_rb1, px_min, px_max, px_compare, pxW_some, jw_t_I, px_cpt, jw_r_I, px_cpr, jw_l_I, px_cpl, Option.some.injEq, t5, w0, wp, tg, m6, o3', z, g5']
  rw [if_neg cq]
  have n113 : ¬ pxAc s t.1 = 113 := fun z => cq (Or.inl z)
  have nm1 : ¬ pxOn s (pxWh s t.1).2.1 = -1 := fun z => cq (Or.inr z)
  have lab := pxOn_lab (s := s) (p := (pxWh s t.1).2.1) (by rw [rc]; omega)
  have g5 := o5 (by unfold pxOnA; omega)
  have g5' : pxM (jw_setI h 559 14 (pxJ ((pxCnt L : Nat) : Int))) (12 + 4 * k) 5 = pxOn s (pxWh s t.1).2.1 := by rw [F1.m (by omega)]; exact g5
  have H1 : pxPr (jw_setI h 559 14 (pxJ ((pxCnt L : Nat) : Int))) b s L := H.fb F1 (fun k f z => by omega)
  have pb := s_X6_placeBehind H1 lab.1 lab.2
  have wp1 : jw_r (jw_setI h 559 14 (pxJ ((pxCnt L : Nat) : Int))) 559 0 = some 10 := wp
  have bb := pxBeh_b s (pxOn s (pxWh s t.1).2.1) L 0
  have fin : ∀ v : Int, -1 ≤ v → v ≤ 60 → f_X6_placeBehind (jw_setI h 559 14 (pxJ ((pxCnt L : Nat) : Int))) 10 (pxJ (pxOn s (pxWh s t.1).2.1)) = some (pxJ v, jw_setI h 559 14 (pxJ ((pxCnt L : Nat) : Int))) → ∃ h', g_X10_steer_b113 h 559 (some (12 + 4 * k)) = some (pxJ (if v = -1 then 6 else 0), h') ∧ pxF pxQS h h' ∧ pxGS nB h' T S (if pxAc s t.1 = 84 then false else rep) came ∧ pxM h' 559 14 = v := by
    intro v v0 v1 ev
    have F2 : pxF (fun k f => k = 559 ∧ f = 14) h (jw_setI (jw_setI h 559 14 (pxJ ((pxCnt L : Nat) : Int))) 559 14 (pxJ v)) := F1.trans (pxF.setI ⟨rfl, rfl⟩)
    have G2 := G.fr F2 (fun k f z => by omega)
    have M2 : pxM (jw_setI (jw_setI h 559 14 (pxJ ((pxCnt L : Nat) : Int))) 559 14 (pxJ v)) 559 14 = v := pxM_eq (by omega) (by omega)
    have g5a := g5
    obtain ⟨L1, L2⟩ := s_steer_lab (v := v) w0 wp w5 t2 tg t5 hi o3 g5a m6 (by omega) (by omega) lab.2 v0 v1 (by omega) (by omega) ev
    by_cases c84 : pxAc s t.1 = 84
    · rw [if_pos c84]
      have F3 : pxF (fun k f => k = 536 ∧ f = 5) (jw_setI (jw_setI h 559 14 (pxJ ((pxCnt L : Nat) : Int))) 559 14 (pxJ v)) (jw_setI (jw_setI (jw_setI h 559 14 (pxJ ((pxCnt L : Nat) : Int))) 559 14 (pxJ v)) 536 5 (pxJ 0)) := pxF.setI ⟨rfl, rfl⟩
      have M3 : pxM (jw_setI (jw_setI (jw_setI h 559 14 (pxJ ((pxCnt L : Nat) : Int))) 559 14 (pxJ v)) 536 5 (pxJ 0)) 559 14 = v := by rw [F3.m (by omega)]; exact M2
      obtain ⟨A2, I2, Y2, -, -, m152, -, -, -⟩ := G2
      exact ⟨jw_setI (jw_setI (jw_setI h 559 14 (pxJ ((pxCnt L : Nat) : Int))) 559 14 (pxJ v)) 536 5 (pxJ 0), L2 c84, (F2.mono (fun k f z => by unfold pxQS; omega)).trans (F3.mono (fun k f z => by unfold pxQS; omega)), ⟨A2.rep0, pxIT.fr I2 F3 (fun k f _ _ => by omega), pxIS.fr Y2 F3 (fun k f _ _ => by omega), IV, IS, by rw [F3.m (by omega)]; exact m152, ca0, ca1, nb⟩, M3⟩
    · rw [if_neg c84]
      exact ⟨jw_setI (jw_setI h 559 14 (pxJ ((pxCnt L : Nat) : Int))) 559 14 (pxJ v), L1 (by omega), F2.mono (fun k f z => by unfold pxQS; omega), G2, M2⟩
  by_cases z : pxBeh s (pxOn s (pxWh s t.1).2.1) L 0 = -1
  · rw [if_pos z] at pb
    obtain ⟨h', e1, F, G3, m3'⟩ := fin (-1) (by omega) (by omega) pb
    refine ⟨h', ?_, F, G3, fun y => ?_⟩
    · dsimp only
      rw [if_pos z]; exact e1
    · dsimp only at y
      rw [if_pos z] at y
      exact absurd y (by omega)
  · rw [if_neg z] at pb
    have le := pxCnt_tle L (pxBeh s (pxOn s (pxWh s t.1).2.1) L 0).toNat
    obtain ⟨h', e1, F, G3, m3'⟩ := fin _ (by omega) (by omega) pb
    refine ⟨h', ?_, F, G3, fun y => m3'⟩
    dsimp only
    rw [if_neg z, e1, if_neg (by omega)]
end
