/-! texts: what changes their lines -/
def pxSX (h : jw_H) (t : Nat) : Prop := pxST h t ∧ pxSR h (t + 1) 40
theorem pxIT.sx {h : jw_H} {t : Nat} {ls : pxLs} {mk : Int → Int} {now nx : Int} (H : pxIT h t ls mk now nx) : pxSX h t := ⟨H.1, H.2.1.1⟩
theorem pxSX.fr {P : Nat → Nat → Prop} {h h' : jw_H} {t : Nat} (H : pxSX h t) (F : pxF P h h') (hP : ∀ k f, t ≤ k → k ≤ t + 5 → ¬ P k f) : pxSX h' t :=
  ⟨H.1.fr F (fun f _ => hP t f (by omega) (by omega)), H.2.fr F (fun k f a b => hP k f (by omega) (by omega))⟩
section
variable {h : jw_H} {t : Nat} {ls : pxLs} {mk : Int → Int} {now nx : Int}
theorem s_X9_copy (H : pxSX h t) {t2 : Nat} (H2 : pxIT h t2 ls mk now nx) (hd : t2 + 5 < t ∨ t + 5 < t2) : pxW (f_X9_copy h t (some t2)) fun _ h' => pxF (pxC t (t + 5)) h h' ∧ pxIT h' t ls mk now (pxM h t 4) := by
  have hl := H2.len
  obtain ⟨⟨t0, r0, r1, r2, t4, t5⟩, RS⟩ := H
  have H2' := H2
  obtain ⟨⟨s0, q0, q1, q2, s4, s5⟩, R2, ci, cm, n3, n4⟩ := H2
  have tr := RS.1
  unfold f_X9_copy
  simp (disch := first | assumption | omega | (simp only [jw_t_I, px_cpt]; done) | (simp only [jw_t_I, px_cpt]; omega)) only [pxL0, pxL1, pxL2, pxL3, pxL4, pxL5, pxL6, pxL7, pxL8, pxL9, pxL10, pxL11, pxL12, pxL13, pxL14, pxL15, pxL16, pxL17, pxL18, pxL19, pxL20, pxL21, pxL22, pxL23, pxL24, pxL25, pxL26, pxL27, pxL28, pxL29, pxL30, pxL31, pxL32, pxL33, pxL34, pxL35, pxL36, pxL37, pxL38, pxL39, pxL40, pxL41, pxL42, pxL43, pxL44, pxL45, pxL46, pxL47, pxL48, pxL49, pxL51, pxL57, pxL58, pxL59, pxL60, pxL61, pxL62, pxL63, pxL64, pxL65, pxL66, pxL67, pxL68, pxL69, pxL70, pxL71, pxL72, pxL73, pxL74, pxL75, pxL76, pxL77, pxL78, pxL79, pxL80, pxL81, pxL82, pxL83, pxL84, pxL85, pxL86, pxL87, pxL88, pxL89, pxL90, pxL91, pxL92, pxL93, pxL94, pxL95, pxL96, pxL97, pxL98, pxL99, pxL100, pxL101, pxL102, pxL103, pxL104, pxL105, pxL106, pxL107, pxL108, pxL109, pxL110, pxL111, pxL112, pxL113, pxL114, pxL115, pxL116, pxL117, pxL118, pxL119, pxL120, pxL121, pxL122, pxL123, pxL124, pxL125, pxL126, pxL200, pxL240, pxL287, pxL388, pxL400, pxL429, pxL431, pxL440, pxL1240, pxL1600, pxL1681, pxL12028, pxL13849, pxL14880, pxL25173, pxL26908, pxL49600, pxL65535, pxL65536, ↓reduceIte, pxJ_add, pxJ_sub, pxJ_mul, pxJ_neg, pxD_lt_t, pxD_lt_f, pxD_le_t, pxD_le_f, pxD_eq_t, pxD_eq_f, pxJ_lt, pxJ_le, pxJ_eq, px_gI, px_gR, px_pI, px_rc, px_ai, px_ar, px_si, px_ln, px_cp, pxJ_div, pxJ_b8, pxJ_byte, px_b2, px_bs, px_rb0, px_rb1, px_min, px_max, px_compare, pxW_some, jw_t_I, px_cpt, jw_r_I, px_cpr, jw_l_I, px_cpl, Option.some.injEq, r0, q0]
  refine pxW_b2 (s_X7_copy RS R2 (by omega) (by rw [pxRs_len]; omega)) fun _ h1 q => ?_
  obtain ⟨F, R⟩ := q
  have t0' : (jw_t h1 t).1 = 9 := by rw [F.t]; exact t0
  have s0' : (jw_t h1 t2).1 = 9 := by rw [F.t]; exact s0
  have t4' : jw_t h1 (t + 4) = (20, 40) := by rw [F.t]; exact t4
  have t5' : jw_t h1 (t + 5) = (20, 5) := by rw [F.t]; exact t5
  have s4' : jw_t h1 (t2 + 4) = (20, 40) := by rw [F.t]; exact s4
  have s5' : jw_t h1 (t2 + 5) = (20, 5) := by rw [F.t]; exact s5
  have r1' : jw_r h1 t 1 = some (t + 4) := by rw [F.r (by unfold pxC; omega)]; exact r1
  have r2' : jw_r h1 t 2 = some (t + 5) := by rw [F.r (by unfold pxC; omega)]; exact r2
  have r0' : jw_r h1 t 0 = some (t + 1) := by rw [F.r (by unfold pxC; omega)]; exact r0
  have q1' : jw_r h1 t2 1 = some (t2 + 4) := by rw [F.r (by unfold pxC; omega)]; exact q1
  have q2' : jw_r h1 t2 2 = some (t2 + 5) := by rw [F.r (by unfold pxC; omega)]; exact q2
  simp (disch := first | assumption | omega | (simp only [jw_t_I, px_cpt, t4', t5', s4', s5']; done) | (simp only [jw_t_I, px_cpt, t4', t5', s4', s5']; omega)) only [pxL0, pxL1, pxL2, pxL3, pxL4, pxL5, pxL6, pxL7, pxL8, pxL9, pxL10, pxL11, pxL12, pxL13, pxL14, pxL15, pxL16, pxL17, pxL18, pxL19, pxL20, pxL21, pxL22, pxL23, pxL24, pxL25, pxL26, pxL27, pxL28, pxL29, pxL30, pxL31, pxL32, pxL33, pxL34, pxL35, pxL36, pxL37, pxL38, pxL39, pxL40, pxL41, pxL42, pxL43, pxL44, pxL45, pxL46, pxL47, pxL48, pxL49, pxL51, pxL57, pxL58, pxL59, pxL60, pxL61, pxL62, pxL63, pxL64, pxL65, pxL66, pxL67, pxL68, pxL69, pxL70, pxL71, pxL72, pxL73, pxL74, pxL75, pxL76, pxL77, pxL78, pxL79, pxL80, pxL81, pxL82, pxL83, pxL84, pxL85, pxL86, pxL87, pxL88, pxL89, pxL90, pxL91, pxL92, pxL93, pxL94, pxL95, pxL96, pxL97, pxL98, pxL99, pxL100, pxL101, pxL102, pxL103, pxL104, pxL105, pxL106, pxL107, pxL108, pxL109, pxL110, pxL111, pxL112, pxL113, pxL114, pxL115, pxL116, pxL117, pxL118, pxL119, pxL120, pxL121, pxL122, pxL123, pxL124, pxL125, pxL126, pxL200, pxL240, pxL287, pxL388, pxL400, pxL429, pxL431, pxL440, pxL1240, pxL1600, pxL1681, pxL12028, pxL13849, pxL14880, pxL25173, pxL26908, pxL49600, pxL65535, pxL65536, ↓reduceIte, pxJ_add, pxJ_sub, pxJ_mul, pxJ_neg, pxD_lt_t, pxD_lt_f, pxD_le_t, pxD_le_f, pxD_eq_t, pxD_eq_f, pxJ_lt, pxJ_le, pxJ_eq, px_gI, px_gR, px_pI, px_rc, px_ai, px_ar, px_si, px_ln, px_cp, pxJ_div, pxJ_b8, pxJ_byte, px_b2, px_bs, px_rb0, px_rb1, px_min, px_max, px_compare, pxW_some, jw_t_I, px_cpt, jw_r_I, px_cpr, jw_l_I, px_cpl, Option.some.injEq, t4', t5', s4', s5', r1', r2', q1', q2']
  have hnr := H2'.nowr
  have F1 : pxF (fun k f => k = t + 4) h1 (px_cpH h1 (t2 + 4) (0 : Int).toNat (t + 4) (0 : Int).toNat (40 : Int).toNat) := pxF.cpH (fun _ _ _ => rfl)
  have F2 : pxF (fun k f => k = t + 5) (px_cpH h1 (t2 + 4) (0 : Int).toNat (t + 4) (0 : Int).toNat (40 : Int).toNat) (px_cpH (px_cpH h1 (t2 + 4) (0 : Int).toNat (t + 4) (0 : Int).toNat (40 : Int).toNat) (t2 + 5) (0 : Int).toNat (t + 5) (0 : Int).toNat (5 : Int).toNat) := pxF.cpH (fun _ _ _ => rfl)
  have e3 : pxM (px_cpH (px_cpH h1 (t2 + 4) (0 : Int).toNat (t + 4) (0 : Int).toNat (40 : Int).toNat) (t2 + 5) (0 : Int).toNat (t + 5) (0 : Int).toNat (5 : Int).toNat) t2 3 = now := by
    rw [F2.m (by omega), F1.m (by omega), F.m (by unfold pxC; omega)]; exact n3
  rw [e3]
  have F3 : pxF (fun k f => k = t ∧ f = 3) (px_cpH (px_cpH h1 (t2 + 4) (0 : Int).toNat (t + 4) (0 : Int).toNat (40 : Int).toNat) (t2 + 5) (0 : Int).toNat (t + 5) (0 : Int).toNat (5 : Int).toNat) (jw_setI (px_cpH (px_cpH h1 (t2 + 4) (0 : Int).toNat (t + 4) (0 : Int).toNat (40 : Int).toNat) (t2 + 5) (0 : Int).toNat (t + 5) (0 : Int).toNat (5 : Int).toNat) t 3 (pxJ now)) := pxF.setI ⟨rfl, rfl⟩
  have FF := F1.mono (Q := fun k f => k = t + 4 ∨ k = t + 5 ∨ (k = t ∧ f = 3)) (fun k f e => by omega)
  have FG := (FF.trans (F2.mono (fun k f e => by omega))).trans (F3.mono (fun k f e => by omega))
  refine ⟨(F.mono (fun k f e => by unfold pxC at *; omega)).trans (FG.mono (fun k f e => by unfold pxC; omega)), ⟨t0', r0', r1', r2', t4', t5'⟩, R.fr FG (fun k f _ _ => by omega), fun x x1 x2 => ?_, fun k k1 k2 => ?_, ?_, ?_⟩
  · rw [F3.m (by omega), F2.m (by omega), px_cpM_in (by omega) (by omega) (by omega) (by omega), F.m (by unfold pxC; omega), ← ci x x1 x2]
    congr 2; omega
  · rw [F3.m (by omega), px_cpM_in (by omega) (by omega) (by omega) (by omega), F1.m (by omega), F.m (by unfold pxC; omega), ← cm k k1 k2]
    congr 2; omega
  · rw [pxM_eq hnr.1 hnr.2]
  · rw [FG.m (by omega), F.m (by unfold pxC; omega)]
theorem s_X9_open_b68 {a n : Int} (ha : 1 ≤ a) (hn : 0 ≤ n) (hc : a - 1 + n ≤ 40) :
    ∀ (m N : Nat) (h : jw_H) (z c : Int), z + m = a + n → a ≤ z → m < N → pxST h t → pxM h t 4 = c → -1 ≤ c → c + m ≤ 2147483647 →
      pxW (f_X9_open_b68 N h t (pxJ a) (pxJ n) (pxJ z)) fun q h' => q = pxJ 1 ∧ pxF (fun k f => (k = t ∧ f = 4) ∨ k = t + 4) h h' ∧ pxM h' t 4 = c + m ∧ ∀ y : Int, 0 ≤ y → pxM h' (t + 4) y.toNat = if z - 1 ≤ y ∧ y < a + n - 1 then c + (y - (z - 1)) else pxM h (t + 4) y.toNat := by
  intro m
  induction m with
  | zero =>
    intro N h z c hx haz hN S c4 cc c5
    obtain ⟨N, rfl, -⟩ := px_fu hN
    rw [u_X9_open_b68]
    unfold g_X9_open_b68
    simp (disch := first | assumption | omega | (simp only [jw_t_I, px_cpt]; done) | (simp only [jw_t_I, px_cpt]; omega)) only [pxL0, pxL1, pxL2, pxL3, pxL4, pxL5, pxL6, pxL7, pxL8, pxL9, pxL10, pxL11, pxL12, pxL13, pxL14, pxL15, pxL16, pxL17, pxL18, pxL19, pxL20, pxL21, pxL22, pxL23, pxL24, pxL25, pxL26, pxL27, pxL28, pxL29, pxL30, pxL31, pxL32, pxL33, pxL34, pxL35, pxL36, pxL37, pxL38, pxL39, pxL40, pxL41, pxL42, pxL43, pxL44, pxL45, pxL46, pxL47, pxL48, pxL49, pxL51, pxL57, pxL58, pxL59, pxL60, pxL61, pxL62, pxL63, pxL64, pxL65, pxL66, pxL67, pxL68, pxL69, pxL70, pxL71, pxL72, pxL73, pxL74, pxL75, pxL76, pxL77, pxL78, pxL79, pxL80, pxL81, pxL82, pxL83, pxL84, pxL85, pxL86, pxL87, pxL88, pxL89, pxL90, pxL91, pxL92, pxL93, pxL94, pxL95, pxL96, pxL97, pxL98, pxL99, pxL100, pxL101, pxL102, pxL103, pxL104, pxL105, pxL106, pxL107, pxL108, pxL109, pxL110, pxL111, pxL112, pxL113, pxL114, pxL115, pxL116, pxL117, pxL118, pxL119, pxL120, pxL121, pxL122, pxL123, pxL124, pxL125, pxL126, pxL200, pxL240, pxL287, pxL388, pxL400, pxL429, pxL431, pxL440, pxL1240, pxL1600, pxL1681, pxL12028, pxL13849, pxL14880, pxL25173, pxL26908, pxL49600, pxL65535, pxL65536, ↓reduceIte, pxJ_add, pxJ_sub, pxJ_mul, pxJ_neg, pxD_lt_t, pxD_lt_f, pxD_le_t, pxD_le_f, pxD_eq_t, pxD_eq_f, pxJ_lt, pxJ_le, pxJ_eq, px_gI, px_gR, px_pI, px_rc, px_ai, px_ar, px_si, px_ln, px_cp, pxJ_div, pxJ_b8, pxJ_byte, px_b2, px_bs, px_rb0, px_rb1, px_min, px_max, px_compare, pxW_some, jw_t_I, px_cpt, jw_r_I, px_cpr, jw_l_I, px_cpl, Option.some.injEq]
    refine ⟨trivial, pxF.rfl, by rw [c4]; omega, fun y y0 => ?_⟩
    rw [if_neg (by omega)]
  | succ m ih =>
    intro N h z c hx haz hN S c4 cc c5
    obtain ⟨N, rfl, hN⟩ := px_fu hN
    have S' := S
    obtain ⟨t0, r0, r1, r2, t4, t5⟩ := S
    rw [u_X9_open_b68]
    unfold g_X9_open_b68
    have e4 : pxM (jw_setI h (t + 4) (z - 1).toNat (pxJ c)) t 4 = c := by rw [pxM_ne (by omega)]; exact c4
    simp (disch := first | assumption | omega | (simp only [jw_t_I, px_cpt, t4]; done) | (simp only [jw_t_I, px_cpt, t4]; omega)) only [pxL0, pxL1, pxL2, pxL3, pxL4, pxL5, pxL6, pxL7, pxL8, pxL9, pxL10, pxL11, pxL12, pxL13, pxL14, pxL15, pxL16, pxL17, pxL18, pxL19, pxL20, pxL21, pxL22, pxL23, pxL24, pxL25, pxL26, pxL27, pxL28, pxL29, pxL30, pxL31, pxL32, pxL33, pxL34, pxL35, pxL36, pxL37, pxL38, pxL39, pxL40, pxL41, pxL42, pxL43, pxL44, pxL45, pxL46, pxL47, pxL48, pxL49, pxL51, pxL57, pxL58, pxL59, pxL60, pxL61, pxL62, pxL63, pxL64, pxL65, pxL66, pxL67, pxL68, pxL69, pxL70, pxL71, pxL72, pxL73, pxL74, pxL75, pxL76, pxL77, pxL78, pxL79, pxL80, pxL81, pxL82, pxL83, pxL84, pxL85, pxL86, pxL87, pxL88, pxL89, pxL90, pxL91, pxL92, pxL93, pxL94, pxL95, pxL96, pxL97, pxL98, pxL99, pxL100, pxL101, pxL102, pxL103, pxL104, pxL105, pxL106, pxL107, pxL108, pxL109, pxL110, pxL111, pxL112, pxL113, pxL114, pxL115, pxL116, pxL117, pxL118, pxL119, pxL120, pxL121, pxL122, pxL123, pxL124, pxL125, pxL126, pxL200, pxL240, pxL287, pxL388, pxL400, pxL429, pxL431, pxL440, pxL1240, pxL1600, pxL1681, pxL12028, pxL13849, pxL14880, pxL25173, pxL26908, pxL49600, pxL65535, pxL65536, ↓reduceIte, pxJ_add, pxJ_sub, pxJ_mul, pxJ_neg, pxD_lt_t, pxD_lt_f, pxD_le_t, pxD_le_f, pxD_eq_t, pxD_eq_f, pxJ_lt, pxJ_le, pxJ_eq, px_gI, px_gR, px_pI, px_rc, px_ai, px_ar, px_si, px_ln, px_cp, pxJ_div, pxJ_b8, pxJ_byte, px_b2, px_bs, px_rb0, px_rb1, px_min, px_max, px_compare, pxW_some, jw_t_I, px_cpt, jw_r_I, px_cpr, jw_l_I, px_cpl, Option.some.injEq, t4, r1, c4, e4]
    have F : pxF (fun k f => (k = t ∧ f = 4) ∨ k = t + 4) h (jw_setI (jw_setI h (t + 4) (z - 1).toNat (pxJ c)) t 4 (pxJ (c + 1))) := (pxF.setI (by omega)).trans (pxF.setI (by omega))
    refine (ih N (jw_setI (jw_setI h (t + 4) (z - 1).toNat (pxJ c)) t 4 (pxJ (c + 1))) (z + 1) (c + 1) (by omega) (by omega) (by omega) ⟨t0, r0, r1, r2, t4, t5⟩ (by rw [pxM_eq (by omega) (by omega)]) (by omega) (by omega)).mono fun q h' k => ?_
    obtain ⟨k1, k2, k3, k4⟩ := k
    refine ⟨k1, F.trans k2, by rw [k3]; omega, fun y y0 => ?_⟩
    rw [k4 y y0]
    by_cases hy : y = z - 1
    · subst hy
      rw [if_neg (by omega), if_pos (by omega), pxM_ne (by omega), pxM_eq (by omega) (by omega)]; omega
    · rw [pxM_ne (by omega), pxM_ne (by omega)]
      by_cases h1 : z - 1 ≤ y ∧ y < a + n - 1
      · rw [if_pos h1, if_pos (by omega)]; omega
      · rw [if_neg h1, if_neg (by omega)]
theorem s_X9_open (H : pxIT h t ls mk now nx) {x n : Int} (hx1 : 1 ≤ x) (hx2 : x ≤ ls.length + 1) (hn1 : 0 ≤ n) (hn2 : n ≤ 1000) (hz1 : -1 ≤ nx) (hz2 : nx + n ≤ 2147483647) :
    pxW (f_X9_open h t (pxJ x) (pxJ n)) fun q h' => pxF (pxC t (t + 5)) h h' ∧ q = pxJ (if ls.length + n ≤ 40 then 1 else 0) ∧ pxIT h' t (if ls.length + n ≤ 40 then pxIns ls x (pxNew nx n) else ls) mk now (if ls.length + n ≤ 40 then nx + n else nx) := by
  have hl := H.len
  have c2 := H.c2
  obtain ⟨⟨t0, r0, r1, r2, t4, t5⟩, R, ci, cm, n3, n4⟩ := H
  have q0 := R.1.1
  unfold f_X9_open
  simp (disch := first | assumption | omega | (simp only [jw_t_I, px_cpt]; done) | (simp only [jw_t_I, px_cpt]; omega)) only [pxL0, pxL1, pxL2, pxL3, pxL4, pxL5, pxL6, pxL7, pxL8, pxL9, pxL10, pxL11, pxL12, pxL13, pxL14, pxL15, pxL16, pxL17, pxL18, pxL19, pxL20, pxL21, pxL22, pxL23, pxL24, pxL25, pxL26, pxL27, pxL28, pxL29, pxL30, pxL31, pxL32, pxL33, pxL34, pxL35, pxL36, pxL37, pxL38, pxL39, pxL40, pxL41, pxL42, pxL43, pxL44, pxL45, pxL46, pxL47, pxL48, pxL49, pxL51, pxL57, pxL58, pxL59, pxL60, pxL61, pxL62, pxL63, pxL64, pxL65, pxL66, pxL67, pxL68, pxL69, pxL70, pxL71, pxL72, pxL73, pxL74, pxL75, pxL76, pxL77, pxL78, pxL79, pxL80, pxL81, pxL82, pxL83, pxL84, pxL85, pxL86, pxL87, pxL88, pxL89, pxL90, pxL91, pxL92, pxL93, pxL94, pxL95, pxL96, pxL97, pxL98, pxL99, pxL100, pxL101, pxL102, pxL103, pxL104, pxL105, pxL106, pxL107, pxL108, pxL109, pxL110, pxL111, pxL112, pxL113, pxL114, pxL115, pxL116, pxL117, pxL118, pxL119, pxL120, pxL121, pxL122, pxL123, pxL124, pxL125, pxL126, pxL200, pxL240, pxL287, pxL388, pxL400, pxL429, pxL431, pxL440, pxL1240, pxL1600, pxL1681, pxL12028, pxL13849, pxL14880, pxL25173, pxL26908, pxL49600, pxL65535, pxL65536, ↓reduceIte, pxJ_add, pxJ_sub, pxJ_mul, pxJ_neg, pxD_lt_t, pxD_lt_f, pxD_le_t, pxD_le_f, pxD_eq_t, pxD_eq_f, pxJ_lt, pxJ_le, pxJ_eq, px_gI, px_gR, px_pI, px_rc, px_ai, px_ar, px_si, px_ln, px_cp, pxJ_div, pxJ_b8, pxJ_byte, px_b2, px_bs, px_rb0, px_rb1, px_min, px_max, px_compare, pxW_some, jw_t_I, px_cpt, jw_r_I, px_cpr, jw_l_I, px_cpl, Option.some.injEq, r0, c2]
  have K := s_X7_open R hx1 (by rw [pxRs_len]; exact hx2) hn1 hn2
  rw [pxRs_len, show ((40 : Nat) : Int) = 40 from rfl] at K
  refine pxW_b2 K fun q h1 k => ?_
  obtain ⟨F, rfl, R1⟩ := k
  have t0' : (jw_t h1 t).1 = 9 := by rw [F.t]; exact t0
  have t4' : jw_t h1 (t + 4) = (20, 40) := by rw [F.t]; exact t4
  have t5' : jw_t h1 (t + 5) = (20, 5) := by rw [F.t]; exact t5
  have r1' : jw_r h1 t 1 = some (t + 4) := by rw [F.r (by unfold pxC; omega)]; exact r1
  have r2' : jw_r h1 t 2 = some (t + 5) := by rw [F.r (by unfold pxC; omega)]; exact r2
  have r0' : jw_r h1 t 0 = some (t + 1) := by rw [F.r (by unfold pxC; omega)]; exact r0
  by_cases hz : ls.length + n ≤ 40
  · simp only [if_pos hz] at R1 ⊢
    simp (disch := first | assumption | omega | (simp only [jw_t_I, px_cpt, t4']; done) | (simp only [jw_t_I, px_cpt, t4']; omega)) only [pxL0, pxL1, pxL2, pxL3, pxL4, pxL5, pxL6, pxL7, pxL8, pxL9, pxL10, pxL11, pxL12, pxL13, pxL14, pxL15, pxL16, pxL17, pxL18, pxL19, pxL20, pxL21, pxL22, pxL23, pxL24, pxL25, pxL26, pxL27, pxL28, pxL29, pxL30, pxL31, pxL32, pxL33, pxL34, pxL35, pxL36, pxL37, pxL38, pxL39, pxL40, pxL41, pxL42, pxL43, pxL44, pxL45, pxL46, pxL47, pxL48, pxL49, pxL51, pxL57, pxL58, pxL59, pxL60, pxL61, pxL62, pxL63, pxL64, pxL65, pxL66, pxL67, pxL68, pxL69, pxL70, pxL71, pxL72, pxL73, pxL74, pxL75, pxL76, pxL77, pxL78, pxL79, pxL80, pxL81, pxL82, pxL83, pxL84, pxL85, pxL86, pxL87, pxL88, pxL89, pxL90, pxL91, pxL92, pxL93, pxL94, pxL95, pxL96, pxL97, pxL98, pxL99, pxL100, pxL101, pxL102, pxL103, pxL104, pxL105, pxL106, pxL107, pxL108, pxL109, pxL110, pxL111, pxL112, pxL113, pxL114, pxL115, pxL116, pxL117, pxL118, pxL119, pxL120, pxL121, pxL122, pxL123, pxL124, pxL125, pxL126, pxL200, pxL240, pxL287, pxL388, pxL400, pxL429, pxL431, pxL440, pxL1240, pxL1600, pxL1681, pxL12028, pxL13849, pxL14880, pxL25173, pxL26908, pxL49600, pxL65535, pxL65536, ↓reduceIte, pxJ_add, pxJ_sub, pxJ_mul, pxJ_neg, pxD_lt_t, pxD_lt_f, pxD_le_t, pxD_le_f, pxD_eq_t, pxD_eq_f, pxJ_lt, pxJ_le, pxJ_eq, px_gI, px_gR, px_pI, px_rc, px_ai, px_ar, px_si, px_ln, px_cp, pxJ_div, pxJ_b8, pxJ_byte, px_b2, px_bs, px_rb0, px_rb1, px_min, px_max, px_compare, pxW_some, jw_t_I, px_cpt, jw_r_I, px_cpr, jw_l_I, px_cpl, Option.some.injEq, t4', r1']
    have FC : pxF (fun k f => k = t + 4) h1 (px_cpH h1 (t + 4) (x - 1).toNat (t + 4) (x - 1 + n).toNat ((ls.length : Int) - x + 1).toNat) := pxF.cpH (fun _ _ _ => rfl)
    have hm : nx + (n.toNat : Int) = nx + n := by omega
    refine (s_X9_open_b68 (t := t) hx1 hn1 (by omega) n.toNat jw_FU (px_cpH h1 (t + 4) (x - 1).toNat (t + 4) (x - 1 + n).toNat ((ls.length : Int) - x + 1).toNat) x nx (by omega) (by omega) (by unfold jw_FU; omega) ⟨t0', r0', r1', r2', t4', t5'⟩ (by rw [FC.m (by omega), F.m (by unfold pxC; omega)]; exact n4) hz1 (by omega)).mono fun q h' k => ?_
    obtain ⟨k1, k2, k3, k4⟩ := k
    have FG : pxF (fun k f => k = t + 4 ∨ (k = t ∧ f = 4)) h1 h' := (FC.mono (fun k f e => by omega)).trans (k2.mono (fun k f e => by omega))
    have il : ((pxIns ls x (pxNew nx n)).length : Int) = ls.length + n := by rw [pxIns_len, pxNew_len]; omega
    have nl : ((pxNew nx n).length : Int) = n := by rw [pxNew_len]; omega
    refine ⟨(F.mono (fun k f e => by unfold pxC at *; omega)).trans (FG.mono (fun k f e => by unfold pxC; omega)), k1, ?_, ?_, fun y y1 y2 => ?_, fun k j1 j2 => ?_, ?_, ?_⟩
    · exact pxST.fr ⟨t0', r0', r1', r2', t4', t5'⟩ FG (fun f _ => by omega)
    · rw [pxRs_ins, pxNew_rs]
      exact R1.fr FG (fun k f _ _ => by omega)
    · rw [k4 (y - 1) (by omega)]
      rw [il] at y2
      by_cases hy : y < x
      · rw [if_neg (by omega), px_cpM_out (by omega) (by omega) (by omega), F.m (by unfold pxC; omega), ci y y1 (by omega)]
        show _ = (pxAt _ _).1
        unfold pxAt
        rw [pxIns_lo y1 hy hx2]; rfl
      · by_cases hy2 : y < x + n
        · rw [if_pos (by omega)]
          have e : pxAt (pxIns ls x (pxNew nx n)) y = pxAt (pxNew nx n) (y - x + 1) := pxIns_in (by omega) (by omega) hx2 hx1
          show _ = (pxAt _ _).1
          rw [e, pxNew_at (by omega) (by omega)]
          dsimp only
          omega
        · have e : pxAt (pxIns ls x (pxNew nx n)) y = pxAt ls (y - (pxNew nx n).length) := pxIns_hi (by omega) hx2 hx1
          rw [nl] at e
          show _ = (pxAt _ _).1
          rw [e, if_neg (by omega), px_cpM_in (by omega) (by omega) (by omega) (by omega), F.m (by unfold pxC; omega), show ((pxAt ls (y - n)).1) = pxId ls (y - n) from rfl, ← ci (y - n) (by omega) (by omega)]
          congr 2; omega
    · rw [FG.m (by omega), F.m (by unfold pxC; omega)]; exact cm k j1 j2
    · rw [FG.m (by omega), F.m (by unfold pxC; omega)]; exact n3
    · rw [k3, hm]
  · simp only [if_neg hz] at R1 ⊢
    simp (disch := first | assumption | omega | (simp only [jw_t_I, px_cpt]; done) | (simp only [jw_t_I, px_cpt]; omega)) only [pxL0, pxL1, pxL2, pxL3, pxL4, pxL5, pxL6, pxL7, pxL8, pxL9, pxL10, pxL11, pxL12, pxL13, pxL14, pxL15, pxL16, pxL17, pxL18, pxL19, pxL20, pxL21, pxL22, pxL23, pxL24, pxL25, pxL26, pxL27, pxL28, pxL29, pxL30, pxL31, pxL32, pxL33, pxL34, pxL35, pxL36, pxL37, pxL38, pxL39, pxL40, pxL41, pxL42, pxL43, pxL44, pxL45, pxL46, pxL47, pxL48, pxL49, pxL51, pxL57, pxL58, pxL59, pxL60, pxL61, pxL62, pxL63, pxL64, pxL65, pxL66, pxL67, pxL68, pxL69, pxL70, pxL71, pxL72, pxL73, pxL74, pxL75, pxL76, pxL77, pxL78, pxL79, pxL80, pxL81, pxL82, pxL83, pxL84, pxL85, pxL86, pxL87, pxL88, pxL89, pxL90, pxL91, pxL92, pxL93, pxL94, pxL95, pxL96, pxL97, pxL98, pxL99, pxL100, pxL101, pxL102, pxL103, pxL104, pxL105, pxL106, pxL107, pxL108, pxL109, pxL110, pxL111, pxL112, pxL113, pxL114, pxL115, pxL116, pxL117, pxL118, pxL119, pxL120, pxL121, pxL122, pxL123, pxL124, pxL125, pxL126, pxL200, pxL240, pxL287, pxL388, pxL400, pxL429, pxL431, pxL440, pxL1240, pxL1600, pxL1681, pxL12028, pxL13849, pxL14880, pxL25173, pxL26908, pxL49600, pxL65535, pxL65536, ↓reduceIte, pxJ_add, pxJ_sub, pxJ_mul, pxJ_neg, pxD_lt_t, pxD_lt_f, pxD_le_t, pxD_le_f, pxD_eq_t, pxD_eq_f, pxJ_lt, pxJ_le, pxJ_eq, px_gI, px_gR, px_pI, px_rc, px_ai, px_ar, px_si, px_ln, px_cp, pxJ_div, pxJ_b8, pxJ_byte, px_b2, px_bs, px_rb0, px_rb1, px_min, px_max, px_compare, pxW_some, jw_t_I, px_cpt, jw_r_I, px_cpr, jw_l_I, px_cpl, Option.some.injEq]
    exact ⟨F.mono (fun k f e => by unfold pxC at *; omega), trivial, ⟨t0', r0', r1', r2', t4', t5'⟩, R1, fun y y1 y2 => by rw [F.m (by unfold pxC; omega)]; exact ci y y1 y2, fun k k1 k2 => by rw [F.m (by unfold pxC; omega)]; exact cm k k1 k2, by rw [F.m (by unfold pxC; omega)]; exact n3, by rw [F.m (by unfold pxC; omega)]; exact n4⟩
theorem s_X9_cut_b46 {x n : Int} (hx1 : 1 ≤ x) (hn : 0 ≤ n) (hx2 : x - 1 + n ≤ ls.length) :
    ∀ (m N : Nat) (h : jw_H) (mk : Int → Int) (z : Int), z + m = x + n → x ≤ z → m < N → pxIT h t ls mk now nx →
      pxW (f_X9_cut_b46 N h t (pxJ x) (pxJ n) (pxJ (ls.length - x + 1 - n)) (pxJ z)) fun _ h' => pxF (pxC t (t + 5)) h h' ∧ pxIT h' t (pxDel ls x n) (pxDms mk ((ls.drop (z - 1).toNat).take m)) now nx := by
  intro m
  induction m with
  | zero =>
    intro N h mk z hz hxz hN H
    obtain ⟨N, rfl, -⟩ := px_fu hN
    have hl := H.len
    have c2 := H.c2
    obtain ⟨⟨t0, r0, r1, r2, t4, t5⟩, R, ci, cm, n3, n4⟩ := H
    have q0 := R.1.1
    rw [u_X9_cut_b46]
    unfold g_X9_cut_b46
    simp (disch := first | assumption | omega | (simp only [jw_t_I, px_cpt, t4]; done) | (simp only [jw_t_I, px_cpt, t4]; omega)) only [pxL0, pxL1, pxL2, pxL3, pxL4, pxL5, pxL6, pxL7, pxL8, pxL9, pxL10, pxL11, pxL12, pxL13, pxL14, pxL15, pxL16, pxL17, pxL18, pxL19, pxL20, pxL21, pxL22, pxL23, pxL24, pxL25, pxL26, pxL27, pxL28, pxL29, pxL30, pxL31, pxL32, pxL33, pxL34, pxL35, pxL36, pxL37, pxL38, pxL39, pxL40, pxL41, pxL42, pxL43, pxL44, pxL45, pxL46, pxL47, pxL48, pxL49, pxL51, pxL57, pxL58, pxL59, pxL60, pxL61, pxL62, pxL63, pxL64, pxL65, pxL66, pxL67, pxL68, pxL69, pxL70, pxL71, pxL72, pxL73, pxL74, pxL75, pxL76, pxL77, pxL78, pxL79, pxL80, pxL81, pxL82, pxL83, pxL84, pxL85, pxL86, pxL87, pxL88, pxL89, pxL90, pxL91, pxL92, pxL93, pxL94, pxL95, pxL96, pxL97, pxL98, pxL99, pxL100, pxL101, pxL102, pxL103, pxL104, pxL105, pxL106, pxL107, pxL108, pxL109, pxL110, pxL111, pxL112, pxL113, pxL114, pxL115, pxL116, pxL117, pxL118, pxL119, pxL120, pxL121, pxL122, pxL123, pxL124, pxL125, pxL126, pxL200, pxL240, pxL287, pxL388, pxL400, pxL429, pxL431, pxL440, pxL1240, pxL1600, pxL1681, pxL12028, pxL13849, pxL14880, pxL25173, pxL26908, pxL49600, pxL65535, pxL65536, ↓reduceIte, pxJ_add, pxJ_sub, pxJ_mul, pxJ_neg, pxD_lt_t, pxD_lt_f, pxD_le_t, pxD_le_f, pxD_eq_t, pxD_eq_f, pxJ_lt, pxJ_le, pxJ_eq, px_gI, px_gR, px_pI, px_rc, px_ai, px_ar, px_si, px_ln, px_cp, pxJ_div, pxJ_b8, pxJ_byte, px_b2, px_bs, px_rb0, px_rb1, px_min, px_max, px_compare, pxW_some, jw_t_I, px_cpt, jw_r_I, px_cpr, jw_l_I, px_cpl, Option.some.injEq, t4, r0, r1, List.take_zero]
    have FC : pxF (fun k f => k = t + 4) h (px_cpH h (t + 4) (x - 1 + n).toNat (t + 4) (x - 1).toNat ((ls.length : Int) - x + 1 - n).toNat) := pxF.cpH (fun _ _ _ => rfl)
    have dl := pxDel_len hx1 hn hx2
    refine pxW_b2 (s_X7_close (R.fr FC (fun k f _ _ => by omega)) hx1 hn (by rw [pxRs_len]; exact hx2)) fun _ h' k => ?_
    obtain ⟨F, R1⟩ := k
    rw [pxW_some]
    refine ⟨(FC.mono (fun k f e => by unfold pxC; omega)).trans (F.mono (fun k f e => by unfold pxC at *; omega)), ?_, ?_, fun y y1 y2 => ?_, fun k k1 k2 => ?_, ?_, ?_⟩
    · exact pxST.fr (h := px_cpH h (t + 4) (x - 1 + n).toNat (t + 4) (x - 1).toNat ((ls.length : Int) - x + 1 - n).toNat) ⟨t0, r0, r1, r2, t4, t5⟩ F (fun f _ => by unfold pxC; omega)
    · rw [pxRs_del]; exact R1
    · rw [dl] at y2
      rw [F.m (by unfold pxC; omega)]
      show _ = (pxAt _ _).1
      by_cases hy : y < x
      · rw [px_cpM_out (by omega) (by omega) (by omega), ci y y1 (by omega), show pxAt (pxDel ls x n) y = pxAt ls y from pxDel_lo y1 hy (by omega)]
      · rw [px_cpM_in (by omega) (by omega) (by omega) (by omega), show pxAt (pxDel ls x n) y = pxAt ls (y + n) from pxDel_hi (by omega) hn (by omega) hx1, show (pxAt ls (y + n)).1 = pxId ls (y + n) from rfl, ← ci (y + n) (by omega) (by omega)]
        congr 2; omega
    · rw [F.m (by unfold pxC; omega), FC.m (by omega)]; exact cm k k1 k2
    · rw [F.m (by unfold pxC; omega), FC.m (by omega)]; exact n3
    · rw [F.m (by unfold pxC; omega), FC.m (by omega)]; exact n4
  | succ m ih =>
    intro N h mk z hz hxz hN H
    obtain ⟨N, rfl, hN⟩ := px_fu hN
    have hl := H.len
    have H' := H
    have rr := H.idr (x := z) (by omega) (by omega)
    obtain ⟨⟨t0, r0, r1, r2, t4, t5⟩, R, ci, cm, n3, n4⟩ := H
    rw [u_X9_cut_b46, pxAt_drop (by omega) (by omega), List.take_succ_cons]
    unfold g_X9_cut_b46
    simp (disch := first | assumption | omega | (simp only [jw_t_I, px_cpt, t4]; done) | (simp only [jw_t_I, px_cpt, t4]; omega)) only [pxL0, pxL1, pxL2, pxL3, pxL4, pxL5, pxL6, pxL7, pxL8, pxL9, pxL10, pxL11, pxL12, pxL13, pxL14, pxL15, pxL16, pxL17, pxL18, pxL19, pxL20, pxL21, pxL22, pxL23, pxL24, pxL25, pxL26, pxL27, pxL28, pxL29, pxL30, pxL31, pxL32, pxL33, pxL34, pxL35, pxL36, pxL37, pxL38, pxL39, pxL40, pxL41, pxL42, pxL43, pxL44, pxL45, pxL46, pxL47, pxL48, pxL49, pxL51, pxL57, pxL58, pxL59, pxL60, pxL61, pxL62, pxL63, pxL64, pxL65, pxL66, pxL67, pxL68, pxL69, pxL70, pxL71, pxL72, pxL73, pxL74, pxL75, pxL76, pxL77, pxL78, pxL79, pxL80, pxL81, pxL82, pxL83, pxL84, pxL85, pxL86, pxL87, pxL88, pxL89, pxL90, pxL91, pxL92, pxL93, pxL94, pxL95, pxL96, pxL97, pxL98, pxL99, pxL100, pxL101, pxL102, pxL103, pxL104, pxL105, pxL106, pxL107, pxL108, pxL109, pxL110, pxL111, pxL112, pxL113, pxL114, pxL115, pxL116, pxL117, pxL118, pxL119, pxL120, pxL121, pxL122, pxL123, pxL124, pxL125, pxL126, pxL200, pxL240, pxL287, pxL388, pxL400, pxL429, pxL431, pxL440, pxL1240, pxL1600, pxL1681, pxL12028, pxL13849, pxL14880, pxL25173, pxL26908, pxL49600, pxL65535, pxL65536, ↓reduceIte, pxJ_add, pxJ_sub, pxJ_mul, pxJ_neg, pxD_lt_t, pxD_lt_f, pxD_le_t, pxD_le_f, pxD_eq_t, pxD_eq_f, pxJ_lt, pxJ_le, pxJ_eq, px_gI, px_gR, px_pI, px_rc, px_ai, px_ar, px_si, px_ln, px_cp, pxJ_div, pxJ_b8, pxJ_byte, px_b2, px_bs, px_rb0, px_rb1, px_min, px_max, px_compare, pxW_some, jw_t_I, px_cpt, jw_r_I, px_cpr, jw_l_I, px_cpl, Option.some.injEq, t4, r0, r1, ci z (by omega) (by omega)]
    refine pxW_b2 (s_X9_dropMarks H' rr.1 rr.2) fun _ h1 k => ?_
    have := ih N h1 (pxDm mk (pxId ls z)) (z + 1) (by omega) (by omega) (by omega) k.2
    rw [show z + 1 - 1 = z by omega] at this
    exact this.mono fun _ h' q => ⟨k.1.trans q.1, q.2⟩
theorem s_X9_cut (H : pxIT h t ls mk now nx) {x n : Int} (hx1 : 1 ≤ x) (hn : 0 ≤ n) (hx2 : x - 1 + n ≤ ls.length) :
    pxW (f_X9_cut h t (pxJ x) (pxJ n)) fun _ h' => pxF (pxC t (t + 5)) h h' ∧ pxIT h' t (pxDel ls x n) (pxDms mk ((ls.drop (x - 1).toNat).take n.toNat)) now nx := by
  have hl := H.len
  have c2 := H.c2
  have H' := H
  obtain ⟨⟨t0, r0, r1, r2, t4, t5⟩, R, ci, cm, n3, n4⟩ := H
  have q0 := R.1.1
  unfold f_X9_cut
  simp (disch := first | assumption | omega | (simp only [jw_t_I, px_cpt, t4]; done) | (simp only [jw_t_I, px_cpt, t4]; omega)) only [pxL0, pxL1, pxL2, pxL3, pxL4, pxL5, pxL6, pxL7, pxL8, pxL9, pxL10, pxL11, pxL12, pxL13, pxL14, pxL15, pxL16, pxL17, pxL18, pxL19, pxL20, pxL21, pxL22, pxL23, pxL24, pxL25, pxL26, pxL27, pxL28, pxL29, pxL30, pxL31, pxL32, pxL33, pxL34, pxL35, pxL36, pxL37, pxL38, pxL39, pxL40, pxL41, pxL42, pxL43, pxL44, pxL45, pxL46, pxL47, pxL48, pxL49, pxL51, pxL57, pxL58, pxL59, pxL60, pxL61, pxL62, pxL63, pxL64, pxL65, pxL66, pxL67, pxL68, pxL69, pxL70, pxL71, pxL72, pxL73, pxL74, pxL75, pxL76, pxL77, pxL78, pxL79, pxL80, pxL81, pxL82, pxL83, pxL84, pxL85, pxL86, pxL87, pxL88, pxL89, pxL90, pxL91, pxL92, pxL93, pxL94, pxL95, pxL96, pxL97, pxL98, pxL99, pxL100, pxL101, pxL102, pxL103, pxL104, pxL105, pxL106, pxL107, pxL108, pxL109, pxL110, pxL111, pxL112, pxL113, pxL114, pxL115, pxL116, pxL117, pxL118, pxL119, pxL120, pxL121, pxL122, pxL123, pxL124, pxL125, pxL126, pxL200, pxL240, pxL287, pxL388, pxL400, pxL429, pxL431, pxL440, pxL1240, pxL1600, pxL1681, pxL12028, pxL13849, pxL14880, pxL25173, pxL26908, pxL49600, pxL65535, pxL65536, ↓reduceIte, pxJ_add, pxJ_sub, pxJ_mul, pxJ_neg, pxD_lt_t, pxD_lt_f, pxD_le_t, pxD_le_f, pxD_eq_t, pxD_eq_f, pxJ_lt, pxJ_le, pxJ_eq, px_gI, px_gR, px_pI, px_rc, px_ai, px_ar, px_si, px_ln, px_cp, pxJ_div, pxJ_b8, pxJ_byte, px_b2, px_bs, px_rb0, px_rb1, px_min, px_max, px_compare, pxW_some, jw_t_I, px_cpt, jw_r_I, px_cpr, jw_l_I, px_cpl, Option.some.injEq, t4, r0, r1, c2]
  exact s_X9_cut_b46 hx1 hn hx2 n.toNat jw_FU h mk x (by omega) (by omega) (by unfold jw_FU; omega) H'
theorem s_X9_append (H : pxIT h t ls mk now nx) {ρ2 cap2 : Nat} {rs2 : List (List Int)} (H2 : pxIR h ρ2 cap2 rs2) {y id : Int} (hy1 : 1 ≤ y) (hy2 : y ≤ rs2.length) (hi1 : -2147483648 ≤ id) (hi2 : id ≤ 2147483647) :
    pxW (f_X9_append h t (some ρ2) (pxJ y) (pxJ id)) fun q h' => pxF (pxC t (t + 5)) h h' ∧ q = pxJ (if ls.length < 40 then 1 else 0) ∧ pxIT h' t (if ls.length < 40 then ls ++ [(id, pxRw rs2 y)] else ls) mk now nx := by
  have hl := H.len
  have c2 := H.c2
  have H' := H
  obtain ⟨⟨t0, r0, r1, r2, t4, t5⟩, R, ci, cm, n3, n4⟩ := H
  have q0 := R.1.1
  unfold f_X9_append
  by_cases hz : ls.length < 40
  · simp only [if_pos hz]
    simp (disch := first | assumption | omega | (simp only [jw_t_I, px_cpt, t4]; done) | (simp only [jw_t_I, px_cpt, t4]; omega)) only [pxL0, pxL1, pxL2, pxL3, pxL4, pxL5, pxL6, pxL7, pxL8, pxL9, pxL10, pxL11, pxL12, pxL13, pxL14, pxL15, pxL16, pxL17, pxL18, pxL19, pxL20, pxL21, pxL22, pxL23, pxL24, pxL25, pxL26, pxL27, pxL28, pxL29, pxL30, pxL31, pxL32, pxL33, pxL34, pxL35, pxL36, pxL37, pxL38, pxL39, pxL40, pxL41, pxL42, pxL43, pxL44, pxL45, pxL46, pxL47, pxL48, pxL49, pxL51, pxL57, pxL58, pxL59, pxL60, pxL61, pxL62, pxL63, pxL64, pxL65, pxL66, pxL67, pxL68, pxL69, pxL70, pxL71, pxL72, pxL73, pxL74, pxL75, pxL76, pxL77, pxL78, pxL79, pxL80, pxL81, pxL82, pxL83, pxL84, pxL85, pxL86, pxL87, pxL88, pxL89, pxL90, pxL91, pxL92, pxL93, pxL94, pxL95, pxL96, pxL97, pxL98, pxL99, pxL100, pxL101, pxL102, pxL103, pxL104, pxL105, pxL106, pxL107, pxL108, pxL109, pxL110, pxL111, pxL112, pxL113, pxL114, pxL115, pxL116, pxL117, pxL118, pxL119, pxL120, pxL121, pxL122, pxL123, pxL124, pxL125, pxL126, pxL200, pxL240, pxL287, pxL388, pxL400, pxL429, pxL431, pxL440, pxL1240, pxL1600, pxL1681, pxL12028, pxL13849, pxL14880, pxL25173, pxL26908, pxL49600, pxL65535, pxL65536, ↓reduceIte, pxJ_add, pxJ_sub, pxJ_mul, pxJ_neg, pxD_lt_t, pxD_lt_f, pxD_le_t, pxD_le_f, pxD_eq_t, pxD_eq_f, pxJ_lt, pxJ_le, pxJ_eq, px_gI, px_gR, px_pI, px_rc, px_ai, px_ar, px_si, px_ln, px_cp, pxJ_div, pxJ_b8, pxJ_byte, px_b2, px_bs, px_rb0, px_rb1, px_min, px_max, px_compare, pxW_some, jw_t_I, px_cpt, jw_r_I, px_cpr, jw_l_I, px_cpl, Option.some.injEq, t4, r0, r1, c2]
    have K := s_X7_addRow R H2 hy1 hy2
    rw [pxRs_len] at K
    refine pxW_b2 K fun q h1 k => ?_
    obtain ⟨F, rfl, R1⟩ := k
    rw [if_pos hz] at R1
    have t0' : (jw_t h1 t).1 = 9 := by rw [F.t]; exact t0
    have t4' : jw_t h1 (t + 4) = (20, 40) := by rw [F.t]; exact t4
    have t5' : jw_t h1 (t + 5) = (20, 5) := by rw [F.t]; exact t5
    have r1' : jw_r h1 t 1 = some (t + 4) := by rw [F.r (by unfold pxC; omega)]; exact r1
    have r2' : jw_r h1 t 2 = some (t + 5) := by rw [F.r (by unfold pxC; omega)]; exact r2
    have r0' : jw_r h1 t 0 = some (t + 1) := by rw [F.r (by unfold pxC; omega)]; exact r0
    have q0' := R1.1.1
    have c2' : pxM h1 (t + 1) 2 = (ls.length : Int) + 1 := by rw [R1.2.2.2.1, List.length_append, pxRs_len]; simp
    simp only [if_pos hz]
    simp (disch := first | assumption | omega | (simp only [jw_t_I, px_cpt, t4']; done) | (simp only [jw_t_I, px_cpt, t4']; omega)) only [pxL0, pxL1, pxL2, pxL3, pxL4, pxL5, pxL6, pxL7, pxL8, pxL9, pxL10, pxL11, pxL12, pxL13, pxL14, pxL15, pxL16, pxL17, pxL18, pxL19, pxL20, pxL21, pxL22, pxL23, pxL24, pxL25, pxL26, pxL27, pxL28, pxL29, pxL30, pxL31, pxL32, pxL33, pxL34, pxL35, pxL36, pxL37, pxL38, pxL39, pxL40, pxL41, pxL42, pxL43, pxL44, pxL45, pxL46, pxL47, pxL48, pxL49, pxL51, pxL57, pxL58, pxL59, pxL60, pxL61, pxL62, pxL63, pxL64, pxL65, pxL66, pxL67, pxL68, pxL69, pxL70, pxL71, pxL72, pxL73, pxL74, pxL75, pxL76, pxL77, pxL78, pxL79, pxL80, pxL81, pxL82, pxL83, pxL84, pxL85, pxL86, pxL87, pxL88, pxL89, pxL90, pxL91, pxL92, pxL93, pxL94, pxL95, pxL96, pxL97, pxL98, pxL99, pxL100, pxL101, pxL102, pxL103, pxL104, pxL105, pxL106, pxL107, pxL108, pxL109, pxL110, pxL111, pxL112, pxL113, pxL114, pxL115, pxL116, pxL117, pxL118, pxL119, pxL120, pxL121, pxL122, pxL123, pxL124, pxL125, pxL126, pxL200, pxL240, pxL287, pxL388, pxL400, pxL429, pxL431, pxL440, pxL1240, pxL1600, pxL1681, pxL12028, pxL13849, pxL14880, pxL25173, pxL26908, pxL49600, pxL65535, pxL65536, ↓reduceIte, pxJ_add, pxJ_sub, pxJ_mul, pxJ_neg, pxD_lt_t, pxD_lt_f, pxD_le_t, pxD_le_f, pxD_eq_t, pxD_eq_f, pxJ_lt, pxJ_le, pxJ_eq, px_gI, px_gR, px_pI, px_rc, px_ai, px_ar, px_si, px_ln, px_cp, pxJ_div, pxJ_b8, pxJ_byte, px_b2, px_bs, px_rb0, px_rb1, px_min, px_max, px_compare, pxW_some, jw_t_I, px_cpt, jw_r_I, px_cpr, jw_l_I, px_cpl, Option.some.injEq, t4', r0', r1', c2']
    have FS : pxF (fun k f => k = t + 4) h1 (jw_setI h1 (t + 4) ((ls.length : Int) + 1 - 1).toNat (pxJ id)) := pxF.setI rfl
    refine ⟨(F.mono (fun k f e => by unfold pxC at *; omega)).trans (FS.mono (fun k f e => by unfold pxC; omega)), trivial, ⟨t0', r0', r1', r2', t4', t5'⟩, ?_, fun x x1 x2 => ?_, fun k k1 k2 => ?_, ?_, ?_⟩
    · have e : pxRs (ls ++ [(id, pxRw rs2 y)]) = pxRs ls ++ [pxRw rs2 y] := by unfold pxRs; rw [List.map_append]; rfl
      rw [e]
      exact R1.fr FS (fun k f _ _ => by omega)
    · rw [List.length_append, List.length_singleton] at x2
      show _ = (pxAt _ _).1
      by_cases hx : x = ls.length + 1
      · rw [show pxAt (ls ++ [(id, pxRw rs2 y)]) x = (id, pxRw rs2 y) from pxG_app1 hx, hx, pxM_eq hi1 hi2]
      · rw [show pxAt (ls ++ [(id, pxRw rs2 y)]) x = pxAt ls x from pxG_appL x1 (by omega), pxM_ne (by omega), F.m (by unfold pxC; omega)]
        exact ci x x1 (by omega)
    · rw [FS.m (by omega), F.m (by unfold pxC; omega)]; exact cm k k1 k2
    · rw [FS.m (by omega), F.m (by unfold pxC; omega)]; exact n3
    · rw [FS.m (by omega), F.m (by unfold pxC; omega)]; exact n4
  · simp only [if_neg hz]
    simp (disch := first | assumption | omega | (simp only [jw_t_I, px_cpt, t4]; done) | (simp only [jw_t_I, px_cpt, t4]; omega)) only [pxL0, pxL1, pxL2, pxL3, pxL4, pxL5, pxL6, pxL7, pxL8, pxL9, pxL10, pxL11, pxL12, pxL13, pxL14, pxL15, pxL16, pxL17, pxL18, pxL19, pxL20, pxL21, pxL22, pxL23, pxL24, pxL25, pxL26, pxL27, pxL28, pxL29, pxL30, pxL31, pxL32, pxL33, pxL34, pxL35, pxL36, pxL37, pxL38, pxL39, pxL40, pxL41, pxL42, pxL43, pxL44, pxL45, pxL46, pxL47, pxL48, pxL49, pxL51, pxL57, pxL58, pxL59, pxL60, pxL61, pxL62, pxL63, pxL64, pxL65, pxL66, pxL67, pxL68, pxL69, pxL70, pxL71, pxL72, pxL73, pxL74, pxL75, pxL76, pxL77, pxL78, pxL79, pxL80, pxL81, pxL82, pxL83, pxL84, pxL85, pxL86, pxL87, pxL88, pxL89, pxL90, pxL91, pxL92, pxL93, pxL94, pxL95, pxL96, pxL97, pxL98, pxL99, pxL100, pxL101, pxL102, pxL103, pxL104, pxL105, pxL106, pxL107, pxL108, pxL109, pxL110, pxL111, pxL112, pxL113, pxL114, pxL115, pxL116, pxL117, pxL118, pxL119, pxL120, pxL121, pxL122, pxL123, pxL124, pxL125, pxL126, pxL200, pxL240, pxL287, pxL388, pxL400, pxL429, pxL431, pxL440, pxL1240, pxL1600, pxL1681, pxL12028, pxL13849, pxL14880, pxL25173, pxL26908, pxL49600, pxL65535, pxL65536, ↓reduceIte, pxJ_add, pxJ_sub, pxJ_mul, pxJ_neg, pxD_lt_t, pxD_lt_f, pxD_le_t, pxD_le_f, pxD_eq_t, pxD_eq_f, pxJ_lt, pxJ_le, pxJ_eq, px_gI, px_gR, px_pI, px_rc, px_ai, px_ar, px_si, px_ln, px_cp, pxJ_div, pxJ_b8, pxJ_byte, px_b2, px_bs, px_rb0, px_rb1, px_min, px_max, px_compare, pxW_some, jw_t_I, px_cpt, jw_r_I, px_cpr, jw_l_I, px_cpl, Option.some.injEq, t4, r0, r1, c2]
    exact ⟨pxF.rfl, trivial, H'⟩
end
