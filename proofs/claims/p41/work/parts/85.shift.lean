/-! changing rows: shifting and turning -/
theorem pxPG.fb {P : Nat → Nat → Prop} {h h' : jw_H} {b : Nat} {s : List Int} (H : pxPG h b s) (hb : b < 10) (F : pxF P h h') (hP : ∀ k f, k ≤ 253 → ¬ P k f) : pxPG h' b s :=
  ⟨H.1.fr F (fun k f e => hP k f (by omega)), H.2.fr F (hP _ _ (by omega)) (hP _ _ (by omega)) (fun f => hP _ _ (by omega))⟩
theorem pxSl_all {r : List Int} : pxSl r 0 r.length = r := by
  unfold pxSl
  rw [show ((0 : Int)).toNat = 0 from rfl, List.drop_zero, show ((r.length : Int) - 0).toNat = r.length by omega, List.take_length]
theorem pxCh_32 : pxCh 32 := Or.inr (Or.inr rfl)
/-- the first sign from x on that is no blank, or behind m of them -/
def pxLd (r : List Int) : Nat → Int → Int
  | 0, x => x
  | m + 1, x => if x < r.length ∧ pxE r x = 32 then pxLd r m (x + 1) else x
theorem pxLd_b {r : List Int} : ∀ (m : Nat) (x : Int), x ≤ r.length → x ≤ pxLd r m x ∧ pxLd r m x ≤ r.length
  | 0, x, h => ⟨Int.le_refl _, h⟩
  | m + 1, x, h => by
    unfold pxLd
    by_cases c : x < r.length ∧ pxE r x = 32
    · have := pxLd_b (r := r) m (x + 1) (by omega)
      rw [if_pos c]; omega
    · rw [if_neg c]; omega
/-- what c is turned into -/
def pxTc (s : List Int) (fr to c : Int) : Nat → Int → Int
  | 0, _ => c
  | m + 1, k => if pxP s (fr + k) = c then pxP s (to + k) else pxTc s fr to c m (k + 1)
theorem pxTc_ch {s : List Int} {fr to c : Int} (hc : pxCh c) : ∀ (m : Nat) (k : Int), (∀ j, k ≤ j → j < k + m → pxIsCh (pxP s (to + j)) = true) → pxCh (pxTc s fr to c m k)
  | 0, _, _ => hc
  | m + 1, k, H => by
    unfold pxTc
    by_cases e : pxP s (fr + k) = c
    · rw [if_pos e]; exact pxIsCh_iff.mp (H k (by omega) (by omega))
    · rw [if_neg e]; exact pxTc_ch hc m (k + 1) (fun j j0 j1 => H j (by omega) (by omega))
section
variable {s r : List Int} {b : Nat}
theorem s_X2_shiftBehind_b2 {n : Int} (n1 : n ≤ 1000) : ∀ (m N : Nat) (h : jw_H) (w : List Int) (x : Int), x + m = n → m < N → 0 ≤ x → pxBu h w → pxMT h r →
    ∃ h', f_X2_shiftBehind_b2 N h 536 (pxJ n) (pxJ x) = some ((), h') ∧ pxF pxQc h h' ∧ pxBu h' (w ++ (List.replicate m 32 ++ r)) := by
  intro m
  induction m with
  | zero =>
    intro N h w x em hN x0 B T
    obtain ⟨N, rfl, hN⟩ := px_fu hN
    have t0 := B.1.1
    have r1 := B.1.2.2.1
    have m0 := T.1.1
    have m5 := T.2.2.1
    obtain ⟨h', v1, v2, v3⟩ := s_X2_appendRow B T (Int.le_refl 0) (by omega) (Int.le_refl _)
    rw [pxSl_all] at v3
    refine ⟨h', ?_, v2, by simpa using v3⟩
    rw [u_X2_shiftBehind_b2]
    unfold g_X2_shiftBehind_b2
    simp (maxSteps := 4000000) (disch := first | assumption | omega | (simp only [jw_t_I, px_cpt]; done) | (simp only [jw_t_I, px_cpt]; omega)) only [pxL0, pxL1, pxL2, pxL3, pxL4, pxL5, pxL6, pxL7, pxL8, pxL9, pxL10, pxL11, pxL12, pxL13, pxL14, pxL15, pxL16, pxL17, pxL18, pxL19, pxL20, pxL21, pxL22, pxL23, pxL24, pxL25, pxL26, pxL27, pxL28, pxL29, pxL30, pxL31, pxL32, pxL33, pxL34, pxL35, pxL36, pxL37, pxL38, pxL39, pxL40, pxL41, pxL42, pxL43, pxL44, pxL45, pxL46, pxL47, pxL48, pxL49, pxL51, pxL57, pxL58, pxL59, pxL60, pxL61, pxL62, pxL63, pxL64, pxL65, pxL66, pxL67, pxL68, pxL69, pxL70, pxL71, pxL72, pxL73, pxL74, pxL75, pxL76, pxL77, pxL78, pxL79, pxL80, pxL81, pxL82, pxL83, pxL84, pxL85, pxL86, pxL87, pxL88, pxL89, pxL90, pxL91, pxL92, pxL93, pxL94, pxL95, pxL96, pxL97, pxL98, pxL99, pxL100, pxL101, pxL102, pxL103, pxL104, pxL105, pxL106, pxL107, pxL108, pxL109, pxL110, pxL111, pxL112, pxL113, pxL114, pxL115, pxL116, pxL117, pxL118, pxL119, pxL120, pxL121, pxL122, pxL123, pxL124, pxL125, pxL126, pxL200, pxL240, pxL287, pxL388, pxL400, pxL429, pxL431, pxL440, pxL1240, pxL1600, pxL1681, pxL12028, pxL13849, pxL14880, pxL25173, pxL26908, pxL49600, pxL65535, pxL65536, ↓reduceIte, reduceCtorEq, pxJ_add, pxJ_sub, pxJ_mul, pxJ_neg, pxD_lt_t, pxD_lt_f, pxD_le_t, pxD_le_f, pxD_eq_t, pxD_eq_f, pxJ_lt, pxJ_le, pxJ_eq, px_gI, px_gR, px_pI, px_rc, px_ai, px_ar, px_si, px_ln, px_cp, pxJ_div, pxJ_b8, pxJ_byte, px_b2, px_bs, px_rb0, px_rb1, px_min, px_max, px_compare, pxW_some, jw_t_I, px_cpt, jw_r_I, px_cpr, jw_l_I, px_cpl, Option.some.injEq, t0, r1, m0, m5, v1]
  | succ m ih =>
    intro N h w x em hN x0 B T
    obtain ⟨N, rfl, hN⟩ := px_fu hN
    have t0 := B.1.1
    obtain ⟨h1, v1, v2, v3⟩ := s_X2_append B pxCh_32
    obtain ⟨h2, w1, w2, w3⟩ := ih N h1 (w ++ [32]) (x + 1) (by omega) (by omega) (by omega) v3 (T.fc v2)
    refine ⟨h2, ?_, v2.trans w2, ?_⟩
    · rw [u_X2_shiftBehind_b2]
      unfold g_X2_shiftBehind_b2
      simp (maxSteps := 4000000) (disch := first | assumption | omega | (simp only [jw_t_I, px_cpt]; done) | (simp only [jw_t_I, px_cpt]; omega)) only [pxL0, pxL1, pxL2, pxL3, pxL4, pxL5, pxL6, pxL7, pxL8, pxL9, pxL10, pxL11, pxL12, pxL13, pxL14, pxL15, pxL16, pxL17, pxL18, pxL19, pxL20, pxL21, pxL22, pxL23, pxL24, pxL25, pxL26, pxL27, pxL28, pxL29, pxL30, pxL31, pxL32, pxL33, pxL34, pxL35, pxL36, pxL37, pxL38, pxL39, pxL40, pxL41, pxL42, pxL43, pxL44, pxL45, pxL46, pxL47, pxL48, pxL49, pxL51, pxL57, pxL58, pxL59, pxL60, pxL61, pxL62, pxL63, pxL64, pxL65, pxL66, pxL67, pxL68, pxL69, pxL70, pxL71, pxL72, pxL73, pxL74, pxL75, pxL76, pxL77, pxL78, pxL79, pxL80, pxL81, pxL82, pxL83, pxL84, pxL85, pxL86, pxL87, pxL88, pxL89, pxL90, pxL91, pxL92, pxL93, pxL94, pxL95, pxL96, pxL97, pxL98, pxL99, pxL100, pxL101, pxL102, pxL103, pxL104, pxL105, pxL106, pxL107, pxL108, pxL109, pxL110, pxL111, pxL112, pxL113, pxL114, pxL115, pxL116, pxL117, pxL118, pxL119, pxL120, pxL121, pxL122, pxL123, pxL124, pxL125, pxL126, pxL200, pxL240, pxL287, pxL388, pxL400, pxL429, pxL431, pxL440, pxL1240, pxL1600, pxL1681, pxL12028, pxL13849, pxL14880, pxL25173, pxL26908, pxL49600, pxL65535, pxL65536, ↓reduceIte, reduceCtorEq, pxJ_add, pxJ_sub, pxJ_mul, pxJ_neg, pxD_lt_t, pxD_lt_f, pxD_le_t, pxD_le_f, pxD_eq_t, pxD_eq_f, pxJ_lt, pxJ_le, pxJ_eq, px_gI, px_gR, px_pI, px_rc, px_ai, px_ar, px_si, px_ln, px_cp, pxJ_div, pxJ_b8, pxJ_byte, px_b2, px_bs, px_rb0, px_rb1, px_min, px_max, px_compare, pxW_some, jw_t_I, px_cpt, jw_r_I, px_cpr, jw_l_I, px_cpl, Option.some.injEq, t0, v1, w1]
    · rw [List.replicate_succ, List.cons_append]
      rw [List.append_assoc] at w3
      exact w3
theorem s_X2_shiftBehind {h : jw_H} {w : List Int} {n : Int} (n0 : 0 ≤ n) (n1 : n ≤ 1000) (B : pxBu h w) (T : pxMT h r) :
    ∃ h', f_X2_shiftBehind h 536 (pxJ n) = some ((), h') ∧ pxF pxQc h h' ∧ pxBu h' (w ++ (List.replicate n.toNat 32 ++ r)) :=
  s_X2_shiftBehind_b2 n1 n.toNat jw_FU h w 0 (by omega) (by unfold jw_FU; omega) (by omega) B T
theorem s_X2_shiftAhead_b4 {n : Int} (n1 : n ≤ 1000) : ∀ (m N : Nat) (h : jw_H) (w : List Int) (x : Int), x + m = n → m < N → 0 ≤ x → x ≤ r.length → pxBu h w → pxMT h r →
    ∃ h', f_X2_shiftAhead_b4 N h 536 (pxJ n) (pxJ x) (pxJ x) = some ((), h') ∧ pxF pxQc h h' ∧ pxBu h' (w ++ pxSl r (pxLd r m x) r.length) := by
  intro m
  induction m with
  | zero =>
    intro N h w x em hN x0 x1 B T
    obtain ⟨N, rfl, hN⟩ := px_fu hN
    have t0 := B.1.1
    have r1 := B.1.2.2.1
    have m0 := T.1.1
    have m5 := T.2.2.1
    have l30 := T.2.1.1
    obtain ⟨h', v1, v2, v3⟩ := s_X2_appendRow B T x0 x1 (Int.le_refl _)
    refine ⟨h', ?_, v2, v3⟩
    rw [u_X2_shiftAhead_b4]
    unfold g_X2_shiftAhead_b4 g_X2_shiftAhead_b58
    simp (maxSteps := 4000000) (disch := first | assumption | omega | (simp only [jw_t_I, px_cpt]; done) | (simp only [jw_t_I, px_cpt]; omega)) only [pxL0, pxL1, pxL2, pxL3, pxL4, pxL5, pxL6, pxL7, pxL8, pxL9, pxL10, pxL11, pxL12, pxL13, pxL14, pxL15, pxL16, pxL17, pxL18, pxL19, pxL20, pxL21, pxL22, pxL23, pxL24, pxL25, pxL26, pxL27, pxL28, pxL29, pxL30, pxL31, pxL32, pxL33, pxL34, pxL35, pxL36, pxL37, pxL38, pxL39, pxL40, pxL41, pxL42, pxL43, pxL44, pxL45, pxL46, pxL47, pxL48, pxL49, pxL51, pxL57, pxL58, pxL59, pxL60, pxL61, pxL62, pxL63, pxL64, pxL65, pxL66, pxL67, pxL68, pxL69, pxL70, pxL71, pxL72, pxL73, pxL74, pxL75, pxL76, pxL77, pxL78, pxL79, pxL80, pxL81, pxL82, pxL83, pxL84, pxL85, pxL86, pxL87, pxL88, pxL89, pxL90, pxL91, pxL92, pxL93, pxL94, pxL95, pxL96, pxL97, pxL98, pxL99, pxL100, pxL101, pxL102, pxL103, pxL104, pxL105, pxL106, pxL107, pxL108, pxL109, pxL110, pxL111, pxL112, pxL113, pxL114, pxL115, pxL116, pxL117, pxL118, pxL119, pxL120, pxL121, pxL122, pxL123, pxL124, pxL125, pxL126, pxL200, pxL240, pxL287, pxL388, pxL400, pxL429, pxL431, pxL440, pxL1240, pxL1600, pxL1681, pxL12028, pxL13849, pxL14880, pxL25173, pxL26908, pxL49600, pxL65535, pxL65536, ↓reduceIte, reduceCtorEq, pxJ_add, pxJ_sub, pxJ_mul, pxJ_neg, pxD_lt_t, pxD_lt_f, pxD_le_t, pxD_le_f, pxD_eq_t, pxD_eq_f, pxJ_lt, pxJ_le, pxJ_eq, px_gI, px_gR, px_pI, px_rc, px_ai, px_ar, px_si, px_ln, px_cp, pxJ_div, pxJ_b8, pxJ_byte, px_b2, px_bs, px_rb0, px_rb1, px_min, px_max, px_compare, pxW_some, jw_t_I, px_cpt, jw_r_I, px_cpr, jw_l_I, px_cpl, Option.some.injEq, t0, r1, m0, m5, v1]
  | succ m ih =>
    intro N h w x em hN x0 x1 B T
    obtain ⟨N, rfl, hN⟩ := px_fu hN
    have t0 := B.1.1
    have r1 := B.1.2.2.1
    obtain ⟨⟨m0, q0, q1, q2, q3, q4, t532, t533, t534, t535⟩, okr, m5, mr⟩ := T
    have T : pxMT h r := ⟨⟨m0, q0, q1, q2, q3, q4, t532, t533, t534, t535⟩, okr, m5, mr⟩
    have l30 := okr.1
    have ln : jw_ln h (some 532) = some (pxJ 30) := by rw [px_ln (by rw [t532]; simp), t532]; rfl
    rw [u_X2_shiftAhead_b4]
    unfold g_X2_shiftAhead_b4 g_X2_shiftAhead_b58
    have eL : pxLd r (m + 1) x = if x < r.length ∧ pxE r x = 32 then pxLd r m (x + 1) else x := rfl
    obtain ⟨h', v1, v2, v3⟩ := s_X2_appendRow B T x0 x1 (Int.le_refl _)
    by_cases c : x < r.length
    · have ai : jw_ai h 21 (some 532) (pxJ x) = some (pxJ (pxE r x)) := by rw [px_ai (by rw [t532]) x0 (by rw [t532]; show x < ((30 : Nat) : Int); omega) (by omega), (mr x x0 c).1]
      have ch := pxCh_in (pxE_ch okr x0 c)
      by_cases d : pxE r x = 32
      · rw [if_pos ⟨c, d⟩] at eL
        rw [eL]
        obtain ⟨h2, w1, w2, w3⟩ := ih N h w (x + 1) (by omega) (by omega) (by omega) (by omega) B T
        refine ⟨h2, ?_, w2, w3⟩
        simp (maxSteps := 4000000) (disch := first | assumption | omega | (simp only [jw_t_I, px_cpt]; done) | (simp only [jw_t_I, px_cpt]; omega)) only [pxL0, pxL1, pxL2, pxL3, pxL4, pxL5, pxL6, pxL7, pxL8, pxL9, pxL10, pxL11, pxL12, pxL13, pxL14, pxL15, pxL16, pxL17, pxL18, pxL19, pxL20, pxL21, pxL22, pxL23, pxL24, pxL25, pxL26, pxL27, pxL28, pxL29, pxL30, pxL31, pxL32, pxL33, pxL34, pxL35, pxL36, pxL37, pxL38, pxL39, pxL40, pxL41, pxL42, pxL43, pxL44, pxL45, pxL46, pxL47, pxL48, pxL49, pxL51, pxL57, pxL58, pxL59, pxL60, pxL61, pxL62, pxL63, pxL64, pxL65, pxL66, pxL67, pxL68, pxL69, pxL70, pxL71, pxL72, pxL73, pxL74, pxL75, pxL76, pxL77, pxL78, pxL79, pxL80, pxL81, pxL82, pxL83, pxL84, pxL85, pxL86, pxL87, pxL88, pxL89, pxL90, pxL91, pxL92, pxL93, pxL94, pxL95, pxL96, pxL97, pxL98, pxL99, pxL100, pxL101, pxL102, pxL103, pxL104, pxL105, pxL106, pxL107, pxL108, pxL109, pxL110, pxL111, pxL112, pxL113, pxL114, pxL115, pxL116, pxL117, pxL118, pxL119, pxL120, pxL121, pxL122, pxL123, pxL124, pxL125, pxL126, pxL200, pxL240, pxL287, pxL388, pxL400, pxL429, pxL431, pxL440, pxL1240, pxL1600, pxL1681, pxL12028, pxL13849, pxL14880, pxL25173, pxL26908, pxL49600, pxL65535, pxL65536, ↓reduceIte, reduceCtorEq, pxJ_add, pxJ_sub, pxJ_mul, pxJ_neg, pxD_lt_t, pxD_lt_f, pxD_le_t, pxD_le_f, pxD_eq_t, pxD_eq_f, pxJ_lt, pxJ_le, pxJ_eq, px_gI, px_gR, px_pI, px_rc, px_ai, px_ar, px_si, px_ln, px_cp, pxJ_div, pxJ_b8, pxJ_byte, px_b2, px_bs, px_rb0, px_rb1, px_min, px_max, px_compare, pxW_some, jw_t_I, px_cpt, jw_r_I, px_cpr, jw_l_I, px_cpl, Option.some.injEq, t0, r1, m0, m5, q1, ln, ai, d, w1]
      · rw [if_neg (fun z => d z.2)] at eL
        rw [eL]
        refine ⟨h', ?_, v2, v3⟩
        simp (maxSteps := 4000000) (disch := first | assumption | omega | (simp only [jw_t_I, px_cpt]; done) | (simp only [jw_t_I, px_cpt]; omega)) only [pxL0, pxL1, pxL2, pxL3, pxL4, pxL5, pxL6, pxL7, pxL8, pxL9, pxL10, pxL11, pxL12, pxL13, pxL14, pxL15, pxL16, pxL17, pxL18, pxL19, pxL20, pxL21, pxL22, pxL23, pxL24, pxL25, pxL26, pxL27, pxL28, pxL29, pxL30, pxL31, pxL32, pxL33, pxL34, pxL35, pxL36, pxL37, pxL38, pxL39, pxL40, pxL41, pxL42, pxL43, pxL44, pxL45, pxL46, pxL47, pxL48, pxL49, pxL51, pxL57, pxL58, pxL59, pxL60, pxL61, pxL62, pxL63, pxL64, pxL65, pxL66, pxL67, pxL68, pxL69, pxL70, pxL71, pxL72, pxL73, pxL74, pxL75, pxL76, pxL77, pxL78, pxL79, pxL80, pxL81, pxL82, pxL83, pxL84, pxL85, pxL86, pxL87, pxL88, pxL89, pxL90, pxL91, pxL92, pxL93, pxL94, pxL95, pxL96, pxL97, pxL98, pxL99, pxL100, pxL101, pxL102, pxL103, pxL104, pxL105, pxL106, pxL107, pxL108, pxL109, pxL110, pxL111, pxL112, pxL113, pxL114, pxL115, pxL116, pxL117, pxL118, pxL119, pxL120, pxL121, pxL122, pxL123, pxL124, pxL125, pxL126, pxL200, pxL240, pxL287, pxL388, pxL400, pxL429, pxL431, pxL440, pxL1240, pxL1600, pxL1681, pxL12028, pxL13849, pxL14880, pxL25173, pxL26908, pxL49600, pxL65535, pxL65536, ↓reduceIte, reduceCtorEq, pxJ_add, pxJ_sub, pxJ_mul, pxJ_neg, pxD_lt_t, pxD_lt_f, pxD_le_t, pxD_le_f, pxD_eq_t, pxD_eq_f, pxJ_lt, pxJ_le, pxJ_eq, px_gI, px_gR, px_pI, px_rc, px_ai, px_ar, px_si, px_ln, px_cp, pxJ_div, pxJ_b8, pxJ_byte, px_b2, px_bs, px_rb0, px_rb1, px_min, px_max, px_compare, pxW_some, jw_t_I, px_cpt, jw_r_I, px_cpr, jw_l_I, px_cpl, Option.some.injEq, t0, r1, m0, m5, q1, ln, ai, d, v1]
    · rw [if_neg (fun z => c z.1)] at eL
      rw [eL]
      refine ⟨h', ?_, v2, v3⟩
      simp (maxSteps := 4000000) (disch := first | assumption | omega | (simp only [jw_t_I, px_cpt]; done) | (simp only [jw_t_I, px_cpt]; omega)) only [pxL0, pxL1, pxL2, pxL3, pxL4, pxL5, pxL6, pxL7, pxL8, pxL9, pxL10, pxL11, pxL12, pxL13, pxL14, pxL15, pxL16, pxL17, pxL18, pxL19, pxL20, pxL21, pxL22, pxL23, pxL24, pxL25, pxL26, pxL27, pxL28, pxL29, pxL30, pxL31, pxL32, pxL33, pxL34, pxL35, pxL36, pxL37, pxL38, pxL39, pxL40, pxL41, pxL42, pxL43, pxL44, pxL45, pxL46, pxL47, pxL48, pxL49, pxL51, pxL57, pxL58, pxL59, pxL60, pxL61, pxL62, pxL63, pxL64, pxL65, pxL66, pxL67, pxL68, pxL69, pxL70, pxL71, pxL72, pxL73, pxL74, pxL75, pxL76, pxL77, pxL78, pxL79, pxL80, pxL81, pxL82, pxL83, pxL84, pxL85, pxL86, pxL87, pxL88, pxL89, pxL90, pxL91, pxL92, pxL93, pxL94, pxL95, pxL96, pxL97, pxL98, pxL99, pxL100, pxL101, pxL102, pxL103, pxL104, pxL105, pxL106, pxL107, pxL108, pxL109, pxL110, pxL111, pxL112, pxL113, pxL114, pxL115, pxL116, pxL117, pxL118, pxL119, pxL120, pxL121, pxL122, pxL123, pxL124, pxL125, pxL126, pxL200, pxL240, pxL287, pxL388, pxL400, pxL429, pxL431, pxL440, pxL1240, pxL1600, pxL1681, pxL12028, pxL13849, pxL14880, pxL25173, pxL26908, pxL49600, pxL65535, pxL65536, ↓reduceIte, reduceCtorEq, pxJ_add, pxJ_sub, pxJ_mul, pxJ_neg, pxD_lt_t, pxD_lt_f, pxD_le_t, pxD_le_f, pxD_eq_t, pxD_eq_f, pxJ_lt, pxJ_le, pxJ_eq, px_gI, px_gR, px_pI, px_rc, px_ai, px_ar, px_si, px_ln, px_cp, pxJ_div, pxJ_b8, pxJ_byte, px_b2, px_bs, px_rb0, px_rb1, px_min, px_max, px_compare, pxW_some, jw_t_I, px_cpt, jw_r_I, px_cpr, jw_l_I, px_cpl, Option.some.injEq, t0, r1, m0, m5, v1]
theorem s_X2_shiftAhead {h : jw_H} {w : List Int} {n : Int} (n0 : 0 ≤ n) (n1 : n ≤ 1000) (B : pxBu h w) (T : pxMT h r) :
    ∃ h', f_X2_shiftAhead h 536 (pxJ n) = some ((), h') ∧ pxF pxQc h h' ∧ pxBu h' (w ++ pxSl r (pxLd r n.toNat 0) r.length) :=
  s_X2_shiftAhead_b4 n1 n.toNat jw_FU h w 0 (by omega) (by unfold jw_FU; omega) (by omega) (by omega) B T
theorem s_X2_turn_b46 {k2 : jw_H → Nat → Option Nat → Int32 → Option (Unit × jw_H)} {h : jw_H} {oo : Nat} {fr to n c : Int} {x2 : Int32} (t0 : (jw_t h 536).1 = 2) (r0 : jw_r h 536 0 = some 10) (t5 : (jw_t h oo).1 = 5) (G : pxPG h b s) (f7 : pxM h oo 7 = fr) (f8 : pxM h oo 8 = to) (a0 : 0 ≤ fr) (a1 : fr ≤ 1000) (b0 : 0 ≤ to) (b1 : to ≤ 1000) (n1 : n ≤ 1000) (c0 : -1000 ≤ c) (c1 : c ≤ 1000) : ∀ (m N : Nat), (m : Int) ≤ n → m < N →
    f_X2_turn_b46 k2 N h 536 (some oo) x2 (pxJ c) (pxJ (pxTc s fr to c (n - m).toNat m)) (pxJ (m - 1)) = jw_b2 (f_X2_append h 536 (pxJ (pxTc s fr to c n.toNat 0))) fun _ h3 => k2 h3 536 (some oo) (x2 + 1) := by
  intro m
  have n60 := G.2.2.2.2.1.1
  have tg := G.1.1
  induction m with
  | zero =>
    intro N mn hN
    obtain ⟨N, rfl, hN⟩ := px_fu hN
    rw [u_X2_turn_b46]
    unfold g_X2_turn_b46
    rw [show (n - ((0 : Nat) : Int)).toNat = n.toNat by omega, show (((0 : Nat) : Int) - 1) = -1 from rfl, show (((0 : Nat) : Int)) = 0 from rfl]
    simp (maxSteps := 4000000) (disch := first | assumption | omega | (simp only [jw_t_I, px_cpt]; done) | (simp only [jw_t_I, px_cpt]; omega)) only [pxL0, pxL1, pxL2, pxL3, pxL4, pxL5, pxL6, pxL7, pxL8, pxL9, pxL10, pxL11, pxL12, pxL13, pxL14, pxL15, pxL16, pxL17, pxL18, pxL19, pxL20, pxL21, pxL22, pxL23, pxL24, pxL25, pxL26, pxL27, pxL28, pxL29, pxL30, pxL31, pxL32, pxL33, pxL34, pxL35, pxL36, pxL37, pxL38, pxL39, pxL40, pxL41, pxL42, pxL43, pxL44, pxL45, pxL46, pxL47, pxL48, pxL49, pxL51, pxL57, pxL58, pxL59, pxL60, pxL61, pxL62, pxL63, pxL64, pxL65, pxL66, pxL67, pxL68, pxL69, pxL70, pxL71, pxL72, pxL73, pxL74, pxL75, pxL76, pxL77, pxL78, pxL79, pxL80, pxL81, pxL82, pxL83, pxL84, pxL85, pxL86, pxL87, pxL88, pxL89, pxL90, pxL91, pxL92, pxL93, pxL94, pxL95, pxL96, pxL97, pxL98, pxL99, pxL100, pxL101, pxL102, pxL103, pxL104, pxL105, pxL106, pxL107, pxL108, pxL109, pxL110, pxL111, pxL112, pxL113, pxL114, pxL115, pxL116, pxL117, pxL118, pxL119, pxL120, pxL121, pxL122, pxL123, pxL124, pxL125, pxL126, pxL200, pxL240, pxL287, pxL388, pxL400, pxL429, pxL431, pxL440, pxL1240, pxL1600, pxL1681, pxL12028, pxL13849, pxL14880, pxL25173, pxL26908, pxL49600, pxL65535, pxL65536, ↓reduceIte, reduceCtorEq, pxJ_add, pxJ_sub, pxJ_mul, pxJ_neg, pxD_lt_t, pxD_lt_f, pxD_le_t, pxD_le_f, pxD_eq_t, pxD_eq_f, pxJ_lt, pxJ_le, pxJ_eq, px_gI, px_gR, px_pI, px_rc, px_ai, px_ar, px_si, px_ln, px_cp, pxJ_div, pxJ_b8, pxJ_byte, px_b2, px_bs, px_rb0, px_rb1, px_min, px_max, px_compare, pxW_some, jw_t_I, px_cpt, jw_r_I, px_cpr, jw_l_I, px_cpl, Option.some.injEq, t0]
  | succ m ih =>
    intro N mn hN
    obtain ⟨N, rfl, hN⟩ := px_fu hN
    have g1 := s_X6_signAt G (x := fr + m) (by omega) (by omega)
    have g2 := s_X6_signAt G (x := to + m) (by omega) (by omega)
    have h1 := pxP_in G.2.2.2.2.1 (fr + m)
    have h2 := pxP_in G.2.2.2.2.1 (to + m)
    have e1 : (((m + 1 : Nat) : Int) - 1) = m := by omega
    have e2 : (n - ((m : Nat) : Int)).toNat = (n - ((m + 1 : Nat) : Int)).toNat + 1 := by omega
    have e3 : (((m + 1 : Nat) : Int)) = (m : Int) + 1 := by omega
    have ihm := ih N (by omega) (by omega)
    have st : pxTc s fr to c (n - ((m : Nat) : Int)).toNat m = if pxP s (fr + m) = c then pxP s (to + m) else pxTc s fr to c (n - ((m + 1 : Nat) : Int)).toNat ((m : Int) + 1) := by rw [e2]; rfl
    rw [st] at ihm
    rw [u_X2_turn_b46, ← ihm, e1, e3]
    unfold g_X2_turn_b46 g_X2_turn_b85
    rw [show ((m : Int) - 1) = (m : Int) + -1 by omega]
    by_cases d : pxP s (fr + m) = c
    · rw [if_pos d]
      simp (maxSteps := 4000000) (disch := first | assumption | omega | (simp only [jw_t_I, px_cpt]; done) | (simp only [jw_t_I, px_cpt]; omega)) only [pxL0, pxL1, pxL2, pxL3, pxL4, pxL5, pxL6, pxL7, pxL8, pxL9, pxL10, pxL11, pxL12, pxL13, pxL14, pxL15, pxL16, pxL17, pxL18, pxL19, pxL20, pxL21, pxL22, pxL23, pxL24, pxL25, pxL26, pxL27, pxL28, pxL29, pxL30, pxL31, pxL32, pxL33, pxL34, pxL35, pxL36, pxL37, pxL38, pxL39, pxL40, pxL41, pxL42, pxL43, pxL44, pxL45, pxL46, pxL47, pxL48, pxL49, pxL51, pxL57, pxL58, pxL59, pxL60, pxL61, pxL62, pxL63, pxL64, pxL65, pxL66, pxL67, pxL68, pxL69, pxL70, pxL71, pxL72, pxL73, pxL74, pxL75, pxL76, pxL77, pxL78, pxL79, pxL80, pxL81, pxL82, pxL83, pxL84, pxL85, pxL86, pxL87, pxL88, pxL89, pxL90, pxL91, pxL92, pxL93, pxL94, pxL95, pxL96, pxL97, pxL98, pxL99, pxL100, pxL101, pxL102, pxL103, pxL104, pxL105, pxL106, pxL107, pxL108, pxL109, pxL110, pxL111, pxL112, pxL113, pxL114, pxL115, pxL116, pxL117, pxL118, pxL119, pxL120, pxL121, pxL122, pxL123, pxL124, pxL125, pxL126, pxL200, pxL240, pxL287, pxL388, pxL400, pxL429, pxL431, pxL440, pxL1240, pxL1600, pxL1681, pxL12028, pxL13849, pxL14880, pxL25173, pxL26908, pxL49600, pxL65535, pxL65536, ↓reduceIte, reduceCtorEq, pxJ_add, pxJ_sub, pxJ_mul, pxJ_neg, pxD_lt_t, pxD_lt_f, pxD_le_t, pxD_le_f, pxD_eq_t, pxD_eq_f, pxJ_lt, pxJ_le, pxJ_eq, px_gI, px_gR, px_pI, px_rc, px_ai, px_ar, px_si, px_ln, px_cp, pxJ_div, pxJ_b8, pxJ_byte, px_b2, px_bs, px_rb0, px_rb1, px_min, px_max, px_compare, pxW_some, jw_t_I, px_cpt, jw_r_I, px_cpr, jw_l_I, px_cpl, Option.some.injEq, t0, r0, tg, f7, f8, g1, g2, d]
    · rw [if_neg d]
      simp (maxSteps := 4000000) (disch := first | assumption | omega | (simp only [jw_t_I, px_cpt]; done) | (simp only [jw_t_I, px_cpt]; omega)) only [pxL0, pxL1, pxL2, pxL3, pxL4, pxL5, pxL6, pxL7, pxL8, pxL9, pxL10, pxL11, pxL12, pxL13, pxL14, pxL15, pxL16, pxL17, pxL18, pxL19, pxL20, pxL21, pxL22, pxL23, pxL24, pxL25, pxL26, pxL27, pxL28, pxL29, pxL30, pxL31, pxL32, pxL33, pxL34, pxL35, pxL36, pxL37, pxL38, pxL39, pxL40, pxL41, pxL42, pxL43, pxL44, pxL45, pxL46, pxL47, pxL48, pxL49, pxL51, pxL57, pxL58, pxL59, pxL60, pxL61, pxL62, pxL63, pxL64, pxL65, pxL66, pxL67, pxL68, pxL69, pxL70, pxL71, pxL72, pxL73, pxL74, pxL75, pxL76, pxL77, pxL78, pxL79, pxL80, pxL81, pxL82, pxL83, pxL84, pxL85, pxL86, pxL87, pxL88, pxL89, pxL90, pxL91, pxL92, pxL93, pxL94, pxL95, pxL96, pxL97, pxL98, pxL99, pxL100, pxL101, pxL102, pxL103, pxL104, pxL105, pxL106, pxL107, pxL108, pxL109, pxL110, pxL111, pxL112, pxL113, pxL114, pxL115, pxL116, pxL117, pxL118, pxL119, pxL120, pxL121, pxL122, pxL123, pxL124, pxL125, pxL126, pxL200, pxL240, pxL287, pxL388, pxL400, pxL429, pxL431, pxL440, pxL1240, pxL1600, pxL1681, pxL12028, pxL13849, pxL14880, pxL25173, pxL26908, pxL49600, pxL65535, pxL65536, ↓reduceIte, reduceCtorEq, pxJ_add, pxJ_sub, pxJ_mul, pxJ_neg, pxD_lt_t, pxD_lt_f, pxD_le_t, pxD_le_f, pxD_eq_t, pxD_eq_f, pxJ_lt, pxJ_le, pxJ_eq, px_gI, px_gR, px_pI, px_rc, px_ai, px_ar, px_si, px_ln, px_cp, pxJ_div, pxJ_b8, pxJ_byte, px_b2, px_bs, px_rb0, px_rb1, px_min, px_max, px_compare, pxW_some, jw_t_I, px_cpt, jw_r_I, px_cpr, jw_l_I, px_cpl, Option.some.injEq, t0, r0, tg, f7, f8, g1, g2]
theorem s_X2_turn_b2 {oo : Nat} {fr to n : Int} (hb : b < 10) (ho : oo < 252) (a0 : 0 ≤ fr) (a1 : fr ≤ 1000) (b0 : 0 ≤ to) (b1 : to ≤ 1000) (n0 : 0 ≤ n) (n1 : n ≤ 1000) (Hc : ∀ j, 0 ≤ j → j < n → pxIsCh (pxP s (to + j)) = true) : ∀ (m N : Nat) (h : jw_H) (w : List Int) (x : Int), x + m = r.length → m < N → 0 ≤ x → pxBu h w → pxMT h r → pxPG h b s → (jw_t h oo).1 = 5 → pxM h oo 5 = n → pxM h oo 7 = fr → pxM h oo 8 = to →
    ∃ h', f_X2_turn_b2 N h 536 (some oo) (pxJ x) = some ((), h') ∧ pxF pxQc h h' ∧ pxBu h' (w ++ (r.drop x.toNat).map (fun c => pxTc s fr to c n.toNat 0)) := by
  intro m
  induction m with
  | zero =>
    intro N h w x em hN x0 B T G t5 f5 f7 f8
    obtain ⟨N, rfl, hN⟩ := px_fu hN
    have t0 := B.1.1
    have r1 := B.1.2.2.1
    have m0 := T.1.1
    have m5 := T.2.2.1
    have l30 := T.2.1.1
    refine ⟨h, ?_, pxF.rfl, ?_⟩
    · rw [u_X2_turn_b2]
      unfold g_X2_turn_b2
      simp (maxSteps := 4000000) (disch := first | assumption | omega | (simp only [jw_t_I, px_cpt]; done) | (simp only [jw_t_I, px_cpt]; omega)) only [pxL0, pxL1, pxL2, pxL3, pxL4, pxL5, pxL6, pxL7, pxL8, pxL9, pxL10, pxL11, pxL12, pxL13, pxL14, pxL15, pxL16, pxL17, pxL18, pxL19, pxL20, pxL21, pxL22, pxL23, pxL24, pxL25, pxL26, pxL27, pxL28, pxL29, pxL30, pxL31, pxL32, pxL33, pxL34, pxL35, pxL36, pxL37, pxL38, pxL39, pxL40, pxL41, pxL42, pxL43, pxL44, pxL45, pxL46, pxL47, pxL48, pxL49, pxL51, pxL57, pxL58, pxL59, pxL60, pxL61, pxL62, pxL63, pxL64, pxL65, pxL66, pxL67, pxL68, pxL69, pxL70, pxL71, pxL72, pxL73, pxL74, pxL75, pxL76, pxL77, pxL78, pxL79, pxL80, pxL81, pxL82, pxL83, pxL84, pxL85, pxL86, pxL87, pxL88, pxL89, pxL90, pxL91, pxL92, pxL93, pxL94, pxL95, pxL96, pxL97, pxL98, pxL99, pxL100, pxL101, pxL102, pxL103, pxL104, pxL105, pxL106, pxL107, pxL108, pxL109, pxL110, pxL111, pxL112, pxL113, pxL114, pxL115, pxL116, pxL117, pxL118, pxL119, pxL120, pxL121, pxL122, pxL123, pxL124, pxL125, pxL126, pxL200, pxL240, pxL287, pxL388, pxL400, pxL429, pxL431, pxL440, pxL1240, pxL1600, pxL1681, pxL12028, pxL13849, pxL14880, pxL25173, pxL26908, pxL49600, pxL65535, pxL65536, ↓reduceIte, reduceCtorEq, pxJ_add, pxJ_sub, pxJ_mul, pxJ_neg, pxD_lt_t, pxD_lt_f, pxD_le_t, pxD_le_f, pxD_eq_t, pxD_eq_f, pxJ_lt, pxJ_le, pxJ_eq, px_gI, px_gR, px_pI, px_rc, px_ai, px_ar, px_si, px_ln, px_cp, pxJ_div, pxJ_b8, pxJ_byte, px_b2, px_bs, px_rb0, px_rb1, px_min, px_max, px_compare, pxW_some, jw_t_I, px_cpt, jw_r_I, px_cpr, jw_l_I, px_cpl, Option.some.injEq, t0, r1, m0, m5]
    · rw [List.drop_of_length_le (by omega)]
      simpa using B
  | succ m ih =>
    intro N h w x em hN x0 B T G t5 f5 f7 f8
    obtain ⟨N, rfl, hN⟩ := px_fu hN
    have t0 := B.1.1
    have r0 := B.1.2.1
    have r1 := B.1.2.2.1
    obtain ⟨⟨m0, q0, q1, q2, q3, q4, t532, t533, t534, t535⟩, okr, m5, mr⟩ := T
    have T : pxMT h r := ⟨⟨m0, q0, q1, q2, q3, q4, t532, t533, t534, t535⟩, okr, m5, mr⟩
    have l30 := okr.1
    have ln : jw_ln h (some 532) = some (pxJ 30) := by rw [px_ln (by rw [t532]; simp), t532]; rfl
    have ai : jw_ai h 21 (some 532) (pxJ x) = some (pxJ (pxE r x)) := by rw [px_ai (by rw [t532]) x0 (by rw [t532]; show x < ((30 : Nat) : Int); omega) (by omega), (mr x x0 (by omega)).1]
    have ch0 := pxE_ch okr x0 (show x < r.length by omega)
    have ch := pxCh_in ch0
    obtain ⟨h1, v1, v2, v3⟩ := s_X2_append B (pxTc_ch ch0 (fr := fr) n.toNat 0 (fun j j0 j1 => Hc j j0 (by omega)))
    have hx : ∀ {k f : Nat}, k < 252 → pxM h1 k f = pxM h k f := fun q => v2.m (by unfold pxQc; omega)
    obtain ⟨h2, w1, w2, w3⟩ := ih N h1 _ (x + 1) (by omega) (by omega) (by omega) v3 (T.fc v2) (G.fb hb v2 (fun k f z => by unfold pxQc; omega)) (by rw [v2.t]; exact t5) (by rw [hx ho]; exact f5) (by rw [hx ho]; exact f7) (by rw [hx ho]; exact f8)
    have lp := s_X2_turn_b46 (k2 := f_X2_turn_b2 N) (c := pxE r x) (x2 := pxJ x) (n := n) t0 r0 t5 G f7 f8 a0 a1 b0 b1 n1 (by omega) (by omega) n.toNat jw_FU (by omega) (by unfold jw_FU; omega)
    rw [show (n - ((n.toNat : Nat) : Int)).toNat = 0 by omega, show ((n.toNat : Nat) : Int) = n by omega] at lp
    have e0 : pxTc s fr to (pxE r x) 0 n = pxE r x := rfl
    rw [e0, show (1 : Int32) = pxJ 1 from rfl, pxJ_add, v1] at lp
    refine ⟨h2, ?_, v2.trans w2, ?_⟩
    · rw [u_X2_turn_b2]
      unfold g_X2_turn_b2
      simp (maxSteps := 4000000) (disch := first | assumption | omega | (simp only [jw_t_I, px_cpt]; done) | (simp only [jw_t_I, px_cpt]; omega)) only [pxL0, pxL1, pxL2, pxL3, pxL4, pxL5, pxL6, pxL7, pxL8, pxL9, pxL10, pxL11, pxL12, pxL13, pxL14, pxL15, pxL16, pxL17, pxL18, pxL19, pxL20, pxL21, pxL22, pxL23, pxL24, pxL25, pxL26, pxL27, pxL28, pxL29, pxL30, pxL31, pxL32, pxL33, pxL34, pxL35, pxL36, pxL37, pxL38, pxL39, pxL40, pxL41, pxL42, pxL43, pxL44, pxL45, pxL46, pxL47, pxL48, pxL49, pxL51, pxL57, pxL58, pxL59, pxL60, pxL61, pxL62, pxL63, pxL64, pxL65, pxL66, pxL67, pxL68, pxL69, pxL70, pxL71, pxL72, pxL73, pxL74, pxL75, pxL76, pxL77, pxL78, pxL79, pxL80, pxL81, pxL82, pxL83, pxL84, pxL85, pxL86, pxL87, pxL88, pxL89, pxL90, pxL91, pxL92, pxL93, pxL94, pxL95, pxL96, pxL97, pxL98, pxL99, pxL100, pxL101, pxL102, pxL103, pxL104, pxL105, pxL106, pxL107, pxL108, pxL109, pxL110, pxL111, pxL112, pxL113, pxL114, pxL115, pxL116, pxL117, pxL118, pxL119, pxL120, pxL121, pxL122, pxL123, pxL124, pxL125, pxL126, pxL200, pxL240, pxL287, pxL388, pxL400, pxL429, pxL431, pxL440, pxL1240, pxL1600, pxL1681, pxL12028, pxL13849, pxL14880, pxL25173, pxL26908, pxL49600, pxL65535, pxL65536, ↓reduceIte, reduceCtorEq, pxJ_add, pxJ_sub, pxJ_mul, pxJ_neg, pxD_lt_t, pxD_lt_f, pxD_le_t, pxD_le_f, pxD_eq_t, pxD_eq_f, pxJ_lt, pxJ_le, pxJ_eq, px_gI, px_gR, px_pI, px_rc, px_ai, px_ar, px_si, px_ln, px_cp, pxJ_div, pxJ_b8, pxJ_byte, px_b2, px_bs, px_rb0, px_rb1, px_min, px_max, px_compare, pxW_some, jw_t_I, px_cpt, jw_r_I, px_cpr, jw_l_I, px_cpl, Option.some.injEq, t0, r1, m0, m5, q1, ln, ai, f5]
      rw [lp]
      exact w1
    · rw [pxE_drop x0 (by omega), List.map_cons]
      rw [List.append_assoc] at w3
      exact w3
theorem s_X2_turn {h : jw_H} {w : List Int} {oo : Nat} {fr to n : Int} (hb : b < 10) (ho : oo < 252) (a0 : 0 ≤ fr) (a1 : fr ≤ 1000) (b0 : 0 ≤ to) (b1 : to ≤ 1000) (n0 : 0 ≤ n) (n1 : n ≤ 1000) (Hc : ∀ j, 0 ≤ j → j < n → pxIsCh (pxP s (to + j)) = true) (B : pxBu h w) (T : pxMT h r) (G : pxPG h b s) (t5 : (jw_t h oo).1 = 5) (f5 : pxM h oo 5 = n) (f7 : pxM h oo 7 = fr) (f8 : pxM h oo 8 = to) :
    ∃ h', f_X2_turn h 536 (some oo) = some ((), h') ∧ pxF pxQc h h' ∧ pxBu h' (w ++ r.map (fun c => pxTc s fr to c n.toNat 0)) :=
  s_X2_turn_b2 hb ho a0 a1 b0 b1 n0 n1 Hc r.length jw_FU h w 0 (by omega) (by have := T.2.1.1; unfold jw_FU; omega) (by omega) B T G t5 f5 f7 f8
end
