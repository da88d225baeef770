/-! orders over the whole: rows that are told, files read, rows exchanged -/
theorem pxTold_len {s : List Int} : ∀ (m : Nat) (p : Int), 0 ≤ p → p ≤ s.length → ((pxTold s m p).length : Int) ≤ s.length - p + 1
  | 0, p, h0, h1 => by show (0 : Int) ≤ _; omega
  | m + 1, p, h0, h1 => by
    have sl := pxSpan_le (s := s) h0 h1
    by_cases c : pxP s (p + (pxSpan s p).length) = 124
    · have lt := pxP_lt (s := s) (p := p + (pxSpan s p).length) (by omega)
      have := pxTold_len (s := s) m (p + (pxSpan s p).length + 1) (by omega) (by omega)
      unfold pxTold
      rw [if_pos c, List.length_cons]
      omega
    · unfold pxTold
      rw [if_neg c]
      show (1 : Int) ≤ _
      omega
section
variable {b : Nat} {s : List Int}
theorem s_X6_rowsOf_b16 {oo ρ cap : Nat} (hb : b < 10) (ho : oo < 252) (hρ : 253 < ρ) (c60 : 60 ≤ cap) : ∀ (M2 N M1 : Nat) (h : jw_H) (fr : Int) (rs : List (List Int)), s.length < fr + M2 → s.length < fr + M1 → s.length + 1 < fr + N → 0 ≤ fr → fr ≤ s.length → (pxRowsE s M1 0 fr).1 = true → pxM h oo 8 = (pxRowsE s M1 0 fr).2 → rs.length + (s.length - fr + 1) ≤ (60 : Int) → pxPG h b s → (jw_t h oo).1 = 5 → pxIR h ρ cap rs →
    pxW (f_X6_rowsOf_b16 N h 10 (some oo) (some ρ) (pxJ fr) (pxJ fr)) fun _ h' => pxF (pxC ρ (ρ + 2)) h h' ∧ pxIR h' ρ cap (rs ++ pxTold s M2 fr) := by
  intro M2
  induction M2 with
  | zero => intro N M1 h fr rs hm _ _ h0 h1; omega
  | succ M2 ih =>
    intro N M1 h fr rs hm hm1 hN h0 h1 hok f8 hl G t5 R
    have n60 := G.2.2.2.2.1.1
    have tg := G.1.1
    have r3 := G.2.1
    have sl := pxSpan_le (s := s) h0 h1
    generalize hn : (pxSpan s fr).length = n at sl
    obtain ⟨sE, eE⟩ := pxRowsE_s n M1 0 fr hn h0 (by omega) (by omega) (by omega) hok
    rw [eE] at hok f8
    generalize hU : (if pxP s (fr + n) = 124 then pxRowsE s (M1 - n - 1) 0 (fr + n + 1) else (true, fr + n)).2 = U at f8
    have Ub : fr + n ≤ U ∧ U ≤ s.length ∧ (pxP s (fr + n) = 124 → fr + n + 1 ≤ U) ∧ (¬ pxP s (fr + n) = 124 → U = fr + n) := by
      rw [← hU]
      by_cases c : pxP s (fr + n) = 124
      · have lt := pxP_lt (s := s) (p := fr + n) (by omega)
        have := pxRowsE_b (s := s) (M1 - n - 1) 0 (fr + n + 1) (by omega) (by omega)
        rw [if_pos c]; exact ⟨by omega, by omega, fun _ => by omega, fun z => absurd c z⟩
      · rw [if_neg c]; exact ⟨by dsimp only; omega, by dsimp only; omega, fun z => absurd z c, fun _ => rfl⟩
    obtain ⟨U0, U1, U2, U3⟩ := Ub
    -- to the row's end
    have scan : ∀ (m K : Nat) (x : Int), x + m = fr + n → m < K → fr ≤ x → f_X6_rowsOf_b16 K h 10 (some oo) (some ρ) (pxJ fr) (pxJ x) = f_X6_rowsOf_b16 (K - m) h 10 (some oo) (some ρ) (pxJ fr) (pxJ (fr + n)) := by
      intro m
      induction m with
      | zero =>
        intro K x ex hK fx
        rw [show x = fr + n by omega, Nat.sub_zero]
      | succ m ihm =>
        intro K x ex hK fx
        obtain ⟨K, rfl, hK⟩ := px_fu hK
        obtain ⟨-, ch⟩ := pxSpan_at (s := s) (p := fr) (y := x - fr) h0 (by omega) (by omega)
        rw [show fr + (x - fr) = x by omega] at ch
        have ch' := pxIsCh_i.mp ch
        have sg := s_X6_signAt G (x := x) (by omega) (by omega)
        rw [show K + 1 - (m + 1) = K - m by omega, ← ihm K (x + 1) (by omega) (by omega) (by omega), u_X6_rowsOf_b16]
        unfold g_X6_rowsOf_b16 g_X6_rowsOf_b71
        clear ih eE hU hok
        simp (maxSteps := 4000000) (disch := first | assumption | omega | (simp only [jw_t_I, px_cpt]; done) | (simp only [jw_t_I, px_cpt]; omega)) only [pxL0, pxL1, pxL2, pxL3, pxL4, pxL5, pxL6, pxL7, pxL8, pxL9, pxL10, pxL11, pxL12, pxL13, pxL14, pxL15, pxL16, pxL17, pxL18, pxL19, pxL20, pxL21, pxL22, pxL23, pxL24, pxL25, pxL26, pxL27, pxL28, pxL29, pxL30, pxL31, pxL32, pxL33, pxL34, pxL35, pxL36, pxL37, pxL38, pxL39, pxL40, pxL41, pxL42, pxL43, pxL44, pxL45, pxL46, pxL47, pxL48, pxL49, pxL51, pxL57, pxL58, pxL59, pxL60, pxL61, pxL62, pxL63, pxL64, pxL65, pxL66, pxL67, pxL68, pxL69, pxL70, pxL71, pxL72, pxL73, pxL74, pxL75, pxL76, pxL77, pxL78, pxL79, pxL80, pxL81, pxL82, pxL83, pxL84, pxL85, pxL86, pxL87, pxL88, pxL89, pxL90, pxL91, pxL92, pxL93, pxL94, pxL95, pxL96, pxL97, pxL98, pxL99, pxL100, pxL101, pxL102, pxL103, pxL104, pxL105, pxL106, pxL107, pxL108, pxL109, pxL110, pxL111, pxL112, pxL113, pxL114, pxL115, pxL116, pxL117, pxL118, pxL119, pxL120, pxL121, pxL122, pxL123, pxL124, pxL125, pxL126, pxL200, pxL240, pxL287, pxL388, pxL400, pxL429, pxL431, pxL440, pxL1240, pxL1600, pxL1681, pxL12028, pxL13849, pxL14880, pxL25173, pxL26908, pxL49600, pxL65535, pxL65536, ↓reduceIte, reduceCtorEq, pxJ_add, pxJ_sub, pxJ_mul, pxJ_neg, pxD_lt_t, pxD_lt_f, pxD_le_t, pxD_le_f, pxD_eq_t, pxD_eq_f, pxJ_lt, pxJ_le, pxJ_eq, px_gI, px_gR, px_pI, px_rc, px_ai, px_ar, px_si, px_ln, px_cp, pxJ_div, pxJ_b8, pxJ_byte, px_b2, px_bs, px_rb0, px_rb1, px_min, px_max, px_compare, pxW_some, jw_t_I, px_cpt, jw_r_I, px_cpr, jw_l_I, px_cpl, Option.some.injEq, f8, tg, sg]
    rw [scan n N fr (by omega) (by omega) (by omega)]
    obtain ⟨K, eK⟩ : ∃ K, N - n = K + 1 := ⟨N - n - 1, by omega⟩
    rw [eK, u_X6_rowsOf_b16]
    have by' := G.ta.by h0 h1 (show (pxSpan s fr).length ≤ 30 by omega)
    have K1 := s_X7_add R by'
    rw [hn, if_pos (by omega), if_pos (by omega)] at K1
    have t7 := R.1.1
    have en : fr + (n : Int) - fr = n := by omega
    have eT : pxTold s (M2 + 1) fr = pxSpan s fr :: (if pxP s (fr + n) = 124 then pxTold s M2 (fr + n + 1) else []) := by
      show (pxSpan s fr :: (if pxP s (fr + ((pxSpan s fr).length : Int)) = 124 then pxTold s M2 (fr + ((pxSpan s fr).length : Int) + 1) else [])) = _
      rw [hn]
    by_cases c : pxP s (fr + n) = 124
    · have U2' := U2 c
      have lt := pxP_lt (s := s) (p := fr + n) (by omega)
      have sg := s_X6_signAt G (x := fr + n) (by omega) (by omega)
      rw [c] at sg
      rw [if_pos c] at eT hU hok
      rw [eT]
      have st : g_X6_rowsOf_b16 (f_X6_rowsOf_b16 K) h 10 (some oo) (some ρ) (pxJ fr) (pxJ (fr + n)) = jw_b2 (f_X7_add h ρ (some b) (pxJ fr) (pxJ n)) fun _ h3 => f_X6_rowsOf_b16 K h3 10 (some oo) (some ρ) (pxJ (fr + n + 1)) (pxJ (fr + n + 1)) := by
        clear ih eE hU hok scan by' K1 eT
        unfold g_X6_rowsOf_b16 g_X6_rowsOf_b52 g_X6_rowsOf_b71
        simp (maxSteps := 4000000) (disch := first | assumption | omega | (simp only [jw_t_I, px_cpt]; done) | (simp only [jw_t_I, px_cpt]; omega)) only [pxL0, pxL1, pxL2, pxL3, pxL4, pxL5, pxL6, pxL7, pxL8, pxL9, pxL10, pxL11, pxL12, pxL13, pxL14, pxL15, pxL16, pxL17, pxL18, pxL19, pxL20, pxL21, pxL22, pxL23, pxL24, pxL25, pxL26, pxL27, pxL28, pxL29, pxL30, pxL31, pxL32, pxL33, pxL34, pxL35, pxL36, pxL37, pxL38, pxL39, pxL40, pxL41, pxL42, pxL43, pxL44, pxL45, pxL46, pxL47, pxL48, pxL49, pxL51, pxL57, pxL58, pxL59, pxL60, pxL61, pxL62, pxL63, pxL64, pxL65, pxL66, pxL67, pxL68, pxL69, pxL70, pxL71, pxL72, pxL73, pxL74, pxL75, pxL76, pxL77, pxL78, pxL79, pxL80, pxL81, pxL82, pxL83, pxL84, pxL85, pxL86, pxL87, pxL88, pxL89, pxL90, pxL91, pxL92, pxL93, pxL94, pxL95, pxL96, pxL97, pxL98, pxL99, pxL100, pxL101, pxL102, pxL103, pxL104, pxL105, pxL106, pxL107, pxL108, pxL109, pxL110, pxL111, pxL112, pxL113, pxL114, pxL115, pxL116, pxL117, pxL118, pxL119, pxL120, pxL121, pxL122, pxL123, pxL124, pxL125, pxL126, pxL200, pxL240, pxL287, pxL388, pxL400, pxL429, pxL431, pxL440, pxL1240, pxL1600, pxL1681, pxL12028, pxL13849, pxL14880, pxL25173, pxL26908, pxL49600, pxL65535, pxL65536, ↓reduceIte, reduceCtorEq, pxJ_add, pxJ_sub, pxJ_mul, pxJ_neg, pxD_lt_t, pxD_lt_f, pxD_le_t, pxD_le_f, pxD_eq_t, pxD_eq_f, pxJ_lt, pxJ_le, pxJ_eq, px_gI, px_gR, px_pI, px_rc, px_ai, px_ar, px_si, px_ln, px_cp, pxJ_div, pxJ_b8, pxJ_byte, px_b2, px_bs, px_rb0, px_rb1, px_min, px_max, px_compare, pxW_some, jw_t_I, px_cpt, jw_r_I, px_cpr, jw_l_I, px_cpl, Option.some.injEq, f8, tg, sg, r3, t7, en]
      rw [st]
      refine pxW_b2 K1 fun q h1' k => ?_
      obtain ⟨F1, -, R1⟩ := k
      refine (ih K (M1 - n - 1) h1' (fr + n + 1) (rs ++ [pxSpan s fr]) (by omega) (by omega) (by omega) (by omega) (by omega) hok (by rw [F1.m (by unfold pxC; omega), f8, hU]) (by rw [List.length_append, List.length_singleton]; omega) (G.fb hb F1 (fun k f z => by unfold pxC; omega)) (by rw [F1.t]; exact t5) R1).mono fun _ h' k => ⟨F1.trans k.1, ?_⟩
      have := k.2
      rw [List.append_assoc] at this
      exact this
    · have U3' := U3 c
      rw [if_neg c] at eT
      rw [eT]
      obtain ⟨K, rfl⟩ : ∃ K', K = K' + 1 := ⟨K - 1, by omega⟩
      clear ih eE hU hok scan by'
      unfold g_X6_rowsOf_b16 g_X6_rowsOf_b52 g_X6_rowsOf_b71
      simp (maxSteps := 4000000) (disch := first | assumption | omega | (simp only [jw_t_I, px_cpt]; done) | (simp only [jw_t_I, px_cpt]; omega)) only [pxL0, pxL1, pxL2, pxL3, pxL4, pxL5, pxL6, pxL7, pxL8, pxL9, pxL10, pxL11, pxL12, pxL13, pxL14, pxL15, pxL16, pxL17, pxL18, pxL19, pxL20, pxL21, pxL22, pxL23, pxL24, pxL25, pxL26, pxL27, pxL28, pxL29, pxL30, pxL31, pxL32, pxL33, pxL34, pxL35, pxL36, pxL37, pxL38, pxL39, pxL40, pxL41, pxL42, pxL43, pxL44, pxL45, pxL46, pxL47, pxL48, pxL49, pxL51, pxL57, pxL58, pxL59, pxL60, pxL61, pxL62, pxL63, pxL64, pxL65, pxL66, pxL67, pxL68, pxL69, pxL70, pxL71, pxL72, pxL73, pxL74, pxL75, pxL76, pxL77, pxL78, pxL79, pxL80, pxL81, pxL82, pxL83, pxL84, pxL85, pxL86, pxL87, pxL88, pxL89, pxL90, pxL91, pxL92, pxL93, pxL94, pxL95, pxL96, pxL97, pxL98, pxL99, pxL100, pxL101, pxL102, pxL103, pxL104, pxL105, pxL106, pxL107, pxL108, pxL109, pxL110, pxL111, pxL112, pxL113, pxL114, pxL115, pxL116, pxL117, pxL118, pxL119, pxL120, pxL121, pxL122, pxL123, pxL124, pxL125, pxL126, pxL200, pxL240, pxL287, pxL388, pxL400, pxL429, pxL431, pxL440, pxL1240, pxL1600, pxL1681, pxL12028, pxL13849, pxL14880, pxL25173, pxL26908, pxL49600, pxL65535, pxL65536, ↓reduceIte, reduceCtorEq, pxJ_add, pxJ_sub, pxJ_mul, pxJ_neg, pxD_lt_t, pxD_lt_f, pxD_le_t, pxD_le_f, pxD_eq_t, pxD_eq_f, pxJ_lt, pxJ_le, pxJ_eq, px_gI, px_gR, px_pI, px_rc, px_ai, px_ar, px_si, px_ln, px_cp, pxJ_div, pxJ_b8, pxJ_byte, px_b2, px_bs, px_rb0, px_rb1, px_min, px_max, px_compare, pxW_some, jw_t_I, px_cpt, jw_r_I, px_cpr, jw_l_I, px_cpl, Option.some.injEq, f8, U3', tg, r3, t7, en]
      refine pxW_b2 K1 fun q h1' k => ?_
      obtain ⟨F1, -, R1⟩ := k
      have f81 : pxM h1' oo 8 = fr + n := by rw [F1.m (by unfold pxC; omega), f8, U3']
      have t51 : (jw_t h1' oo).1 = 5 := by rw [F1.t]; exact t5
      rw [u_X6_rowsOf_b16]
      unfold g_X6_rowsOf_b16
      clear K1
      simp (maxSteps := 4000000) (disch := first | assumption | omega | (simp only [jw_t_I, px_cpt]; done) | (simp only [jw_t_I, px_cpt]; omega)) only [pxL0, pxL1, pxL2, pxL3, pxL4, pxL5, pxL6, pxL7, pxL8, pxL9, pxL10, pxL11, pxL12, pxL13, pxL14, pxL15, pxL16, pxL17, pxL18, pxL19, pxL20, pxL21, pxL22, pxL23, pxL24, pxL25, pxL26, pxL27, pxL28, pxL29, pxL30, pxL31, pxL32, pxL33, pxL34, pxL35, pxL36, pxL37, pxL38, pxL39, pxL40, pxL41, pxL42, pxL43, pxL44, pxL45, pxL46, pxL47, pxL48, pxL49, pxL51, pxL57, pxL58, pxL59, pxL60, pxL61, pxL62, pxL63, pxL64, pxL65, pxL66, pxL67, pxL68, pxL69, pxL70, pxL71, pxL72, pxL73, pxL74, pxL75, pxL76, pxL77, pxL78, pxL79, pxL80, pxL81, pxL82, pxL83, pxL84, pxL85, pxL86, pxL87, pxL88, pxL89, pxL90, pxL91, pxL92, pxL93, pxL94, pxL95, pxL96, pxL97, pxL98, pxL99, pxL100, pxL101, pxL102, pxL103, pxL104, pxL105, pxL106, pxL107, pxL108, pxL109, pxL110, pxL111, pxL112, pxL113, pxL114, pxL115, pxL116, pxL117, pxL118, pxL119, pxL120, pxL121, pxL122, pxL123, pxL124, pxL125, pxL126, pxL200, pxL240, pxL287, pxL388, pxL400, pxL429, pxL431, pxL440, pxL1240, pxL1600, pxL1681, pxL12028, pxL13849, pxL14880, pxL25173, pxL26908, pxL49600, pxL65535, pxL65536, ↓reduceIte, reduceCtorEq, pxJ_add, pxJ_sub, pxJ_mul, pxJ_neg, pxD_lt_t, pxD_lt_f, pxD_le_t, pxD_le_f, pxD_eq_t, pxD_eq_f, pxJ_lt, pxJ_le, pxJ_eq, px_gI, px_gR, px_pI, px_rc, px_ai, px_ar, px_si, px_ln, px_cp, pxJ_div, pxJ_b8, pxJ_byte, px_b2, px_bs, px_rb0, px_rb1, px_min, px_max, px_compare, pxW_some, jw_t_I, px_cpt, jw_r_I, px_cpr, jw_l_I, px_cpl, Option.some.injEq, f81]
      exact ⟨F1, R1⟩
theorem s_X6_rowsOf {h : jw_H} {oo ρ cap : Nat} {u : Int} {rs : List (List Int)} (hb : b < 10) (ho : oo < 252) (hρ : 253 < ρ) (c60 : 60 ≤ cap) (u1 : 1 ≤ u) (u2 : u ≤ s.length) (hok : (pxRowsE s 61 0 u).1 = true) (f7 : pxM h oo 7 = u) (f8 : pxM h oo 8 = (pxRowsE s 61 0 u).2) (G : pxPG h b s) (t5 : (jw_t h oo).1 = 5) (R : pxIR h ρ cap rs) :
    pxW (f_X6_rowsOf h 10 (some oo) (some ρ)) fun _ h' => pxF (pxC ρ (ρ + 2)) h h' ∧ pxIR h' ρ cap (pxTold s 61 u) := by
  have n60 := G.2.2.2.2.1.1
  have t7 := R.1.1
  have rl := R.2.1
  have cap100 := R.1.2.2.2.2.2
  unfold f_X6_rowsOf
  simp (maxSteps := 4000000) (disch := first | assumption | omega | (simp only [jw_t_I, px_cpt]; done) | (simp only [jw_t_I, px_cpt]; omega)) only [pxL0, pxL1, pxL2, pxL3, pxL4, pxL5, pxL6, pxL7, pxL8, pxL9, pxL10, pxL11, pxL12, pxL13, pxL14, pxL15, pxL16, pxL17, pxL18, pxL19, pxL20, pxL21, pxL22, pxL23, pxL24, pxL25, pxL26, pxL27, pxL28, pxL29, pxL30, pxL31, pxL32, pxL33, pxL34, pxL35, pxL36, pxL37, pxL38, pxL39, pxL40, pxL41, pxL42, pxL43, pxL44, pxL45, pxL46, pxL47, pxL48, pxL49, pxL51, pxL57, pxL58, pxL59, pxL60, pxL61, pxL62, pxL63, pxL64, pxL65, pxL66, pxL67, pxL68, pxL69, pxL70, pxL71, pxL72, pxL73, pxL74, pxL75, pxL76, pxL77, pxL78, pxL79, pxL80, pxL81, pxL82, pxL83, pxL84, pxL85, pxL86, pxL87, pxL88, pxL89, pxL90, pxL91, pxL92, pxL93, pxL94, pxL95, pxL96, pxL97, pxL98, pxL99, pxL100, pxL101, pxL102, pxL103, pxL104, pxL105, pxL106, pxL107, pxL108, pxL109, pxL110, pxL111, pxL112, pxL113, pxL114, pxL115, pxL116, pxL117, pxL118, pxL119, pxL120, pxL121, pxL122, pxL123, pxL124, pxL125, pxL126, pxL200, pxL240, pxL287, pxL388, pxL400, pxL429, pxL431, pxL440, pxL1240, pxL1600, pxL1681, pxL12028, pxL13849, pxL14880, pxL25173, pxL26908, pxL49600, pxL65535, pxL65536, ↓reduceIte, reduceCtorEq, pxJ_add, pxJ_sub, pxJ_mul, pxJ_neg, pxD_lt_t, pxD_lt_f, pxD_le_t, pxD_le_f, pxD_eq_t, pxD_eq_f, pxJ_lt, pxJ_le, pxJ_eq, px_gI, px_gR, px_pI, px_rc, px_ai, px_ar, px_si, px_ln, px_cp, pxJ_div, pxJ_b8, pxJ_byte, px_b2, px_bs, px_rb0, px_rb1, px_min, px_max, px_compare, pxW_some, jw_t_I, px_cpt, jw_r_I, px_cpr, jw_l_I, px_cpl, Option.some.injEq]
  refine pxW_b2 (s_X7_shrink R (x := 0) (by omega) (by omega)) fun _ h1 q => ?_
  obtain ⟨F1, R1⟩ := q
  have e0 : (if (0 : Int) ≤ 0 ∧ (0 : Int) < rs.length then rs.take (0 : Int).toNat else rs) = [] := by
    by_cases c : (0 : Int) ≤ 0 ∧ (0 : Int) < rs.length
    · rw [if_pos c]; rfl
    · rw [if_neg c]; exact List.length_eq_zero_iff.mp (by omega)
  rw [e0] at R1
  have t51 : (jw_t h1 oo).1 = 5 := by rw [F1.t]; exact t5
  have f71 : pxM h1 oo 7 = u := by rw [F1.m (by unfold pxC; omega)]; exact f7
  have f81 : pxM h1 oo 8 = (pxRowsE s 61 0 u).2 := by rw [F1.m (by unfold pxC; omega)]; exact f8
  simp (maxSteps := 4000000) (disch := first | assumption | omega | (simp only [jw_t_I, px_cpt]; done) | (simp only [jw_t_I, px_cpt]; omega)) only [pxL0, pxL1, pxL2, pxL3, pxL4, pxL5, pxL6, pxL7, pxL8, pxL9, pxL10, pxL11, pxL12, pxL13, pxL14, pxL15, pxL16, pxL17, pxL18, pxL19, pxL20, pxL21, pxL22, pxL23, pxL24, pxL25, pxL26, pxL27, pxL28, pxL29, pxL30, pxL31, pxL32, pxL33, pxL34, pxL35, pxL36, pxL37, pxL38, pxL39, pxL40, pxL41, pxL42, pxL43, pxL44, pxL45, pxL46, pxL47, pxL48, pxL49, pxL51, pxL57, pxL58, pxL59, pxL60, pxL61, pxL62, pxL63, pxL64, pxL65, pxL66, pxL67, pxL68, pxL69, pxL70, pxL71, pxL72, pxL73, pxL74, pxL75, pxL76, pxL77, pxL78, pxL79, pxL80, pxL81, pxL82, pxL83, pxL84, pxL85, pxL86, pxL87, pxL88, pxL89, pxL90, pxL91, pxL92, pxL93, pxL94, pxL95, pxL96, pxL97, pxL98, pxL99, pxL100, pxL101, pxL102, pxL103, pxL104, pxL105, pxL106, pxL107, pxL108, pxL109, pxL110, pxL111, pxL112, pxL113, pxL114, pxL115, pxL116, pxL117, pxL118, pxL119, pxL120, pxL121, pxL122, pxL123, pxL124, pxL125, pxL126, pxL200, pxL240, pxL287, pxL388, pxL400, pxL429, pxL431, pxL440, pxL1240, pxL1600, pxL1681, pxL12028, pxL13849, pxL14880, pxL25173, pxL26908, pxL49600, pxL65535, pxL65536, ↓reduceIte, reduceCtorEq, pxJ_add, pxJ_sub, pxJ_mul, pxJ_neg, pxD_lt_t, pxD_lt_f, pxD_le_t, pxD_le_f, pxD_eq_t, pxD_eq_f, pxJ_lt, pxJ_le, pxJ_eq, px_gI, px_gR, px_pI, px_rc, px_ai, px_ar, px_si, px_ln, px_cp, pxJ_div, pxJ_b8, pxJ_byte, px_b2, px_bs, px_rb0, px_rb1, px_min, px_max, px_compare, pxW_some, jw_t_I, px_cpt, jw_r_I, px_cpr, jw_l_I, px_cpl, Option.some.injEq, f71]
  refine (s_X6_rowsOf_b16 hb ho hρ c60 61 jw_FU 61 h1 u [] (by omega) (by omega) (by unfold jw_FU; omega) (by omega) u2 hok f81 (by simp; omega) (G.fb hb F1 (fun k f z => by unfold pxC; omega)) t51 R1).mono fun _ h' k => ⟨F1.trans k.1, ?_⟩
  have := k.2
  rw [List.nil_append] at this
  exact this
end
def pxSpRead (f l : Int) (rows : List (List Int)) (T : pxTx) : Int × pxTx := if rows = [] then (0, T) else pxSpBring false (l + 1) f l rows T
def pxSpExch (f l : Int) (T : pxTx) (S : pxSto) : Int × pxTx × pxSto :=
  if S.1 = [] then (5, T, S) else ((pxSpBring true f f l S.1 T).1, (pxSpBring true f f l S.1 T).2, (pxSub (pxRs T.1) f l, S.2.1, S.2.2))
section
variable {h : jw_H} {T : pxTx} {S : pxSto} {f l : Int}
theorem s_X10_readFile {k : Int} (W : pxWF h) (Rn : pxRn h f l) (H : pxIX h T) (Y : pxIY h S) (k0 : 0 ≤ k) (k1 : k < 4) (f0 : 0 ≤ f) (f1 : f ≤ T.1.length + 1) (l0 : 0 ≤ l) (l1 : l ≤ T.1.length) (n0 : 0 ≤ T.2.2.2) (n1 : T.2.2.2 ≤ 2000000) :
    pxW (f_X10_readFile h 559 (some (261 + 8 + 3 * k.toNat))) fun q h' => pxF (pxC 255 260) h h' ∧ q = pxJ (pxSpRead f l (S.2.2 k) T).1 ∧ pxIX h' (pxSpRead f l (S.2.2 k) T).2 := by
  have w0 := W.1
  have R := Y.2.2.2 k k0 k1
  have t7 := R.1.1
  have c2 : pxM h (261 + 8 + 3 * k.toNat) 2 = (S.2.2 k).length := R.2.2.2.1
  have rl := R.2.1
  unfold f_X10_readFile g_X10_readFile_b11 g_X10_readFile_b22 pxSpRead
  by_cases c : S.2.2 k = []
  · rw [if_pos c]
    have c2' : pxM h (261 + 8 + 3 * k.toNat) 2 = 0 := by rw [c2, c]; rfl
    simp (maxSteps := 4000000) (disch := first | assumption | omega | (simp only [jw_t_I, px_cpt]; done) | (simp only [jw_t_I, px_cpt]; omega)) only [pxL0, pxL1, pxL2, pxL3, pxL4, pxL5, pxL6, pxL7, pxL8, pxL9, pxL10, pxL11, pxL12, pxL13, pxL14, pxL15, pxL16, pxL17, pxL18, pxL19, pxL20, pxL21, pxL22, pxL23, pxL24, pxL25, pxL26, pxL27, pxL28, pxL29, pxL30, pxL31, pxL32, pxL33, pxL34, pxL35, pxL36, pxL37, pxL38, pxL39, pxL40, pxL41, pxL42, pxL43, pxL44, pxL45, pxL46, pxL47, pxL48, pxL49, pxL51, pxL57, pxL58, pxL59, pxL60, pxL61, pxL62, pxL63, pxL64, pxL65, pxL66, pxL67, pxL68, pxL69, pxL70, pxL71, pxL72, pxL73, pxL74, pxL75, pxL76, pxL77, pxL78, pxL79, pxL80, pxL81, pxL82, pxL83, pxL84, pxL85, pxL86, pxL87, pxL88, pxL89, pxL90, pxL91, pxL92, pxL93, pxL94, pxL95, pxL96, pxL97, pxL98, pxL99, pxL100, pxL101, pxL102, pxL103, pxL104, pxL105, pxL106, pxL107, pxL108, pxL109, pxL110, pxL111, pxL112, pxL113, pxL114, pxL115, pxL116, pxL117, pxL118, pxL119, pxL120, pxL121, pxL122, pxL123, pxL124, pxL125, pxL126, pxL200, pxL240, pxL287, pxL388, pxL400, pxL429, pxL431, pxL440, pxL1240, pxL1600, pxL1681, pxL12028, pxL13849, pxL14880, pxL25173, pxL26908, pxL49600, pxL65535, pxL65536, ↓reduceIte, reduceCtorEq, pxJ_add, pxJ_sub, pxJ_mul, pxJ_neg, pxD_lt_t, pxD_lt_f, pxD_le_t, pxD_le_f, pxD_eq_t, pxD_eq_f, pxJ_lt, pxJ_le, pxJ_eq, px_gI, px_gR, px_pI, px_rc, px_ai, px_ar, px_si, px_ln, px_cp, pxJ_div, pxJ_b8, pxJ_byte, px_b2, px_bs, px_rb0, px_rb1, px_min, px_max, px_compare, pxW_some, jw_t_I, px_cpt, jw_r_I, px_cpr, jw_l_I, px_cpl, Option.some.injEq, c2']
    exact ⟨pxF.rfl, trivial, H⟩
  · rw [if_neg c]
    have ne : 0 < ((S.2.2 k).length : Int) := by
      have := List.length_pos_iff.mpr c; omega
    have K := s_X10_bring (act := 114) (goes := false) (ls := T.1) (mk := T.2.1) (now := T.2.2.1) (nx := T.2.2.2) (by omega) (by omega) W Rn H R (by simp) (by omega) (by omega) f0 f1 l0 l1 (fun z => by cases z) (fun z => by omega) n0 n1
    have e1 : (if false = true ∨ (114 : Int) = 105 then f else l + 1) = l + 1 := by rw [if_neg (by simp)]
    rw [e1] at K
    simp (maxSteps := 4000000) (disch := first | assumption | omega | (simp only [jw_t_I, px_cpt]; done) | (simp only [jw_t_I, px_cpt]; omega)) only [pxL0, pxL1, pxL2, pxL3, pxL4, pxL5, pxL6, pxL7, pxL8, pxL9, pxL10, pxL11, pxL12, pxL13, pxL14, pxL15, pxL16, pxL17, pxL18, pxL19, pxL20, pxL21, pxL22, pxL23, pxL24, pxL25, pxL26, pxL27, pxL28, pxL29, pxL30, pxL31, pxL32, pxL33, pxL34, pxL35, pxL36, pxL37, pxL38, pxL39, pxL40, pxL41, pxL42, pxL43, pxL44, pxL45, pxL46, pxL47, pxL48, pxL49, pxL51, pxL57, pxL58, pxL59, pxL60, pxL61, pxL62, pxL63, pxL64, pxL65, pxL66, pxL67, pxL68, pxL69, pxL70, pxL71, pxL72, pxL73, pxL74, pxL75, pxL76, pxL77, pxL78, pxL79, pxL80, pxL81, pxL82, pxL83, pxL84, pxL85, pxL86, pxL87, pxL88, pxL89, pxL90, pxL91, pxL92, pxL93, pxL94, pxL95, pxL96, pxL97, pxL98, pxL99, pxL100, pxL101, pxL102, pxL103, pxL104, pxL105, pxL106, pxL107, pxL108, pxL109, pxL110, pxL111, pxL112, pxL113, pxL114, pxL115, pxL116, pxL117, pxL118, pxL119, pxL120, pxL121, pxL122, pxL123, pxL124, pxL125, pxL126, pxL200, pxL240, pxL287, pxL388, pxL400, pxL429, pxL431, pxL440, pxL1240, pxL1600, pxL1681, pxL12028, pxL13849, pxL14880, pxL25173, pxL26908, pxL49600, pxL65535, pxL65536, ↓reduceIte, reduceCtorEq, pxJ_add, pxJ_sub, pxJ_mul, pxJ_neg, pxD_lt_t, pxD_lt_f, pxD_le_t, pxD_le_f, pxD_eq_t, pxD_eq_f, pxJ_lt, pxJ_le, pxJ_eq, px_gI, px_gR, px_pI, px_rc, px_ai, px_ar, px_si, px_ln, px_cp, pxJ_div, pxJ_b8, pxJ_byte, px_b2, px_bs, px_rb0, px_rb1, px_min, px_max, px_compare, pxW_some, jw_t_I, px_cpt, jw_r_I, px_cpr, jw_l_I, px_cpl, Option.some.injEq, c2, w0]
    refine pxW_b2 K fun q h1 z => ?_
    exact pxW_some.mpr z
theorem s_X10_exchange (W : pxWF h) (Rn : pxRn h f l) (H : pxIX h T) (Y : pxIY h S) (Zr : ∃ rs, pxIR h 560 60 rs) (X : pxSX h 563) (f1 : 1 ≤ f) (fl : f ≤ l) (l1 : l ≤ T.1.length) (n0 : 0 ≤ T.2.2.2) (n1 : T.2.2.2 ≤ 2000000) :
    pxW (f_X10_exchange h 559) fun q h' => pxF (fun k f => pxQT k f ∨ (560 ≤ k ∧ k ≤ 568)) h h' ∧ q = pxJ (pxSpExch f l T S).1 ∧ pxTR (pxSpExch f l T S) S h' ∧ (∃ rs, pxIR h' 560 60 rs) ∧ pxSX h' 563 := by
  have Z : pxSR h 560 60 := by obtain ⟨rs, z⟩ := Zr; exact z.1
  have l40 := pxIT.len H
  have w0 := W.1
  have w1 := W.2.2.1
  have w2 := W.2.2.2.1
  have w7 := W.2.2.2.2.2.2.2.2.1
  have w8 := W.2.2.2.2.2.2.2.2.2.1
  have t8 := Y.1.1
  have s0 := Y.1.2.1
  have t7 := Y.2.1.1.1
  have t7z := Z.1
  have t9x := X.1.1
  have c2 : pxM h (261 + 1) 2 = S.1.length := Y.2.1.2.2.2.1
  have hl40 := Y.2.1.2.1
  unfold f_X10_exchange pxSpExch
  by_cases c : S.1 = []
  · rw [if_pos c]
    have c2' : pxM h (261 + 1) 2 = 0 := by rw [c2, c]; rfl
    simp (maxSteps := 4000000) (disch := first | assumption | omega | (simp only [jw_t_I, px_cpt]; done) | (simp only [jw_t_I, px_cpt]; omega)) only [pxL0, pxL1, pxL2, pxL3, pxL4, pxL5, pxL6, pxL7, pxL8, pxL9, pxL10, pxL11, pxL12, pxL13, pxL14, pxL15, pxL16, pxL17, pxL18, pxL19, pxL20, pxL21, pxL22, pxL23, pxL24, pxL25, pxL26, pxL27, pxL28, pxL29, pxL30, pxL31, pxL32, pxL33, pxL34, pxL35, pxL36, pxL37, pxL38, pxL39, pxL40, pxL41, pxL42, pxL43, pxL44, pxL45, pxL46, pxL47, pxL48, pxL49, pxL51, pxL57, pxL58, pxL59, pxL60, pxL61, pxL62, pxL63, pxL64, pxL65, pxL66, pxL67, pxL68, pxL69, pxL70, pxL71, pxL72, pxL73, pxL74, pxL75, pxL76, pxL77, pxL78, pxL79, pxL80, pxL81, pxL82, pxL83, pxL84, pxL85, pxL86, pxL87, pxL88, pxL89, pxL90, pxL91, pxL92, pxL93, pxL94, pxL95, pxL96, pxL97, pxL98, pxL99, pxL100, pxL101, pxL102, pxL103, pxL104, pxL105, pxL106, pxL107, pxL108, pxL109, pxL110, pxL111, pxL112, pxL113, pxL114, pxL115, pxL116, pxL117, pxL118, pxL119, pxL120, pxL121, pxL122, pxL123, pxL124, pxL125, pxL126, pxL200, pxL240, pxL287, pxL388, pxL400, pxL429, pxL431, pxL440, pxL1240, pxL1600, pxL1681, pxL12028, pxL13849, pxL14880, pxL25173, pxL26908, pxL49600, pxL65535, pxL65536, ↓reduceIte, reduceCtorEq, pxJ_add, pxJ_sub, pxJ_mul, pxJ_neg, pxD_lt_t, pxD_lt_f, pxD_le_t, pxD_le_f, pxD_eq_t, pxD_eq_f, pxJ_lt, pxJ_le, pxJ_eq, px_gI, px_gR, px_pI, px_rc, px_ai, px_ar, px_si, px_ln, px_cp, pxJ_div, pxJ_b8, pxJ_byte, px_b2, px_bs, px_rb0, px_rb1, px_min, px_max, px_compare, pxW_some, jw_t_I, px_cpt, jw_r_I, px_cpr, jw_l_I, px_cpl, Option.some.injEq, w0, w2, t8, s0, t7, c2']
    exact ⟨pxF.rfl, trivial, ⟨fun z => absurd z (by show ¬ (5 : Int) = 0; omega), fun _ => ⟨⟨_, H⟩, Y⟩⟩, Zr, X⟩
  rw [if_neg c]
  have ne : 0 < (S.1.length : Int) := by
    have := List.length_pos_iff.mpr c; omega
  simp (maxSteps := 4000000) (disch := first | assumption | omega | (simp only [jw_t_I, px_cpt]; done) | (simp only [jw_t_I, px_cpt]; omega)) only [pxL0, pxL1, pxL2, pxL3, pxL4, pxL5, pxL6, pxL7, pxL8, pxL9, pxL10, pxL11, pxL12, pxL13, pxL14, pxL15, pxL16, pxL17, pxL18, pxL19, pxL20, pxL21, pxL22, pxL23, pxL24, pxL25, pxL26, pxL27, pxL28, pxL29, pxL30, pxL31, pxL32, pxL33, pxL34, pxL35, pxL36, pxL37, pxL38, pxL39, pxL40, pxL41, pxL42, pxL43, pxL44, pxL45, pxL46, pxL47, pxL48, pxL49, pxL51, pxL57, pxL58, pxL59, pxL60, pxL61, pxL62, pxL63, pxL64, pxL65, pxL66, pxL67, pxL68, pxL69, pxL70, pxL71, pxL72, pxL73, pxL74, pxL75, pxL76, pxL77, pxL78, pxL79, pxL80, pxL81, pxL82, pxL83, pxL84, pxL85, pxL86, pxL87, pxL88, pxL89, pxL90, pxL91, pxL92, pxL93, pxL94, pxL95, pxL96, pxL97, pxL98, pxL99, pxL100, pxL101, pxL102, pxL103, pxL104, pxL105, pxL106, pxL107, pxL108, pxL109, pxL110, pxL111, pxL112, pxL113, pxL114, pxL115, pxL116, pxL117, pxL118, pxL119, pxL120, pxL121, pxL122, pxL123, pxL124, pxL125, pxL126, pxL200, pxL240, pxL287, pxL388, pxL400, pxL429, pxL431, pxL440, pxL1240, pxL1600, pxL1681, pxL12028, pxL13849, pxL14880, pxL25173, pxL26908, pxL49600, pxL65535, pxL65536, ↓reduceIte, reduceCtorEq, pxJ_add, pxJ_sub, pxJ_mul, pxJ_neg, pxD_lt_t, pxD_lt_f, pxD_le_t, pxD_le_f, pxD_eq_t, pxD_eq_f, pxJ_lt, pxJ_le, pxJ_eq, px_gI, px_gR, px_pI, px_rc, px_ai, px_ar, px_si, px_ln, px_cp, pxJ_div, pxJ_b8, pxJ_byte, px_b2, px_bs, px_rb0, px_rb1, px_min, px_max, px_compare, pxW_some, jw_t_I, px_cpt, jw_r_I, px_cpr, jw_l_I, px_cpl, Option.some.injEq, w0, w2, t8, s0, t7, c2, w7, t7z]
  refine pxW_b2 (s_X7_copy Z Y.2.1 (by omega) (by omega)) fun _ h1 k => ?_
  obtain ⟨F1, R1⟩ := k
  have W1 := W.f9 F1 (fun f => by unfold pxC; omega)
  have H1 : pxIX h1 T := pxIT.fr H F1 (fun k f _ _ => by unfold pxC; omega)
  have Y1 : pxIY h1 S := pxIS.fr Y F1 (fun k f _ _ => by unfold pxC; omega)
  have X1 := X.fr F1 (fun k f _ _ => by unfold pxC; omega)
  have w01 := W1.1
  have w11 := W1.2.2.1
  have w81 := W1.2.2.2.2.2.2.2.2.2.1
  have t9x1 := X1.1.1
  simp (maxSteps := 4000000) (disch := first | assumption | omega | (simp only [jw_t_I, px_cpt]; done) | (simp only [jw_t_I, px_cpt]; omega)) only [pxL0, pxL1, pxL2, pxL3, pxL4, pxL5, pxL6, pxL7, pxL8, pxL9, pxL10, pxL11, pxL12, pxL13, pxL14, pxL15, pxL16, pxL17, pxL18, pxL19, pxL20, pxL21, pxL22, pxL23, pxL24, pxL25, pxL26, pxL27, pxL28, pxL29, pxL30, pxL31, pxL32, pxL33, pxL34, pxL35, pxL36, pxL37, pxL38, pxL39, pxL40, pxL41, pxL42, pxL43, pxL44, pxL45, pxL46, pxL47, pxL48, pxL49, pxL51, pxL57, pxL58, pxL59, pxL60, pxL61, pxL62, pxL63, pxL64, pxL65, pxL66, pxL67, pxL68, pxL69, pxL70, pxL71, pxL72, pxL73, pxL74, pxL75, pxL76, pxL77, pxL78, pxL79, pxL80, pxL81, pxL82, pxL83, pxL84, pxL85, pxL86, pxL87, pxL88, pxL89, pxL90, pxL91, pxL92, pxL93, pxL94, pxL95, pxL96, pxL97, pxL98, pxL99, pxL100, pxL101, pxL102, pxL103, pxL104, pxL105, pxL106, pxL107, pxL108, pxL109, pxL110, pxL111, pxL112, pxL113, pxL114, pxL115, pxL116, pxL117, pxL118, pxL119, pxL120, pxL121, pxL122, pxL123, pxL124, pxL125, pxL126, pxL200, pxL240, pxL287, pxL388, pxL400, pxL429, pxL431, pxL440, pxL1240, pxL1600, pxL1681, pxL12028, pxL13849, pxL14880, pxL25173, pxL26908, pxL49600, pxL65535, pxL65536, ↓reduceIte, reduceCtorEq, pxJ_add, pxJ_sub, pxJ_mul, pxJ_neg, pxD_lt_t, pxD_lt_f, pxD_le_t, pxD_le_f, pxD_eq_t, pxD_eq_f, pxJ_lt, pxJ_le, pxJ_eq, px_gI, px_gR, px_pI, px_rc, px_ai, px_ar, px_si, px_ln, px_cp, pxJ_div, pxJ_b8, pxJ_byte, px_b2, px_bs, px_rb0, px_rb1, px_min, px_max, px_compare, pxW_some, jw_t_I, px_cpt, jw_r_I, px_cpr, jw_l_I, px_cpl, Option.some.injEq, w01, w81, w11, t9x1]
  refine pxW_b2 (s_X9_copy X1 H1 (by omega)) fun _ h2 k => ?_
  obtain ⟨F2, R2⟩ := k
  have W2 := W1.f9 F2 (fun f => by unfold pxC; omega)
  have Rn2 := (Rn.fr F1 (fun f => by unfold pxC; omega)).fr F2 (fun f => by unfold pxC; omega)
  have H2 : pxIX h2 T := pxIT.fr H1 F2 (fun k f _ _ => by unfold pxC; omega)
  have Y2 : pxIY h2 S := pxIS.fr Y1 F2 (fun k f _ _ => by unfold pxC; omega)
  have Z2 := R1.fr F2 (fun k f _ _ => by unfold pxC; omega)
  have w02 := W2.1
  have w72 := W2.2.2.2.2.2.2.2.2.1
  simp (maxSteps := 4000000) (disch := first | assumption | omega | (simp only [jw_t_I, px_cpt]; done) | (simp only [jw_t_I, px_cpt]; omega)) only [pxL0, pxL1, pxL2, pxL3, pxL4, pxL5, pxL6, pxL7, pxL8, pxL9, pxL10, pxL11, pxL12, pxL13, pxL14, pxL15, pxL16, pxL17, pxL18, pxL19, pxL20, pxL21, pxL22, pxL23, pxL24, pxL25, pxL26, pxL27, pxL28, pxL29, pxL30, pxL31, pxL32, pxL33, pxL34, pxL35, pxL36, pxL37, pxL38, pxL39, pxL40, pxL41, pxL42, pxL43, pxL44, pxL45, pxL46, pxL47, pxL48, pxL49, pxL51, pxL57, pxL58, pxL59, pxL60, pxL61, pxL62, pxL63, pxL64, pxL65, pxL66, pxL67, pxL68, pxL69, pxL70, pxL71, pxL72, pxL73, pxL74, pxL75, pxL76, pxL77, pxL78, pxL79, pxL80, pxL81, pxL82, pxL83, pxL84, pxL85, pxL86, pxL87, pxL88, pxL89, pxL90, pxL91, pxL92, pxL93, pxL94, pxL95, pxL96, pxL97, pxL98, pxL99, pxL100, pxL101, pxL102, pxL103, pxL104, pxL105, pxL106, pxL107, pxL108, pxL109, pxL110, pxL111, pxL112, pxL113, pxL114, pxL115, pxL116, pxL117, pxL118, pxL119, pxL120, pxL121, pxL122, pxL123, pxL124, pxL125, pxL126, pxL200, pxL240, pxL287, pxL388, pxL400, pxL429, pxL431, pxL440, pxL1240, pxL1600, pxL1681, pxL12028, pxL13849, pxL14880, pxL25173, pxL26908, pxL49600, pxL65535, pxL65536, ↓reduceIte, reduceCtorEq, pxJ_add, pxJ_sub, pxJ_mul, pxJ_neg, pxD_lt_t, pxD_lt_f, pxD_le_t, pxD_le_f, pxD_eq_t, pxD_eq_f, pxJ_lt, pxJ_le, pxJ_eq, px_gI, px_gR, px_pI, px_rc, px_ai, px_ar, px_si, px_ln, px_cp, pxJ_div, pxJ_b8, pxJ_byte, px_b2, px_bs, px_rb0, px_rb1, px_min, px_max, px_compare, pxW_some, jw_t_I, px_cpt, jw_r_I, px_cpr, jw_l_I, px_cpl, Option.some.injEq, w02, w72]
  have K := s_X10_bring (act := 101) (goes := true) (ls := T.1) (mk := T.2.1) (now := T.2.2.1) (nx := T.2.2.2) (by omega) (by omega) W2 Rn2 H2 Z2 (by simp) (by omega) (by omega) (by omega) (by omega) (by omega) l1 (fun _ => ⟨f1, fl⟩) (fun z => by omega) n0 n1
  have e1 : (if true = true ∨ (101 : Int) = 105 then f else l + 1) = f := by rw [if_pos (Or.inl rfl)]
  rw [e1] at K
  have eT : (T.1, T.2.1, T.2.2.1, T.2.2.2) = T := rfl
  rw [eT] at K
  refine pxW_b2 K fun q h3 k => ?_
  obtain ⟨F3, rfl, H3⟩ := k
  have W3 := W2.f9 F3 (fun f => by unfold pxC; omega)
  have Rn3 := Rn2.fr F3 (fun f => by unfold pxC; omega)
  have Y3 : pxIY h3 S := pxIS.fr Y2 F3 (fun k f _ _ => by unfold pxC; omega)
  have Z3 := Z2.fr F3 (fun k f _ _ => by unfold pxC; omega)
  have X3 := R2.fr F3 (fun k f _ _ => by unfold pxC; omega)
  have F123 : pxF (fun k f => pxQT k f ∨ (560 ≤ k ∧ k ≤ 568)) h h3 := (F1.mono (fun k f z => by unfold pxC at z; omega)).trans ((F2.mono (fun k f z => by unfold pxC at z; omega)).trans (F3.mono (fun k f z => by unfold pxC at z; unfold pxQT; omega)))
  have rb : (pxSpBring true f f l S.1 T).1 = 0 ∨ (pxSpBring true f f l S.1 T).1 = 4 := by
    unfold pxSpBring
    by_cases big : 40 < (T.1.length : Int) - (if true = true then l - f + 1 else 0) + S.1.length
    · rw [if_pos big]; right; rfl
    · rw [if_neg big]; left; rfl
  generalize hr : pxSpBring true f f l S.1 T = r at rb H3 ⊢
  by_cases d : r.1 = 0
  · have w03 := W3.1
    have w23 := W3.2.2.2.1
    have w83 := W3.2.2.2.2.2.2.2.2.2.1
    have t9x3 := X3.1.1
    have r0x3 := X3.1.2.1
    have t83 := Y3.1.1
    obtain ⟨rf, rl⟩ := Rn3
    rw [d]
    simp (maxSteps := 4000000) (disch := first | assumption | omega | (simp only [jw_t_I, px_cpt]; done) | (simp only [jw_t_I, px_cpt]; omega)) only [pxL0, pxL1, pxL2, pxL3, pxL4, pxL5, pxL6, pxL7, pxL8, pxL9, pxL10, pxL11, pxL12, pxL13, pxL14, pxL15, pxL16, pxL17, pxL18, pxL19, pxL20, pxL21, pxL22, pxL23, pxL24, pxL25, pxL26, pxL27, pxL28, pxL29, pxL30, pxL31, pxL32, pxL33, pxL34, pxL35, pxL36, pxL37, pxL38, pxL39, pxL40, pxL41, pxL42, pxL43, pxL44, pxL45, pxL46, pxL47, pxL48, pxL49, pxL51, pxL57, pxL58, pxL59, pxL60, pxL61, pxL62, pxL63, pxL64, pxL65, pxL66, pxL67, pxL68, pxL69, pxL70, pxL71, pxL72, pxL73, pxL74, pxL75, pxL76, pxL77, pxL78, pxL79, pxL80, pxL81, pxL82, pxL83, pxL84, pxL85, pxL86, pxL87, pxL88, pxL89, pxL90, pxL91, pxL92, pxL93, pxL94, pxL95, pxL96, pxL97, pxL98, pxL99, pxL100, pxL101, pxL102, pxL103, pxL104, pxL105, pxL106, pxL107, pxL108, pxL109, pxL110, pxL111, pxL112, pxL113, pxL114, pxL115, pxL116, pxL117, pxL118, pxL119, pxL120, pxL121, pxL122, pxL123, pxL124, pxL125, pxL126, pxL200, pxL240, pxL287, pxL388, pxL400, pxL429, pxL431, pxL440, pxL1240, pxL1600, pxL1681, pxL12028, pxL13849, pxL14880, pxL25173, pxL26908, pxL49600, pxL65535, pxL65536, ↓reduceIte, reduceCtorEq, pxJ_add, pxJ_sub, pxJ_mul, pxJ_neg, pxD_lt_t, pxD_lt_f, pxD_le_t, pxD_le_f, pxD_eq_t, pxD_eq_f, pxJ_lt, pxJ_le, pxJ_eq, px_gI, px_gR, px_pI, px_rc, px_ai, px_ar, px_si, px_ln, px_cp, pxJ_div, pxJ_b8, pxJ_byte, px_b2, px_bs, px_rb0, px_rb1, px_min, px_max, px_compare, pxW_some, jw_t_I, px_cpt, jw_r_I, px_cpr, jw_l_I, px_cpl, Option.some.injEq, w03, w23, w83, t9x3, r0x3, rf, rl]
    refine pxW_b2 (s_X8_hold Y3 X3.2.1 (Or.inr (by omega)) (x := f) (y := l) f1 (by omega) (by rw [pxRs_len]; exact l1) (by omega)) fun _ h4 k => ?_
    obtain ⟨F4, Y4⟩ := k
    refine pxW_some.mpr ⟨F123.trans (F4.mono (fun k f z => by unfold pxC at z; unfold pxQT; omega)), rfl, ⟨fun _ => ⟨pxIT.fr H3 F4 (fun k f _ _ => by unfold pxC; omega), Y4⟩, fun z => absurd rfl z⟩, ⟨_, Z3.fr F4 (fun k f _ _ => by unfold pxC; omega)⟩, X3.sx.fr F4 (fun k f _ _ => by unfold pxC; omega)⟩
  · have d4 : r.1 = 4 := by omega
    rw [d4]
    simp (maxSteps := 4000000) (disch := first | assumption | omega | (simp only [jw_t_I, px_cpt]; done) | (simp only [jw_t_I, px_cpt]; omega)) only [pxL0, pxL1, pxL2, pxL3, pxL4, pxL5, pxL6, pxL7, pxL8, pxL9, pxL10, pxL11, pxL12, pxL13, pxL14, pxL15, pxL16, pxL17, pxL18, pxL19, pxL20, pxL21, pxL22, pxL23, pxL24, pxL25, pxL26, pxL27, pxL28, pxL29, pxL30, pxL31, pxL32, pxL33, pxL34, pxL35, pxL36, pxL37, pxL38, pxL39, pxL40, pxL41, pxL42, pxL43, pxL44, pxL45, pxL46, pxL47, pxL48, pxL49, pxL51, pxL57, pxL58, pxL59, pxL60, pxL61, pxL62, pxL63, pxL64, pxL65, pxL66, pxL67, pxL68, pxL69, pxL70, pxL71, pxL72, pxL73, pxL74, pxL75, pxL76, pxL77, pxL78, pxL79, pxL80, pxL81, pxL82, pxL83, pxL84, pxL85, pxL86, pxL87, pxL88, pxL89, pxL90, pxL91, pxL92, pxL93, pxL94, pxL95, pxL96, pxL97, pxL98, pxL99, pxL100, pxL101, pxL102, pxL103, pxL104, pxL105, pxL106, pxL107, pxL108, pxL109, pxL110, pxL111, pxL112, pxL113, pxL114, pxL115, pxL116, pxL117, pxL118, pxL119, pxL120, pxL121, pxL122, pxL123, pxL124, pxL125, pxL126, pxL200, pxL240, pxL287, pxL388, pxL400, pxL429, pxL431, pxL440, pxL1240, pxL1600, pxL1681, pxL12028, pxL13849, pxL14880, pxL25173, pxL26908, pxL49600, pxL65535, pxL65536, ↓reduceIte, reduceCtorEq, pxJ_add, pxJ_sub, pxJ_mul, pxJ_neg, pxD_lt_t, pxD_lt_f, pxD_le_t, pxD_le_f, pxD_eq_t, pxD_eq_f, pxJ_lt, pxJ_le, pxJ_eq, px_gI, px_gR, px_pI, px_rc, px_ai, px_ar, px_si, px_ln, px_cp, pxJ_div, pxJ_b8, pxJ_byte, px_b2, px_bs, px_rb0, px_rb1, px_min, px_max, px_compare, pxW_some, jw_t_I, px_cpt, jw_r_I, px_cpr, jw_l_I, px_cpl, Option.some.injEq]
    exact ⟨F123, trivial, ⟨fun z => absurd z (by show ¬ (4 : Int) = 0; omega), fun _ => ⟨⟨_, H3⟩, Y3⟩⟩, ⟨_, Z3⟩, X3.sx⟩
end
