/-! stores: what is held, the out, the files -/
def pxSS (h : jw_H) (s : Nat) : Prop := (jw_t h s).1 = 8 ∧ jw_r h s 0 = some (s + 1) ∧ jw_r h s 1 = some (s + 4) ∧ jw_r h s 2 = some (s + 7) ∧ jw_r h s 3 = some (s + 20) ∧ jw_t h (s + 7) = (37, 4) ∧ (∀ k : Int, 0 ≤ k → k < 4 → jw_r h (s + 7) k.toNat = some (s + 8 + 3 * k.toNat)) ∧ jw_t h (s + 20) = (21, 30)
def pxIS (h : jw_H) (s : Nat) (hl ou : List (List Int)) (fl : Int → List (List Int)) : Prop :=
  pxSS h s ∧ pxIR h (s + 1) 40 hl ∧ pxIR h (s + 4) 100 ou ∧ ∀ k : Int, 0 ≤ k → k < 4 → pxIR h (s + 8 + 3 * k.toNat) 40 (fl k)
theorem pxSS.fr {P : Nat → Nat → Prop} {h h' : jw_H} {s : Nat} (H : pxSS h s) (F : pxF P h h') (hP : ∀ k f, k = s ∨ k = s + 7 → ¬ P k f) : pxSS h' s := by
  obtain ⟨t0, r0, r1, r2, r3, t7, r7, t20⟩ := H
  exact ⟨by rw [F.t]; exact t0, by rw [F.r (hP _ _ (by omega))]; exact r0, by rw [F.r (hP _ _ (by omega))]; exact r1, by rw [F.r (hP _ _ (by omega))]; exact r2, by rw [F.r (hP _ _ (by omega))]; exact r3, by rw [F.t]; exact t7, fun k k1 k2 => by rw [F.r (hP _ _ (by omega))]; exact r7 k k1 k2, by rw [F.t]; exact t20⟩
theorem pxIS.fr {P : Nat → Nat → Prop} {h h' : jw_H} {s : Nat} {hl ou : List (List Int)} {fl : Int → List (List Int)} (H : pxIS h s hl ou fl) (F : pxF P h h') (hP : ∀ k f, s ≤ k → k ≤ s + 19 → ¬ P k f) : pxIS h' s hl ou fl :=
  ⟨H.1.fr F (fun k f e => hP k f (by omega) (by omega)), H.2.1.fr F (fun k f a b => hP k f (by omega) (by omega)), H.2.2.1.fr F (fun k f a b => hP k f (by omega) (by omega)), fun k k1 k2 => (H.2.2.2 k k1 k2).fr F (fun k f a b => hP k f (by omega) (by omega))⟩
section
variable {h : jw_H} {s : Nat} {hl ou : List (List Int)} {fl : Int → List (List Int)}
theorem s_X8_file (S : pxSS h s) {k : Int} (h1 : -2147483648 ≤ k) (h2 : k ≤ 2147483647) : f_X8_file h s (pxJ k) = some (if 0 ≤ k ∧ k < 4 then some (s + 8 + 3 * k.toNat) else none, h) := by
  obtain ⟨t0, r0, r1, r2, r3, t7, r7, t20⟩ := S
  unfold f_X8_file g_X8_file_b22 g_X8_file_b23
  by_cases hx : 0 ≤ k ∧ k < 4
  · rw [if_pos hx]
    simp (disch := first | assumption | omega | (simp only [jw_t_I, px_cpt, t7]; done) | (simp only [jw_t_I, px_cpt, t7]; omega)) only [pxL0, pxL1, pxL2, pxL3, pxL4, pxL5, pxL6, pxL7, pxL8, pxL9, pxL10, pxL11, pxL12, pxL13, pxL14, pxL15, pxL16, pxL17, pxL18, pxL19, pxL20, pxL21, pxL22, pxL23, pxL24, pxL25, pxL26, pxL27, pxL28, pxL29, pxL30, pxL31, pxL32, pxL33, pxL34, pxL35, pxL36, pxL37, pxL38, pxL39, pxL40, pxL41, pxL42, pxL43, pxL44, pxL45, pxL46, pxL47, pxL48, pxL49, pxL51, pxL57, pxL58, pxL59, pxL60, pxL61, pxL62, pxL63, pxL64, pxL65, pxL66, pxL67, pxL68, pxL69, pxL70, pxL71, pxL72, pxL73, pxL74, pxL75, pxL76, pxL77, pxL78, pxL79, pxL80, pxL81, pxL82, pxL83, pxL84, pxL85, pxL86, pxL87, pxL88, pxL89, pxL90, pxL91, pxL92, pxL93, pxL94, pxL95, pxL96, pxL97, pxL98, pxL99, pxL100, pxL101, pxL102, pxL103, pxL104, pxL105, pxL106, pxL107, pxL108, pxL109, pxL110, pxL111, pxL112, pxL113, pxL114, pxL115, pxL116, pxL117, pxL118, pxL119, pxL120, pxL121, pxL122, pxL123, pxL124, pxL125, pxL126, pxL200, pxL240, pxL287, pxL388, pxL400, pxL429, pxL431, pxL440, pxL1240, pxL1600, pxL1681, pxL12028, pxL13849, pxL14880, pxL25173, pxL26908, pxL49600, pxL65535, pxL65536, ↓reduceIte, pxJ_add, pxJ_sub, pxJ_mul, pxJ_neg, pxD_lt_t, pxD_lt_f, pxD_le_t, pxD_le_f, pxD_eq_t, pxD_eq_f, pxJ_lt, pxJ_le, pxJ_eq, px_gI, px_gR, px_pI, px_rc, px_ai, px_ar, px_si, px_ln, px_cp, pxJ_div, pxJ_b8, pxJ_byte, px_b2, px_bs, px_rb0, px_rb1, px_min, px_max, px_compare, pxW_some, jw_t_I, px_cpt, jw_r_I, px_cpr, jw_l_I, px_cpl, Option.some.injEq, t7, r2, r7 k hx.1 hx.2]
  · rw [if_neg hx]
    by_cases hy : k < 0
    · simp (disch := first | assumption | omega | (simp only [jw_t_I, px_cpt, t7]; done) | (simp only [jw_t_I, px_cpt, t7]; omega)) only [pxL0, pxL1, pxL2, pxL3, pxL4, pxL5, pxL6, pxL7, pxL8, pxL9, pxL10, pxL11, pxL12, pxL13, pxL14, pxL15, pxL16, pxL17, pxL18, pxL19, pxL20, pxL21, pxL22, pxL23, pxL24, pxL25, pxL26, pxL27, pxL28, pxL29, pxL30, pxL31, pxL32, pxL33, pxL34, pxL35, pxL36, pxL37, pxL38, pxL39, pxL40, pxL41, pxL42, pxL43, pxL44, pxL45, pxL46, pxL47, pxL48, pxL49, pxL51, pxL57, pxL58, pxL59, pxL60, pxL61, pxL62, pxL63, pxL64, pxL65, pxL66, pxL67, pxL68, pxL69, pxL70, pxL71, pxL72, pxL73, pxL74, pxL75, pxL76, pxL77, pxL78, pxL79, pxL80, pxL81, pxL82, pxL83, pxL84, pxL85, pxL86, pxL87, pxL88, pxL89, pxL90, pxL91, pxL92, pxL93, pxL94, pxL95, pxL96, pxL97, pxL98, pxL99, pxL100, pxL101, pxL102, pxL103, pxL104, pxL105, pxL106, pxL107, pxL108, pxL109, pxL110, pxL111, pxL112, pxL113, pxL114, pxL115, pxL116, pxL117, pxL118, pxL119, pxL120, pxL121, pxL122, pxL123, pxL124, pxL125, pxL126, pxL200, pxL240, pxL287, pxL388, pxL400, pxL429, pxL431, pxL440, pxL1240, pxL1600, pxL1681, pxL12028, pxL13849, pxL14880, pxL25173, pxL26908, pxL49600, pxL65535, pxL65536, ↓reduceIte, pxJ_add, pxJ_sub, pxJ_mul, pxJ_neg, pxD_lt_t, pxD_lt_f, pxD_le_t, pxD_le_f, pxD_eq_t, pxD_eq_f, pxJ_lt, pxJ_le, pxJ_eq, px_gI, px_gR, px_pI, px_rc, px_ai, px_ar, px_si, px_ln, px_cp, pxJ_div, pxJ_b8, pxJ_byte, px_b2, px_bs, px_rb0, px_rb1, px_min, px_max, px_compare, pxW_some, jw_t_I, px_cpt, jw_r_I, px_cpr, jw_l_I, px_cpl, Option.some.injEq, t7, r2]
    · simp (disch := first | assumption | omega | (simp only [jw_t_I, px_cpt, t7]; done) | (simp only [jw_t_I, px_cpt, t7]; omega)) only [pxL0, pxL1, pxL2, pxL3, pxL4, pxL5, pxL6, pxL7, pxL8, pxL9, pxL10, pxL11, pxL12, pxL13, pxL14, pxL15, pxL16, pxL17, pxL18, pxL19, pxL20, pxL21, pxL22, pxL23, pxL24, pxL25, pxL26, pxL27, pxL28, pxL29, pxL30, pxL31, pxL32, pxL33, pxL34, pxL35, pxL36, pxL37, pxL38, pxL39, pxL40, pxL41, pxL42, pxL43, pxL44, pxL45, pxL46, pxL47, pxL48, pxL49, pxL51, pxL57, pxL58, pxL59, pxL60, pxL61, pxL62, pxL63, pxL64, pxL65, pxL66, pxL67, pxL68, pxL69, pxL70, pxL71, pxL72, pxL73, pxL74, pxL75, pxL76, pxL77, pxL78, pxL79, pxL80, pxL81, pxL82, pxL83, pxL84, pxL85, pxL86, pxL87, pxL88, pxL89, pxL90, pxL91, pxL92, pxL93, pxL94, pxL95, pxL96, pxL97, pxL98, pxL99, pxL100, pxL101, pxL102, pxL103, pxL104, pxL105, pxL106, pxL107, pxL108, pxL109, pxL110, pxL111, pxL112, pxL113, pxL114, pxL115, pxL116, pxL117, pxL118, pxL119, pxL120, pxL121, pxL122, pxL123, pxL124, pxL125, pxL126, pxL200, pxL240, pxL287, pxL388, pxL400, pxL429, pxL431, pxL440, pxL1240, pxL1600, pxL1681, pxL12028, pxL13849, pxL14880, pxL25173, pxL26908, pxL49600, pxL65535, pxL65536, ↓reduceIte, pxJ_add, pxJ_sub, pxJ_mul, pxJ_neg, pxD_lt_t, pxD_lt_f, pxD_le_t, pxD_le_f, pxD_eq_t, pxD_eq_f, pxJ_lt, pxJ_le, pxJ_eq, px_gI, px_gR, px_pI, px_rc, px_ai, px_ar, px_si, px_ln, px_cp, pxJ_div, pxJ_b8, pxJ_byte, px_b2, px_bs, px_rb0, px_rb1, px_min, px_max, px_compare, pxW_some, jw_t_I, px_cpt, jw_r_I, px_cpr, jw_l_I, px_cpl, Option.some.injEq, t7, r2]
theorem s_X8_hold_b11 {ρ cap : Nat} {rs : List (List Int)} (hd : ρ + 2 < s ∨ s + 20 < ρ) {y : Int} (hy : y ≤ rs.length) : ∀ (m N : Nat) (h : jw_H) (x : Int) (hl : List (List Int)), x + m = y + 1 → 1 ≤ x → m < N → pxIR h ρ cap rs → pxSS h s → pxIR h (s + 1) 40 hl → hl.length + m ≤ 40 →
    pxW (f_X8_hold_b11 N h s (some ρ) (pxJ y) (pxJ x)) fun _ h' => pxF (pxC (s + 1) (s + 3)) h h' ∧ pxIR h' (s + 1) 40 (hl ++ (rs.drop (x - 1).toNat).take m) := by
  intro m
  induction m with
  | zero =>
    intro N h x hl hx h1 hN R S K hm
    obtain ⟨N, rfl, -⟩ := px_fu hN
    have c1 := R.2.1
    have c2 := R.1.2.2.2.2.2
    rw [u_X8_hold_b11]
    unfold g_X8_hold_b11
    simp (disch := first | assumption | omega | (simp only [jw_t_I, px_cpt]; done) | (simp only [jw_t_I, px_cpt]; omega)) only [pxL0, pxL1, pxL2, pxL3, pxL4, pxL5, pxL6, pxL7, pxL8, pxL9, pxL10, pxL11, pxL12, pxL13, pxL14, pxL15, pxL16, pxL17, pxL18, pxL19, pxL20, pxL21, pxL22, pxL23, pxL24, pxL25, pxL26, pxL27, pxL28, pxL29, pxL30, pxL31, pxL32, pxL33, pxL34, pxL35, pxL36, pxL37, pxL38, pxL39, pxL40, pxL41, pxL42, pxL43, pxL44, pxL45, pxL46, pxL47, pxL48, pxL49, pxL51, pxL57, pxL58, pxL59, pxL60, pxL61, pxL62, pxL63, pxL64, pxL65, pxL66, pxL67, pxL68, pxL69, pxL70, pxL71, pxL72, pxL73, pxL74, pxL75, pxL76, pxL77, pxL78, pxL79, pxL80, pxL81, pxL82, pxL83, pxL84, pxL85, pxL86, pxL87, pxL88, pxL89, pxL90, pxL91, pxL92, pxL93, pxL94, pxL95, pxL96, pxL97, pxL98, pxL99, pxL100, pxL101, pxL102, pxL103, pxL104, pxL105, pxL106, pxL107, pxL108, pxL109, pxL110, pxL111, pxL112, pxL113, pxL114, pxL115, pxL116, pxL117, pxL118, pxL119, pxL120, pxL121, pxL122, pxL123, pxL124, pxL125, pxL126, pxL200, pxL240, pxL287, pxL388, pxL400, pxL429, pxL431, pxL440, pxL1240, pxL1600, pxL1681, pxL12028, pxL13849, pxL14880, pxL25173, pxL26908, pxL49600, pxL65535, pxL65536, ↓reduceIte, pxJ_add, pxJ_sub, pxJ_mul, pxJ_neg, pxD_lt_t, pxD_lt_f, pxD_le_t, pxD_le_f, pxD_eq_t, pxD_eq_f, pxJ_lt, pxJ_le, pxJ_eq, px_gI, px_gR, px_pI, px_rc, px_ai, px_ar, px_si, px_ln, px_cp, pxJ_div, pxJ_b8, pxJ_byte, px_b2, px_bs, px_rb0, px_rb1, px_min, px_max, px_compare, pxW_some, jw_t_I, px_cpt, jw_r_I, px_cpr, jw_l_I, px_cpl, Option.some.injEq, List.take_zero, List.append_nil]
    exact ⟨pxF.rfl, K⟩
  | succ m ih =>
    intro N h x hl hx h1 hN R S K hm
    obtain ⟨N, rfl, hN⟩ := px_fu hN
    have c1 := R.2.1
    have c2 := R.1.2.2.2.2.2
    have k0 := K.1.1
    rw [u_X8_hold_b11]
    unfold g_X8_hold_b11
    obtain ⟨t0, r0, r1, r2, r3, t7, r7, t20⟩ := id S
    simp (disch := first | assumption | omega | (simp only [jw_t_I, px_cpt]; done) | (simp only [jw_t_I, px_cpt]; omega)) only [pxL0, pxL1, pxL2, pxL3, pxL4, pxL5, pxL6, pxL7, pxL8, pxL9, pxL10, pxL11, pxL12, pxL13, pxL14, pxL15, pxL16, pxL17, pxL18, pxL19, pxL20, pxL21, pxL22, pxL23, pxL24, pxL25, pxL26, pxL27, pxL28, pxL29, pxL30, pxL31, pxL32, pxL33, pxL34, pxL35, pxL36, pxL37, pxL38, pxL39, pxL40, pxL41, pxL42, pxL43, pxL44, pxL45, pxL46, pxL47, pxL48, pxL49, pxL51, pxL57, pxL58, pxL59, pxL60, pxL61, pxL62, pxL63, pxL64, pxL65, pxL66, pxL67, pxL68, pxL69, pxL70, pxL71, pxL72, pxL73, pxL74, pxL75, pxL76, pxL77, pxL78, pxL79, pxL80, pxL81, pxL82, pxL83, pxL84, pxL85, pxL86, pxL87, pxL88, pxL89, pxL90, pxL91, pxL92, pxL93, pxL94, pxL95, pxL96, pxL97, pxL98, pxL99, pxL100, pxL101, pxL102, pxL103, pxL104, pxL105, pxL106, pxL107, pxL108, pxL109, pxL110, pxL111, pxL112, pxL113, pxL114, pxL115, pxL116, pxL117, pxL118, pxL119, pxL120, pxL121, pxL122, pxL123, pxL124, pxL125, pxL126, pxL200, pxL240, pxL287, pxL388, pxL400, pxL429, pxL431, pxL440, pxL1240, pxL1600, pxL1681, pxL12028, pxL13849, pxL14880, pxL25173, pxL26908, pxL49600, pxL65535, pxL65536, ↓reduceIte, pxJ_add, pxJ_sub, pxJ_mul, pxJ_neg, pxD_lt_t, pxD_lt_f, pxD_le_t, pxD_le_f, pxD_eq_t, pxD_eq_f, pxJ_lt, pxJ_le, pxJ_eq, px_gI, px_gR, px_pI, px_rc, px_ai, px_ar, px_si, px_ln, px_cp, pxJ_div, pxJ_b8, pxJ_byte, px_b2, px_bs, px_rb0, px_rb1, px_min, px_max, px_compare, pxW_some, jw_t_I, px_cpt, jw_r_I, px_cpr, jw_l_I, px_cpl, Option.some.injEq, r0]
    refine pxW_b2 (s_X7_addRow K R h1 (by omega)) fun q h1' k => ?_
    obtain ⟨F, -, K1⟩ := k
    rw [if_pos (by omega)] at K1
    have F' : pxF (pxC (s + 1) (s + 3)) h h1' := F
    have := ih N h1' (x + 1) (hl ++ [pxRw rs x]) (by omega) (by omega) (by omega) (R.fr F (fun k f _ _ => by unfold pxC; omega)) (S.fr F (fun k f _ => by unfold pxC; omega)) K1 (by rw [List.length_append, List.length_singleton]; omega)
    refine this.mono fun _ h' q => ⟨F'.trans q.1, ?_⟩
    have e : hl ++ (rs.drop (x - 1).toNat).take (m + 1) = hl ++ [pxRw rs x] ++ (rs.drop (x + 1 - 1).toNat).take m := by
      rw [pxG_dropc (d := []) h1 (by omega), List.take_succ_cons, show x + 1 - 1 = x by omega, List.append_assoc]; rfl
    rw [e]
    exact q.2
theorem s_X8_hold (H : pxIS h s hl ou fl) {ρ cap : Nat} {rs : List (List Int)} (R : pxIR h ρ cap rs) (hd : ρ + 2 < s ∨ s + 20 < ρ) {x y : Int} (hx : 1 ≤ x) (hxy : x ≤ y + 1) (hy : y ≤ rs.length) (hm : y - x + 1 ≤ 40) :
    pxW (f_X8_hold h s (some ρ) (pxJ x) (pxJ y)) fun _ h' => pxF (pxC s (s + 20)) h h' ∧ pxIS h' s (pxSub rs x y) ou fl := by
  obtain ⟨S, Kh, Ko, Kf⟩ := id H
  obtain ⟨t0, r0, r1, r2, r3, t7, r7, t20⟩ := id S
  have k0 := Kh.1.1
  unfold f_X8_hold
  simp (disch := first | assumption | omega | (simp only [jw_t_I, px_cpt]; done) | (simp only [jw_t_I, px_cpt]; omega)) only [pxL0, pxL1, pxL2, pxL3, pxL4, pxL5, pxL6, pxL7, pxL8, pxL9, pxL10, pxL11, pxL12, pxL13, pxL14, pxL15, pxL16, pxL17, pxL18, pxL19, pxL20, pxL21, pxL22, pxL23, pxL24, pxL25, pxL26, pxL27, pxL28, pxL29, pxL30, pxL31, pxL32, pxL33, pxL34, pxL35, pxL36, pxL37, pxL38, pxL39, pxL40, pxL41, pxL42, pxL43, pxL44, pxL45, pxL46, pxL47, pxL48, pxL49, pxL51, pxL57, pxL58, pxL59, pxL60, pxL61, pxL62, pxL63, pxL64, pxL65, pxL66, pxL67, pxL68, pxL69, pxL70, pxL71, pxL72, pxL73, pxL74, pxL75, pxL76, pxL77, pxL78, pxL79, pxL80, pxL81, pxL82, pxL83, pxL84, pxL85, pxL86, pxL87, pxL88, pxL89, pxL90, pxL91, pxL92, pxL93, pxL94, pxL95, pxL96, pxL97, pxL98, pxL99, pxL100, pxL101, pxL102, pxL103, pxL104, pxL105, pxL106, pxL107, pxL108, pxL109, pxL110, pxL111, pxL112, pxL113, pxL114, pxL115, pxL116, pxL117, pxL118, pxL119, pxL120, pxL121, pxL122, pxL123, pxL124, pxL125, pxL126, pxL200, pxL240, pxL287, pxL388, pxL400, pxL429, pxL431, pxL440, pxL1240, pxL1600, pxL1681, pxL12028, pxL13849, pxL14880, pxL25173, pxL26908, pxL49600, pxL65535, pxL65536, ↓reduceIte, pxJ_add, pxJ_sub, pxJ_mul, pxJ_neg, pxD_lt_t, pxD_lt_f, pxD_le_t, pxD_le_f, pxD_eq_t, pxD_eq_f, pxJ_lt, pxJ_le, pxJ_eq, px_gI, px_gR, px_pI, px_rc, px_ai, px_ar, px_si, px_ln, px_cp, pxJ_div, pxJ_b8, pxJ_byte, px_b2, px_bs, px_rb0, px_rb1, px_min, px_max, px_compare, pxW_some, jw_t_I, px_cpt, jw_r_I, px_cpr, jw_l_I, px_cpl, Option.some.injEq, r0]
  refine pxW_b2 (s_X7_shrink Kh (x := 0) (by omega) (by omega)) fun _ h1 k => ?_
  obtain ⟨F, K1⟩ := k
  have e0 : (if (0 : Int) ≤ 0 ∧ (0 : Int) < hl.length then hl.take (0 : Int).toNat else hl) = [] := by
    cases hl with
    | nil => simp
    | cons a l => simp
  rw [e0] at K1
  refine (s_X8_hold_b11 hd hy (y - x + 1).toNat jw_FU h1 x [] (by omega) hx (by unfold jw_FU; omega) (R.fr F (fun k f _ _ => by unfold pxC; omega)) (S.fr F (fun k f _ => by unfold pxC; omega)) K1 (by simp; omega)).mono fun _ h' q => ?_
  have F2 : pxF (pxC (s + 1) (s + 3)) h h' := pxF.trans F q.1
  refine ⟨F2.mono (fun k f e => by unfold pxC at *; omega), S.fr F2 (fun k f _ => by unfold pxC; omega), q.2, Ko.fr F2 (fun k f _ _ => by unfold pxC; omega), fun k k1 k2 => (Kf k k1 k2).fr F2 (fun k f _ _ => by unfold pxC; omega)⟩
theorem s_X8_holdMore_b23 {ρ cap : Nat} {rs : List (List Int)} (hd : ρ + 2 < s ∨ s + 20 < ρ) {y : Int} (hy : y ≤ rs.length) : ∀ (m N : Nat) (h : jw_H) (x : Int) (hl : List (List Int)), x + m = y + 1 → 1 ≤ x → m < N → pxIR h ρ cap rs → pxSS h s → pxIR h (s + 1) 40 hl → hl.length + m ≤ 40 →
    pxW (f_X8_holdMore_b23 N h s (some ρ) (pxJ y) (pxJ x)) fun q h' => q = pxJ 0 ∧ pxF (pxC (s + 1) (s + 3)) h h' ∧ pxIR h' (s + 1) 40 (hl ++ (rs.drop (x - 1).toNat).take m) := by
  intro m
  induction m with
  | zero =>
    intro N h x hl hx h1 hN R S K hm
    obtain ⟨N, rfl, -⟩ := px_fu hN
    have c1 := R.2.1
    have c2 := R.1.2.2.2.2.2
    rw [u_X8_holdMore_b23]
    unfold g_X8_holdMore_b23
    simp (disch := first | assumption | omega | (simp only [jw_t_I, px_cpt]; done) | (simp only [jw_t_I, px_cpt]; omega)) only [pxL0, pxL1, pxL2, pxL3, pxL4, pxL5, pxL6, pxL7, pxL8, pxL9, pxL10, pxL11, pxL12, pxL13, pxL14, pxL15, pxL16, pxL17, pxL18, pxL19, pxL20, pxL21, pxL22, pxL23, pxL24, pxL25, pxL26, pxL27, pxL28, pxL29, pxL30, pxL31, pxL32, pxL33, pxL34, pxL35, pxL36, pxL37, pxL38, pxL39, pxL40, pxL41, pxL42, pxL43, pxL44, pxL45, pxL46, pxL47, pxL48, pxL49, pxL51, pxL57, pxL58, pxL59, pxL60, pxL61, pxL62, pxL63, pxL64, pxL65, pxL66, pxL67, pxL68, pxL69, pxL70, pxL71, pxL72, pxL73, pxL74, pxL75, pxL76, pxL77, pxL78, pxL79, pxL80, pxL81, pxL82, pxL83, pxL84, pxL85, pxL86, pxL87, pxL88, pxL89, pxL90, pxL91, pxL92, pxL93, pxL94, pxL95, pxL96, pxL97, pxL98, pxL99, pxL100, pxL101, pxL102, pxL103, pxL104, pxL105, pxL106, pxL107, pxL108, pxL109, pxL110, pxL111, pxL112, pxL113, pxL114, pxL115, pxL116, pxL117, pxL118, pxL119, pxL120, pxL121, pxL122, pxL123, pxL124, pxL125, pxL126, pxL200, pxL240, pxL287, pxL388, pxL400, pxL429, pxL431, pxL440, pxL1240, pxL1600, pxL1681, pxL12028, pxL13849, pxL14880, pxL25173, pxL26908, pxL49600, pxL65535, pxL65536, ↓reduceIte, pxJ_add, pxJ_sub, pxJ_mul, pxJ_neg, pxD_lt_t, pxD_lt_f, pxD_le_t, pxD_le_f, pxD_eq_t, pxD_eq_f, pxJ_lt, pxJ_le, pxJ_eq, px_gI, px_gR, px_pI, px_rc, px_ai, px_ar, px_si, px_ln, px_cp, pxJ_div, pxJ_b8, pxJ_byte, px_b2, px_bs, px_rb0, px_rb1, px_min, px_max, px_compare, pxW_some, jw_t_I, px_cpt, jw_r_I, px_cpr, jw_l_I, px_cpl, Option.some.injEq, List.take_zero, List.append_nil]
    exact ⟨trivial, pxF.rfl, K⟩
  | succ m ih =>
    intro N h x hl hx h1 hN R S K hm
    obtain ⟨N, rfl, hN⟩ := px_fu hN
    have c1 := R.2.1
    have c2 := R.1.2.2.2.2.2
    have k0 := K.1.1
    rw [u_X8_holdMore_b23]
    unfold g_X8_holdMore_b23
    obtain ⟨t0, r0, r1, r2, r3, t7, r7, t20⟩ := id S
    simp (disch := first | assumption | omega | (simp only [jw_t_I, px_cpt]; done) | (simp only [jw_t_I, px_cpt]; omega)) only [pxL0, pxL1, pxL2, pxL3, pxL4, pxL5, pxL6, pxL7, pxL8, pxL9, pxL10, pxL11, pxL12, pxL13, pxL14, pxL15, pxL16, pxL17, pxL18, pxL19, pxL20, pxL21, pxL22, pxL23, pxL24, pxL25, pxL26, pxL27, pxL28, pxL29, pxL30, pxL31, pxL32, pxL33, pxL34, pxL35, pxL36, pxL37, pxL38, pxL39, pxL40, pxL41, pxL42, pxL43, pxL44, pxL45, pxL46, pxL47, pxL48, pxL49, pxL51, pxL57, pxL58, pxL59, pxL60, pxL61, pxL62, pxL63, pxL64, pxL65, pxL66, pxL67, pxL68, pxL69, pxL70, pxL71, pxL72, pxL73, pxL74, pxL75, pxL76, pxL77, pxL78, pxL79, pxL80, pxL81, pxL82, pxL83, pxL84, pxL85, pxL86, pxL87, pxL88, pxL89, pxL90, pxL91, pxL92, pxL93, pxL94, pxL95, pxL96, pxL97, pxL98, pxL99, pxL100, pxL101, pxL102, pxL103, pxL104, pxL105, pxL106, pxL107, pxL108, pxL109, pxL110, pxL111, pxL112, pxL113, pxL114, pxL115, pxL116, pxL117, pxL118, pxL119, pxL120, pxL121, pxL122, pxL123, pxL124, pxL125, pxL126, pxL200, pxL240, pxL287, pxL388, pxL400, pxL429, pxL431, pxL440, pxL1240, pxL1600, pxL1681, pxL12028, pxL13849, pxL14880, pxL25173, pxL26908, pxL49600, pxL65535, pxL65536, ↓reduceIte, pxJ_add, pxJ_sub, pxJ_mul, pxJ_neg, pxD_lt_t, pxD_lt_f, pxD_le_t, pxD_le_f, pxD_eq_t, pxD_eq_f, pxJ_lt, pxJ_le, pxJ_eq, px_gI, px_gR, px_pI, px_rc, px_ai, px_ar, px_si, px_ln, px_cp, pxJ_div, pxJ_b8, pxJ_byte, px_b2, px_bs, px_rb0, px_rb1, px_min, px_max, px_compare, pxW_some, jw_t_I, px_cpt, jw_r_I, px_cpr, jw_l_I, px_cpl, Option.some.injEq, r0]
    refine pxW_b2 (s_X7_addRow K R h1 (by omega)) fun q h1' k => ?_
    obtain ⟨F, -, K1⟩ := k
    rw [if_pos (by omega)] at K1
    have F' : pxF (pxC (s + 1) (s + 3)) h h1' := F
    have := ih N h1' (x + 1) (hl ++ [pxRw rs x]) (by omega) (by omega) (by omega) (R.fr F (fun k f _ _ => by unfold pxC; omega)) (S.fr F (fun k f _ => by unfold pxC; omega)) K1 (by rw [List.length_append, List.length_singleton]; omega)
    refine this.mono fun _ h' q => ⟨q.1, F'.trans q.2.1, ?_⟩
    have e : hl ++ (rs.drop (x - 1).toNat).take (m + 1) = hl ++ [pxRw rs x] ++ (rs.drop (x + 1 - 1).toNat).take m := by
      rw [pxG_dropc (d := []) h1 (by omega), List.take_succ_cons, show x + 1 - 1 = x by omega, List.append_assoc]; rfl
    rw [e]
    exact q.2.2
theorem s_X8_holdMore (H : pxIS h s hl ou fl) {ρ cap : Nat} {rs : List (List Int)} (R : pxIR h ρ cap rs) (hd : ρ + 2 < s ∨ s + 20 < ρ) {x y : Int} (hx : 1 ≤ x) (hxy : x ≤ y + 1) (hy : y ≤ rs.length) :
    pxW (f_X8_holdMore h s (some ρ) (pxJ x) (pxJ y)) fun q h' => pxF (pxC s (s + 20)) h h' ∧ q = pxJ (if hl.length + (y - x + 1) ≤ 40 then 0 else 4) ∧ pxIS h' s (if hl.length + (y - x + 1) ≤ 40 then hl ++ pxSub rs x y else hl) ou fl := by
  obtain ⟨S, Kh, Ko, Kf⟩ := id H
  obtain ⟨t0, r0, r1, r2, r3, t7, r7, t20⟩ := id S
  have k0 := Kh.1.1
  have c1 := R.2.1
  have c2 := R.1.2.2.2.2.2
  have c3 := Kh.2.1
  unfold f_X8_holdMore
  by_cases hz : hl.length + (y - x + 1) ≤ 40
  · simp only [if_pos hz]
    simp (disch := first | assumption | omega | (simp only [jw_t_I, px_cpt]; done) | (simp only [jw_t_I, px_cpt]; omega)) only [pxL0, pxL1, pxL2, pxL3, pxL4, pxL5, pxL6, pxL7, pxL8, pxL9, pxL10, pxL11, pxL12, pxL13, pxL14, pxL15, pxL16, pxL17, pxL18, pxL19, pxL20, pxL21, pxL22, pxL23, pxL24, pxL25, pxL26, pxL27, pxL28, pxL29, pxL30, pxL31, pxL32, pxL33, pxL34, pxL35, pxL36, pxL37, pxL38, pxL39, pxL40, pxL41, pxL42, pxL43, pxL44, pxL45, pxL46, pxL47, pxL48, pxL49, pxL51, pxL57, pxL58, pxL59, pxL60, pxL61, pxL62, pxL63, pxL64, pxL65, pxL66, pxL67, pxL68, pxL69, pxL70, pxL71, pxL72, pxL73, pxL74, pxL75, pxL76, pxL77, pxL78, pxL79, pxL80, pxL81, pxL82, pxL83, pxL84, pxL85, pxL86, pxL87, pxL88, pxL89, pxL90, pxL91, pxL92, pxL93, pxL94, pxL95, pxL96, pxL97, pxL98, pxL99, pxL100, pxL101, pxL102, pxL103, pxL104, pxL105, pxL106, pxL107, pxL108, pxL109, pxL110, pxL111, pxL112, pxL113, pxL114, pxL115, pxL116, pxL117, pxL118, pxL119, pxL120, pxL121, pxL122, pxL123, pxL124, pxL125, pxL126, pxL200, pxL240, pxL287, pxL388, pxL400, pxL429, pxL431, pxL440, pxL1240, pxL1600, pxL1681, pxL12028, pxL13849, pxL14880, pxL25173, pxL26908, pxL49600, pxL65535, pxL65536, ↓reduceIte, pxJ_add, pxJ_sub, pxJ_mul, pxJ_neg, pxD_lt_t, pxD_lt_f, pxD_le_t, pxD_le_f, pxD_eq_t, pxD_eq_f, pxJ_lt, pxJ_le, pxJ_eq, px_gI, px_gR, px_pI, px_rc, px_ai, px_ar, px_si, px_ln, px_cp, pxJ_div, pxJ_b8, pxJ_byte, px_b2, px_bs, px_rb0, px_rb1, px_min, px_max, px_compare, pxW_some, jw_t_I, px_cpt, jw_r_I, px_cpr, jw_l_I, px_cpl, Option.some.injEq, r0, Kh.2.2.2.1]
    refine (s_X8_holdMore_b23 hd hy (y - x + 1).toNat jw_FU h x hl (by omega) hx (by unfold jw_FU; omega) R S Kh (by omega)).mono fun q h' k => ?_
    obtain ⟨k1, F2, k3⟩ := k
    exact ⟨F2.mono (fun k f e => by unfold pxC at *; omega), k1, S.fr F2 (fun k f _ => by unfold pxC; omega), k3, Ko.fr F2 (fun k f _ _ => by unfold pxC; omega), fun k k1 k2 => (Kf k k1 k2).fr F2 (fun k f _ _ => by unfold pxC; omega)⟩
  · simp only [if_neg hz]
    simp (disch := first | assumption | omega | (simp only [jw_t_I, px_cpt]; done) | (simp only [jw_t_I, px_cpt]; omega)) only [pxL0, pxL1, pxL2, pxL3, pxL4, pxL5, pxL6, pxL7, pxL8, pxL9, pxL10, pxL11, pxL12, pxL13, pxL14, pxL15, pxL16, pxL17, pxL18, pxL19, pxL20, pxL21, pxL22, pxL23, pxL24, pxL25, pxL26, pxL27, pxL28, pxL29, pxL30, pxL31, pxL32, pxL33, pxL34, pxL35, pxL36, pxL37, pxL38, pxL39, pxL40, pxL41, pxL42, pxL43, pxL44, pxL45, pxL46, pxL47, pxL48, pxL49, pxL51, pxL57, pxL58, pxL59, pxL60, pxL61, pxL62, pxL63, pxL64, pxL65, pxL66, pxL67, pxL68, pxL69, pxL70, pxL71, pxL72, pxL73, pxL74, pxL75, pxL76, pxL77, pxL78, pxL79, pxL80, pxL81, pxL82, pxL83, pxL84, pxL85, pxL86, pxL87, pxL88, pxL89, pxL90, pxL91, pxL92, pxL93, pxL94, pxL95, pxL96, pxL97, pxL98, pxL99, pxL100, pxL101, pxL102, pxL103, pxL104, pxL105, pxL106, pxL107, pxL108, pxL109, pxL110, pxL111, pxL112, pxL113, pxL114, pxL115, pxL116, pxL117, pxL118, pxL119, pxL120, pxL121, pxL122, pxL123, pxL124, pxL125, pxL126, pxL200, pxL240, pxL287, pxL388, pxL400, pxL429, pxL431, pxL440, pxL1240, pxL1600, pxL1681, pxL12028, pxL13849, pxL14880, pxL25173, pxL26908, pxL49600, pxL65535, pxL65536, ↓reduceIte, pxJ_add, pxJ_sub, pxJ_mul, pxJ_neg, pxD_lt_t, pxD_lt_f, pxD_le_t, pxD_le_f, pxD_eq_t, pxD_eq_f, pxJ_lt, pxJ_le, pxJ_eq, px_gI, px_gR, px_pI, px_rc, px_ai, px_ar, px_si, px_ln, px_cp, pxJ_div, pxJ_b8, pxJ_byte, px_b2, px_bs, px_rb0, px_rb1, px_min, px_max, px_compare, pxW_some, jw_t_I, px_cpt, jw_r_I, px_cpr, jw_l_I, px_cpl, Option.some.injEq, r0, Kh.2.2.2.1]
    exact ⟨pxF.rfl, trivial, H⟩
theorem s_X8_copy_b24 {s2 : Nat} (hd : s2 + 20 < s ∨ s + 20 < s2) {fl2 : Int → List (List Int)} :
    ∀ (m N : Nat) (h : jw_H) (k : Int), k + m = 4 → 0 ≤ k → m < N → pxSS h s → pxSS h s2 → (∀ j : Int, 0 ≤ j → j < 4 → pxSR h (s + 8 + 3 * j.toNat) 40) → (∀ j : Int, 0 ≤ j → j < 4 → pxIR h (s2 + 8 + 3 * j.toNat) 40 (fl2 j)) → (∀ j : Int, 0 ≤ j → j < k → pxIR h (s + 8 + 3 * j.toNat) 40 (fl2 j)) →
      pxW (f_X8_copy_b24 N h s (some s2) (pxJ k)) fun _ h' => pxF (pxC (s + 8) (s + 19)) h h' ∧ ∀ j : Int, 0 ≤ j → j < 4 → pxIR h' (s + 8 + 3 * j.toNat) 40 (fl2 j) := by
  intro m
  induction m with
  | zero =>
    intro N h k hk h0 hN S S2 A B D
    obtain ⟨N, rfl, -⟩ := px_fu hN
    rw [u_X8_copy_b24]
    unfold g_X8_copy_b24
    simp (disch := first | assumption | omega | (simp only [jw_t_I, px_cpt]; done) | (simp only [jw_t_I, px_cpt]; omega)) only [pxL0, pxL1, pxL2, pxL3, pxL4, pxL5, pxL6, pxL7, pxL8, pxL9, pxL10, pxL11, pxL12, pxL13, pxL14, pxL15, pxL16, pxL17, pxL18, pxL19, pxL20, pxL21, pxL22, pxL23, pxL24, pxL25, pxL26, pxL27, pxL28, pxL29, pxL30, pxL31, pxL32, pxL33, pxL34, pxL35, pxL36, pxL37, pxL38, pxL39, pxL40, pxL41, pxL42, pxL43, pxL44, pxL45, pxL46, pxL47, pxL48, pxL49, pxL51, pxL57, pxL58, pxL59, pxL60, pxL61, pxL62, pxL63, pxL64, pxL65, pxL66, pxL67, pxL68, pxL69, pxL70, pxL71, pxL72, pxL73, pxL74, pxL75, pxL76, pxL77, pxL78, pxL79, pxL80, pxL81, pxL82, pxL83, pxL84, pxL85, pxL86, pxL87, pxL88, pxL89, pxL90, pxL91, pxL92, pxL93, pxL94, pxL95, pxL96, pxL97, pxL98, pxL99, pxL100, pxL101, pxL102, pxL103, pxL104, pxL105, pxL106, pxL107, pxL108, pxL109, pxL110, pxL111, pxL112, pxL113, pxL114, pxL115, pxL116, pxL117, pxL118, pxL119, pxL120, pxL121, pxL122, pxL123, pxL124, pxL125, pxL126, pxL200, pxL240, pxL287, pxL388, pxL400, pxL429, pxL431, pxL440, pxL1240, pxL1600, pxL1681, pxL12028, pxL13849, pxL14880, pxL25173, pxL26908, pxL49600, pxL65535, pxL65536, ↓reduceIte, pxJ_add, pxJ_sub, pxJ_mul, pxJ_neg, pxD_lt_t, pxD_lt_f, pxD_le_t, pxD_le_f, pxD_eq_t, pxD_eq_f, pxJ_lt, pxJ_le, pxJ_eq, px_gI, px_gR, px_pI, px_rc, px_ai, px_ar, px_si, px_ln, px_cp, pxJ_div, pxJ_b8, pxJ_byte, px_b2, px_bs, px_rb0, px_rb1, px_min, px_max, px_compare, pxW_some, jw_t_I, px_cpt, jw_r_I, px_cpr, jw_l_I, px_cpl, Option.some.injEq]
    exact ⟨pxF.rfl, fun j j1 j2 => D j j1 (by omega)⟩
  | succ m ih =>
    intro N h k hk h0 hN S S2 A B D
    obtain ⟨N, rfl, hN⟩ := px_fu hN
    rw [u_X8_copy_b24]
    unfold g_X8_copy_b24 g_X8_copy_b57
    have e1 := s_X8_file S (k := k) (by omega) (by omega)
    have e2 := s_X8_file S2 (k := k) (by omega) (by omega)
    rw [if_pos (by omega)] at e1 e2
    have s0 := S.1
    have s20 := S2.1
    have a0 := (A k h0 (by omega)).1
    simp (disch := first | assumption | omega | (simp only [jw_t_I, px_cpt]; done) | (simp only [jw_t_I, px_cpt]; omega)) only [pxL0, pxL1, pxL2, pxL3, pxL4, pxL5, pxL6, pxL7, pxL8, pxL9, pxL10, pxL11, pxL12, pxL13, pxL14, pxL15, pxL16, pxL17, pxL18, pxL19, pxL20, pxL21, pxL22, pxL23, pxL24, pxL25, pxL26, pxL27, pxL28, pxL29, pxL30, pxL31, pxL32, pxL33, pxL34, pxL35, pxL36, pxL37, pxL38, pxL39, pxL40, pxL41, pxL42, pxL43, pxL44, pxL45, pxL46, pxL47, pxL48, pxL49, pxL51, pxL57, pxL58, pxL59, pxL60, pxL61, pxL62, pxL63, pxL64, pxL65, pxL66, pxL67, pxL68, pxL69, pxL70, pxL71, pxL72, pxL73, pxL74, pxL75, pxL76, pxL77, pxL78, pxL79, pxL80, pxL81, pxL82, pxL83, pxL84, pxL85, pxL86, pxL87, pxL88, pxL89, pxL90, pxL91, pxL92, pxL93, pxL94, pxL95, pxL96, pxL97, pxL98, pxL99, pxL100, pxL101, pxL102, pxL103, pxL104, pxL105, pxL106, pxL107, pxL108, pxL109, pxL110, pxL111, pxL112, pxL113, pxL114, pxL115, pxL116, pxL117, pxL118, pxL119, pxL120, pxL121, pxL122, pxL123, pxL124, pxL125, pxL126, pxL200, pxL240, pxL287, pxL388, pxL400, pxL429, pxL431, pxL440, pxL1240, pxL1600, pxL1681, pxL12028, pxL13849, pxL14880, pxL25173, pxL26908, pxL49600, pxL65535, pxL65536, ↓reduceIte, pxJ_add, pxJ_sub, pxJ_mul, pxJ_neg, pxD_lt_t, pxD_lt_f, pxD_le_t, pxD_le_f, pxD_eq_t, pxD_eq_f, pxJ_lt, pxJ_le, pxJ_eq, px_gI, px_gR, px_pI, px_rc, px_ai, px_ar, px_si, px_ln, px_cp, pxJ_div, pxJ_b8, pxJ_byte, px_b2, px_bs, px_rb0, px_rb1, px_min, px_max, px_compare, pxW_some, jw_t_I, px_cpt, jw_r_I, px_cpr, jw_l_I, px_cpl, Option.some.injEq, e1, e2, reduceCtorEq]
    have lf := (B k h0 (by omega)).2.1
    refine pxW_b2 (s_X7_copy (A k h0 (by omega)) (B k h0 (by omega)) (by omega) lf) fun _ h1 q => ?_
    obtain ⟨F, K⟩ := q
    have := ih N h1 (k + 1) (by omega) (by omega) (by omega) (S.fr F (fun k f _ => by unfold pxC; omega)) (S2.fr F (fun k f _ => by unfold pxC; omega)) (fun j j1 j2 => by
      by_cases hj : j = k
      · subst hj; exact K.1
      · exact (A j j1 j2).fr F (fun k f _ _ => by unfold pxC; omega)) (fun j j1 j2 => (B j j1 j2).fr F (fun k f _ _ => by unfold pxC; omega)) (fun j j1 j2 => by
      by_cases hj : j = k
      · subst hj; exact K
      · exact (D j j1 (by omega)).fr F (fun k f _ _ => by unfold pxC; omega))
    exact this.mono fun _ h' q => ⟨(F.mono (fun k f e => by unfold pxC at *; omega)).trans q.1, q.2⟩
/-- stores, whatever is in them -/
def pxSSX (h : jw_H) (s : Nat) : Prop := pxSS h s ∧ pxSR h (s + 1) 40 ∧ pxSR h (s + 4) 100 ∧ ∀ k : Int, 0 ≤ k → k < 4 → pxSR h (s + 8 + 3 * k.toNat) 40
theorem pxIS.sx (H : pxIS h s hl ou fl) : pxSSX h s := ⟨H.1, H.2.1.1, H.2.2.1.1, fun k k1 k2 => (H.2.2.2 k k1 k2).1⟩
theorem s_X8_copy (H : pxSSX h s) {s2 : Nat} (H2 : pxIS h s2 hl ou fl) (hd : s2 + 20 < s ∨ s + 20 < s2) : pxW (f_X8_copy h s (some s2)) fun _ h' => pxF (pxC s (s + 20)) h h' ∧ pxIS h' s hl ou fl := by
  obtain ⟨S, A, B, C⟩ := H
  obtain ⟨S2, A2, B2, C2⟩ := H2
  obtain ⟨t0, r0, r1, r2, r3, t7, r7, t20⟩ := id S
  obtain ⟨t0', r0', r1', -⟩ := id S2
  have a0 := A.1
  unfold f_X8_copy
  simp (disch := first | assumption | omega | (simp only [jw_t_I, px_cpt]; done) | (simp only [jw_t_I, px_cpt]; omega)) only [pxL0, pxL1, pxL2, pxL3, pxL4, pxL5, pxL6, pxL7, pxL8, pxL9, pxL10, pxL11, pxL12, pxL13, pxL14, pxL15, pxL16, pxL17, pxL18, pxL19, pxL20, pxL21, pxL22, pxL23, pxL24, pxL25, pxL26, pxL27, pxL28, pxL29, pxL30, pxL31, pxL32, pxL33, pxL34, pxL35, pxL36, pxL37, pxL38, pxL39, pxL40, pxL41, pxL42, pxL43, pxL44, pxL45, pxL46, pxL47, pxL48, pxL49, pxL51, pxL57, pxL58, pxL59, pxL60, pxL61, pxL62, pxL63, pxL64, pxL65, pxL66, pxL67, pxL68, pxL69, pxL70, pxL71, pxL72, pxL73, pxL74, pxL75, pxL76, pxL77, pxL78, pxL79, pxL80, pxL81, pxL82, pxL83, pxL84, pxL85, pxL86, pxL87, pxL88, pxL89, pxL90, pxL91, pxL92, pxL93, pxL94, pxL95, pxL96, pxL97, pxL98, pxL99, pxL100, pxL101, pxL102, pxL103, pxL104, pxL105, pxL106, pxL107, pxL108, pxL109, pxL110, pxL111, pxL112, pxL113, pxL114, pxL115, pxL116, pxL117, pxL118, pxL119, pxL120, pxL121, pxL122, pxL123, pxL124, pxL125, pxL126, pxL200, pxL240, pxL287, pxL388, pxL400, pxL429, pxL431, pxL440, pxL1240, pxL1600, pxL1681, pxL12028, pxL13849, pxL14880, pxL25173, pxL26908, pxL49600, pxL65535, pxL65536, ↓reduceIte, pxJ_add, pxJ_sub, pxJ_mul, pxJ_neg, pxD_lt_t, pxD_lt_f, pxD_le_t, pxD_le_f, pxD_eq_t, pxD_eq_f, pxJ_lt, pxJ_le, pxJ_eq, px_gI, px_gR, px_pI, px_rc, px_ai, px_ar, px_si, px_ln, px_cp, pxJ_div, pxJ_b8, pxJ_byte, px_b2, px_bs, px_rb0, px_rb1, px_min, px_max, px_compare, pxW_some, jw_t_I, px_cpt, jw_r_I, px_cpr, jw_l_I, px_cpl, Option.some.injEq, r0, r0']
  refine pxW_b2 (s_X7_copy A A2 (by omega) A2.2.1) fun _ h1 q => ?_
  obtain ⟨F1, K1⟩ := q
  have B' := B.fr F1 (fun k f _ _ => by unfold pxC; omega)
  have B2' := B2.fr F1 (fun k f _ _ => by unfold pxC; omega)
  have S' := S.fr F1 (fun k f _ => by unfold pxC; omega)
  have S2' := S2.fr F1 (fun k f _ => by unfold pxC; omega)
  have C' := fun k k1 k2 => (C k k1 k2).fr F1 (fun k f _ _ => by unfold pxC; omega)
  have C2' := fun k k1 k2 => (C2 k k1 k2).fr F1 (fun k f _ _ => by unfold pxC; omega)
  have b0 := B'.1
  obtain ⟨t0, r0, r1, r2, r3, t7, r7, t20⟩ := id S'
  obtain ⟨t0', r0', r1', -⟩ := id S2'
  simp (disch := first | assumption | omega | (simp only [jw_t_I, px_cpt]; done) | (simp only [jw_t_I, px_cpt]; omega)) only [pxL0, pxL1, pxL2, pxL3, pxL4, pxL5, pxL6, pxL7, pxL8, pxL9, pxL10, pxL11, pxL12, pxL13, pxL14, pxL15, pxL16, pxL17, pxL18, pxL19, pxL20, pxL21, pxL22, pxL23, pxL24, pxL25, pxL26, pxL27, pxL28, pxL29, pxL30, pxL31, pxL32, pxL33, pxL34, pxL35, pxL36, pxL37, pxL38, pxL39, pxL40, pxL41, pxL42, pxL43, pxL44, pxL45, pxL46, pxL47, pxL48, pxL49, pxL51, pxL57, pxL58, pxL59, pxL60, pxL61, pxL62, pxL63, pxL64, pxL65, pxL66, pxL67, pxL68, pxL69, pxL70, pxL71, pxL72, pxL73, pxL74, pxL75, pxL76, pxL77, pxL78, pxL79, pxL80, pxL81, pxL82, pxL83, pxL84, pxL85, pxL86, pxL87, pxL88, pxL89, pxL90, pxL91, pxL92, pxL93, pxL94, pxL95, pxL96, pxL97, pxL98, pxL99, pxL100, pxL101, pxL102, pxL103, pxL104, pxL105, pxL106, pxL107, pxL108, pxL109, pxL110, pxL111, pxL112, pxL113, pxL114, pxL115, pxL116, pxL117, pxL118, pxL119, pxL120, pxL121, pxL122, pxL123, pxL124, pxL125, pxL126, pxL200, pxL240, pxL287, pxL388, pxL400, pxL429, pxL431, pxL440, pxL1240, pxL1600, pxL1681, pxL12028, pxL13849, pxL14880, pxL25173, pxL26908, pxL49600, pxL65535, pxL65536, ↓reduceIte, pxJ_add, pxJ_sub, pxJ_mul, pxJ_neg, pxD_lt_t, pxD_lt_f, pxD_le_t, pxD_le_f, pxD_eq_t, pxD_eq_f, pxJ_lt, pxJ_le, pxJ_eq, px_gI, px_gR, px_pI, px_rc, px_ai, px_ar, px_si, px_ln, px_cp, pxJ_div, pxJ_b8, pxJ_byte, px_b2, px_bs, px_rb0, px_rb1, px_min, px_max, px_compare, pxW_some, jw_t_I, px_cpt, jw_r_I, px_cpr, jw_l_I, px_cpl, Option.some.injEq, r1, r1']
  refine pxW_b2 (s_X7_copy B' B2' (by omega) B2'.2.1) fun _ h2 q => ?_
  obtain ⟨F2, K2⟩ := q
  refine (s_X8_copy_b24 hd 4 jw_FU h2 0 (by omega) (by omega) (by unfold jw_FU; omega) (S'.fr F2 (fun k f _ => by unfold pxC; omega)) (S2'.fr F2 (fun k f _ => by unfold pxC; omega)) (fun k k1 k2 => (C' k k1 k2).fr F2 (fun k f _ _ => by unfold pxC; omega)) (fun k k1 k2 => (C2' k k1 k2).fr F2 (fun k f _ _ => by unfold pxC; omega)) (fun j j1 j2 => by omega)).mono fun _ h3 q => ?_
  obtain ⟨F3, K3⟩ := q
  have F12 : pxF (pxC (s + 1) (s + 6)) h h2 := (F1.mono (fun k f e => by unfold pxC at *; omega)).trans (F2.mono (fun k f e => by unfold pxC at *; omega))
  refine ⟨(F12.mono (fun k f e => by unfold pxC at *; omega)).trans (F3.mono (fun k f e => by unfold pxC at *; omega)), (S'.fr F2 (fun k f _ => by unfold pxC; omega)).fr F3 (fun k f _ => by unfold pxC; omega), (K1.fr F2 (fun k f _ _ => by unfold pxC; omega)).fr F3 (fun k f _ _ => by unfold pxC; omega), K2.fr F3 (fun k f _ _ => by unfold pxC; omega), K3⟩
/-- the digits of a number below 100 -/
def pxDig (n : Int) : List Int := if 10 ≤ n then [48 + n / 10 % 10, 48 + n % 10] else [48 + n % 10]
theorem pxDig_ch {n : Int} (h1 : 0 ≤ n) : ∀ c ∈ pxDig n, pxCh c := by
  intro c hc
  unfold pxDig at hc
  unfold pxCh
  split at hc
  · simp at hc; omega
  · simp at hc; omega
theorem s_X8_writeNumber (S : pxSS h s) {n : Int} (h1 : 0 ≤ n) (h2 : n ≤ 99) {b : Int} (hb : b = 0 ∨ b = 1) :
    pxW (f_X8_writeNumber h s (pxJ n) (pxJ b)) fun q h' => pxF (pxC (s + 20) (s + 20)) h h' ∧ q = pxJ ((pxDig n ++ (if b = 1 then [32] else [])).length : Int) ∧ ∀ y : Int, 0 ≤ y → y < (pxDig n ++ (if b = 1 then [32] else [])).length → pxM h' (s + 20) y.toNat = pxE (pxDig n ++ (if b = 1 then [32] else [])) y := by
  obtain ⟨t0, r0, r1, r2, r3, t7, r7, t20⟩ := S
  unfold f_X8_writeNumber g_X8_writeNumber_b28
  have z0 : (if (0 : Int) = 1 then [(32 : Int)] else []) = [] := if_neg (by omega)
  have z1 : (if (1 : Int) = 1 then [(32 : Int)] else []) = [32] := if_pos rfl
  have e1 : n - n / 10 * 10 = n % 10 := by omega
  have e2 : n / 10 - n / 10 / 10 * 10 = n / 10 % 10 := by omega
  by_cases hn : n < 10
  · have dd : pxDig n = [48 + n % 10] := if_neg (by omega)
    rw [dd]
    rcases hb with rfl | rfl
    · rw [z0]
      simp (disch := first | assumption | omega | (simp only [jw_t_I, px_cpt, t20]; done) | (simp only [jw_t_I, px_cpt, t20]; omega)) only [pxL0, pxL1, pxL2, pxL3, pxL4, pxL5, pxL6, pxL7, pxL8, pxL9, pxL10, pxL11, pxL12, pxL13, pxL14, pxL15, pxL16, pxL17, pxL18, pxL19, pxL20, pxL21, pxL22, pxL23, pxL24, pxL25, pxL26, pxL27, pxL28, pxL29, pxL30, pxL31, pxL32, pxL33, pxL34, pxL35, pxL36, pxL37, pxL38, pxL39, pxL40, pxL41, pxL42, pxL43, pxL44, pxL45, pxL46, pxL47, pxL48, pxL49, pxL51, pxL57, pxL58, pxL59, pxL60, pxL61, pxL62, pxL63, pxL64, pxL65, pxL66, pxL67, pxL68, pxL69, pxL70, pxL71, pxL72, pxL73, pxL74, pxL75, pxL76, pxL77, pxL78, pxL79, pxL80, pxL81, pxL82, pxL83, pxL84, pxL85, pxL86, pxL87, pxL88, pxL89, pxL90, pxL91, pxL92, pxL93, pxL94, pxL95, pxL96, pxL97, pxL98, pxL99, pxL100, pxL101, pxL102, pxL103, pxL104, pxL105, pxL106, pxL107, pxL108, pxL109, pxL110, pxL111, pxL112, pxL113, pxL114, pxL115, pxL116, pxL117, pxL118, pxL119, pxL120, pxL121, pxL122, pxL123, pxL124, pxL125, pxL126, pxL200, pxL240, pxL287, pxL388, pxL400, pxL429, pxL431, pxL440, pxL1240, pxL1600, pxL1681, pxL12028, pxL13849, pxL14880, pxL25173, pxL26908, pxL49600, pxL65535, pxL65536, ↓reduceIte, pxJ_add, pxJ_sub, pxJ_mul, pxJ_neg, pxD_lt_t, pxD_lt_f, pxD_le_t, pxD_le_f, pxD_eq_t, pxD_eq_f, pxJ_lt, pxJ_le, pxJ_eq, px_gI, px_gR, px_pI, px_rc, px_ai, px_ar, px_si, px_ln, px_cp, pxJ_div, pxJ_b8, pxJ_byte, px_b2, px_bs, px_rb0, px_rb1, px_min, px_max, px_compare, pxW_some, jw_t_I, px_cpt, jw_r_I, px_cpr, jw_l_I, px_cpl, Option.some.injEq, t20, r3, e1]
      refine ⟨pxF.setI (by unfold pxC; omega), rfl, fun y y1 y2 => ?_⟩
      simp at y2
      obtain rfl : y = 0 := by omega
      rw [pxM_eq (by omega) (by omega)]; rfl
    · rw [z1]
      simp (disch := first | assumption | omega | (simp only [jw_t_I, px_cpt, t20]; done) | (simp only [jw_t_I, px_cpt, t20]; omega)) only [pxL0, pxL1, pxL2, pxL3, pxL4, pxL5, pxL6, pxL7, pxL8, pxL9, pxL10, pxL11, pxL12, pxL13, pxL14, pxL15, pxL16, pxL17, pxL18, pxL19, pxL20, pxL21, pxL22, pxL23, pxL24, pxL25, pxL26, pxL27, pxL28, pxL29, pxL30, pxL31, pxL32, pxL33, pxL34, pxL35, pxL36, pxL37, pxL38, pxL39, pxL40, pxL41, pxL42, pxL43, pxL44, pxL45, pxL46, pxL47, pxL48, pxL49, pxL51, pxL57, pxL58, pxL59, pxL60, pxL61, pxL62, pxL63, pxL64, pxL65, pxL66, pxL67, pxL68, pxL69, pxL70, pxL71, pxL72, pxL73, pxL74, pxL75, pxL76, pxL77, pxL78, pxL79, pxL80, pxL81, pxL82, pxL83, pxL84, pxL85, pxL86, pxL87, pxL88, pxL89, pxL90, pxL91, pxL92, pxL93, pxL94, pxL95, pxL96, pxL97, pxL98, pxL99, pxL100, pxL101, pxL102, pxL103, pxL104, pxL105, pxL106, pxL107, pxL108, pxL109, pxL110, pxL111, pxL112, pxL113, pxL114, pxL115, pxL116, pxL117, pxL118, pxL119, pxL120, pxL121, pxL122, pxL123, pxL124, pxL125, pxL126, pxL200, pxL240, pxL287, pxL388, pxL400, pxL429, pxL431, pxL440, pxL1240, pxL1600, pxL1681, pxL12028, pxL13849, pxL14880, pxL25173, pxL26908, pxL49600, pxL65535, pxL65536, ↓reduceIte, pxJ_add, pxJ_sub, pxJ_mul, pxJ_neg, pxD_lt_t, pxD_lt_f, pxD_le_t, pxD_le_f, pxD_eq_t, pxD_eq_f, pxJ_lt, pxJ_le, pxJ_eq, px_gI, px_gR, px_pI, px_rc, px_ai, px_ar, px_si, px_ln, px_cp, pxJ_div, pxJ_b8, pxJ_byte, px_b2, px_bs, px_rb0, px_rb1, px_min, px_max, px_compare, pxW_some, jw_t_I, px_cpt, jw_r_I, px_cpr, jw_l_I, px_cpl, Option.some.injEq, t20, r3, e1]
      refine ⟨(pxF.setI (by unfold pxC; omega)).trans (pxF.setI (by unfold pxC; omega)), rfl, fun y y1 y2 => ?_⟩
      simp at y2
      rcases (show y = 0 ∨ y = 1 by omega) with rfl | rfl
      · rw [pxM_ne (by omega), pxM_eq (by omega) (by omega)]; rfl
      · rw [show ((0 : Int) + 1).toNat = (1 : Int).toNat from rfl, pxM_eq (by omega) (by omega)]; rfl
  · have dd : pxDig n = [48 + n / 10 % 10, 48 + n % 10] := if_pos (by omega)
    rw [dd]
    rcases hb with rfl | rfl
    · rw [z0]
      simp (disch := first | assumption | omega | (simp only [jw_t_I, px_cpt, t20]; done) | (simp only [jw_t_I, px_cpt, t20]; omega)) only [pxL0, pxL1, pxL2, pxL3, pxL4, pxL5, pxL6, pxL7, pxL8, pxL9, pxL10, pxL11, pxL12, pxL13, pxL14, pxL15, pxL16, pxL17, pxL18, pxL19, pxL20, pxL21, pxL22, pxL23, pxL24, pxL25, pxL26, pxL27, pxL28, pxL29, pxL30, pxL31, pxL32, pxL33, pxL34, pxL35, pxL36, pxL37, pxL38, pxL39, pxL40, pxL41, pxL42, pxL43, pxL44, pxL45, pxL46, pxL47, pxL48, pxL49, pxL51, pxL57, pxL58, pxL59, pxL60, pxL61, pxL62, pxL63, pxL64, pxL65, pxL66, pxL67, pxL68, pxL69, pxL70, pxL71, pxL72, pxL73, pxL74, pxL75, pxL76, pxL77, pxL78, pxL79, pxL80, pxL81, pxL82, pxL83, pxL84, pxL85, pxL86, pxL87, pxL88, pxL89, pxL90, pxL91, pxL92, pxL93, pxL94, pxL95, pxL96, pxL97, pxL98, pxL99, pxL100, pxL101, pxL102, pxL103, pxL104, pxL105, pxL106, pxL107, pxL108, pxL109, pxL110, pxL111, pxL112, pxL113, pxL114, pxL115, pxL116, pxL117, pxL118, pxL119, pxL120, pxL121, pxL122, pxL123, pxL124, pxL125, pxL126, pxL200, pxL240, pxL287, pxL388, pxL400, pxL429, pxL431, pxL440, pxL1240, pxL1600, pxL1681, pxL12028, pxL13849, pxL14880, pxL25173, pxL26908, pxL49600, pxL65535, pxL65536, ↓reduceIte, pxJ_add, pxJ_sub, pxJ_mul, pxJ_neg, pxD_lt_t, pxD_lt_f, pxD_le_t, pxD_le_f, pxD_eq_t, pxD_eq_f, pxJ_lt, pxJ_le, pxJ_eq, px_gI, px_gR, px_pI, px_rc, px_ai, px_ar, px_si, px_ln, px_cp, pxJ_div, pxJ_b8, pxJ_byte, px_b2, px_bs, px_rb0, px_rb1, px_min, px_max, px_compare, pxW_some, jw_t_I, px_cpt, jw_r_I, px_cpr, jw_l_I, px_cpl, Option.some.injEq, t20, r3, e1, e2]
      refine ⟨(pxF.setI (by unfold pxC; omega)).trans (pxF.setI (by unfold pxC; omega)), rfl, fun y y1 y2 => ?_⟩
      simp at y2
      rcases (show y = 0 ∨ y = 1 by omega) with rfl | rfl
      · rw [pxM_ne (by omega), pxM_eq (by omega) (by omega)]; rfl
      · rw [show ((0 : Int) + 1).toNat = (1 : Int).toNat from rfl, pxM_eq (by omega) (by omega)]; rfl
    · rw [z1]
      simp (disch := first | assumption | omega | (simp only [jw_t_I, px_cpt, t20]; done) | (simp only [jw_t_I, px_cpt, t20]; omega)) only [pxL0, pxL1, pxL2, pxL3, pxL4, pxL5, pxL6, pxL7, pxL8, pxL9, pxL10, pxL11, pxL12, pxL13, pxL14, pxL15, pxL16, pxL17, pxL18, pxL19, pxL20, pxL21, pxL22, pxL23, pxL24, pxL25, pxL26, pxL27, pxL28, pxL29, pxL30, pxL31, pxL32, pxL33, pxL34, pxL35, pxL36, pxL37, pxL38, pxL39, pxL40, pxL41, pxL42, pxL43, pxL44, pxL45, pxL46, pxL47, pxL48, pxL49, pxL51, pxL57, pxL58, pxL59, pxL60, pxL61, pxL62, pxL63, pxL64, pxL65, pxL66, pxL67, pxL68, pxL69, pxL70, pxL71, pxL72, pxL73, pxL74, pxL75, pxL76, pxL77, pxL78, pxL79, pxL80, pxL81, pxL82, pxL83, pxL84, pxL85, pxL86, pxL87, pxL88, pxL89, pxL90, pxL91, pxL92, pxL93, pxL94, pxL95, pxL96, pxL97, pxL98, pxL99, pxL100, pxL101, pxL102, pxL103, pxL104, pxL105, pxL106, pxL107, pxL108, pxL109, pxL110, pxL111, pxL112, pxL113, pxL114, pxL115, pxL116, pxL117, pxL118, pxL119, pxL120, pxL121, pxL122, pxL123, pxL124, pxL125, pxL126, pxL200, pxL240, pxL287, pxL388, pxL400, pxL429, pxL431, pxL440, pxL1240, pxL1600, pxL1681, pxL12028, pxL13849, pxL14880, pxL25173, pxL26908, pxL49600, pxL65535, pxL65536, ↓reduceIte, pxJ_add, pxJ_sub, pxJ_mul, pxJ_neg, pxD_lt_t, pxD_lt_f, pxD_le_t, pxD_le_f, pxD_eq_t, pxD_eq_f, pxJ_lt, pxJ_le, pxJ_eq, px_gI, px_gR, px_pI, px_rc, px_ai, px_ar, px_si, px_ln, px_cp, pxJ_div, pxJ_b8, pxJ_byte, px_b2, px_bs, px_rb0, px_rb1, px_min, px_max, px_compare, pxW_some, jw_t_I, px_cpt, jw_r_I, px_cpr, jw_l_I, px_cpl, Option.some.injEq, t20, r3, e1, e2]
      refine ⟨((pxF.setI (by unfold pxC; omega)).trans (pxF.setI (by unfold pxC; omega))).trans (pxF.setI (by unfold pxC; omega)), rfl, fun y y1 y2 => ?_⟩
      simp at y2
      rcases (show y = 0 ∨ y = 1 ∨ y = 2 by omega) with rfl | rfl | rfl
      · rw [pxM_ne (by omega), pxM_ne (by omega), pxM_eq (by omega) (by omega)]; rfl
      · rw [pxM_ne (by omega), show ((0 : Int) + 1).toNat = (1 : Int).toNat from rfl, pxM_eq (by omega) (by omega)]; rfl
      · rw [show ((0 : Int) + 1 + 1).toNat = (2 : Int).toNat from rfl, pxM_eq (by omega) (by omega)]; rfl
end
