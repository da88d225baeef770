/-! patterns: the program's reader does as the machine of the syntax -/
theorem pxCls_b {s : List Int} {p : Int} (h0 : 0 ≤ p) (h1 : p ≤ s.length) : p ≤ (pxCls s p).2 ∧ (pxCls s p).2 ≤ s.length := by
  have a : p ≤ pxCl0 s p ∧ pxCl0 s p ≤ s.length := by
    unfold pxCl0
    by_cases h : pxP s p = 94
    · rw [if_pos h]
      have := pxP_lt (s := s) (p := p) (by omega)
      omega
    · rw [if_neg h]; omega
  have b : pxCl1 s p ≤ s.length := by unfold pxCl1; exact pxSpan_le (by omega) a.2
  have c : pxCl0 s p ≤ pxCl1 s p := by unfold pxCl1; omega
  unfold pxCls
  by_cases hn : pxSpan s (pxCl0 s p) = []
  · rw [if_pos hn]; exact ⟨a.1, a.2⟩
  · rw [if_neg hn]
    by_cases h93 : pxP s (pxCl1 s p) = 93
    · rw [if_pos h93]
      have := pxP_lt (s := s) (p := pxCl1 s p) (by omega)
      dsimp only; omega
    · rw [if_neg h93]; dsimp only; omega
theorem pxMach_b {s : List Int} : ∀ (m : Nat) (g : Bool) (a i t k p : Int), 0 ≤ p → p ≤ s.length → p + (pxMach s m g a i t k p).2.2.1.length ≤ (pxMach s m g a i t k p).2.1 ∧ (pxMach s m g a i t k p).2.1 ≤ s.length := by
  intro m
  induction m with
  | zero => intro g a i t k p h0 h1; unfold pxMach; simp; omega
  | succ m ih =>
    intro g a i t k p h0 h1
    have em : ∀ (e : Int × Int) (r : Bool × Int × List (Int × Int) × Int) (p' : Int), p + 1 ≤ p' → (p' + r.2.2.1.length ≤ r.2.1 ∧ r.2.1 ≤ s.length) → p + ((pxEm e r).2.2.1.length : Int) ≤ (pxEm e r).2.1 ∧ (pxEm e r).2.1 ≤ s.length := by
      intro e r p' hp hr
      unfold pxEm
      simp only [List.length_cons]
      omega
    have lt : ∀ q : Int, pxP s q ≠ -1 → q + 1 ≤ s.length := fun q hq => by have := pxP_lt hq; omega
    unfold pxMach
    by_cases c1 : g = true ∧ pxP s p = 41
    · rw [if_pos c1]; exact em _ _ (p + 1) (by omega) (ih _ _ _ _ _ _ (by omega) (lt p (by omega)))
    rw [if_neg c1]
    by_cases c2 : 12 ≤ (if g = true then a else i)
    · rw [if_pos c2]; exact ⟨by simp, h1⟩
    rw [if_neg c2]
    by_cases c3 : g = false ∧ pxP s p = 40 ∧ k < 2
    · rw [if_pos c3]; exact em _ _ (p + 1) (by omega) (ih _ _ _ _ _ _ (by omega) (lt p (by omega)))
    rw [if_neg c3]
    by_cases c4 : g = false ∧ pxP s p = 92 ∧ 0 < k
    · rw [if_pos c4]
      have l := lt p (by omega)
      by_cases c5 : 49 ≤ pxP s (p + 1) ∧ pxP s (p + 1) ≤ 48 + k
      · rw [if_pos c5]; exact em _ _ (p + 2) (by omega) (ih _ _ _ _ _ _ (by omega) (by have := lt (p + 1) (by omega); omega))
      · rw [if_neg c5]; exact ⟨by simp; omega, l⟩
    rw [if_neg c4]
    by_cases c5 : pxP s p = 42 ∧ t < 2
    · rw [if_pos c5]; exact em _ _ (p + 1) (by omega) (ih _ _ _ _ _ _ (by omega) (lt p (by omega)))
    rw [if_neg c5]
    by_cases c6 : pxP s p = 46
    · rw [if_pos c6]; exact em _ _ (p + 1) (by omega) (ih _ _ _ _ _ _ (by omega) (lt p (by omega)))
    rw [if_neg c6]
    by_cases c7 : pxIsCh (pxP s p) = true
    · rw [if_pos c7]; exact em _ _ (p + 1) (by omega) (ih _ _ _ _ _ _ (by omega) (lt p (by have := pxIsCh_i.mp c7; omega)))
    rw [if_neg c7]
    by_cases c8 : pxP s p = 91
    · rw [if_pos c8]
      have l := lt p (by omega)
      have cb := pxCls_b (s := s) (p := p + 1) (by omega) l
      by_cases c9 : (pxCls s (p + 1)).1 = true
      · rw [if_pos c9]; exact em _ _ (pxCls s (p + 1)).2 (by omega) (ih _ _ _ _ _ _ (by omega) (by omega))
      · rw [if_neg c9]; exact ⟨by simp; omega, cb.2⟩
    · rw [if_neg c8]; exact ⟨by simp, h1⟩
/-- what the loop comes to -/
def pxMR (h : jw_H) (s : List Int) (e : Int) (r : Bool × Int × List (Int × Int) × Int) (x1 x2 : Int32) (o : Option (Int32 × jw_H)) : Prop :=
  (r.1 = true → ∃ h', o = g_X6_readPattern_b287 h' 10 x1 x2 (pxJ 0) ∧ pxF (pxQe e) h h' ∧ pxM h' 10 5 = r.2.1 ∧ pxM h' 10 7 = e + r.2.2.1.length ∧ pxM h' 10 9 = r.2.2.2 ∧ pxEls h' s e r.2.2.1) ∧
  (r.1 = false → ∃ h', o = some (pxJ (-1), h') ∧ pxF (pxQe e) h h' ∧ pxM h' 10 5 = r.2.1)
theorem pxMR_em {h h1 : jw_H} {s : List Int} {e : Int} {r : Bool × Int × List (Int × Int) × Int} {x1 x2 : Int32} {o : Option (Int32 × jw_H)} {el : Int × Int} (e0 : 0 ≤ e) (F : pxF (pxQe e) h h1) (E : pxEl s el (pxM h1 252 e.toNat) (jw_l h1 253 e.toNat)) (R : pxMR h1 s (e + 1) r x1 x2 o) : pxMR h s e (pxEm el r) x1 x2 o := by
  have mono : ∀ {h' : jw_H}, pxF (pxQe (e + 1)) h1 h' → pxF (pxQe e) h h' := fun Q => F.trans (Q.mono (fun k f q => by unfold pxQe at *; omega))
  refine ⟨fun hr => ?_, fun hr => ?_⟩
  · obtain ⟨h', a1, a2, a3, a4, a5, a6⟩ := R.1 hr
    refine ⟨h', a1, mono a2, a3, ?_, a5, ?_⟩
    · rw [a4]; unfold pxEm; simp only [List.length_cons]; omega
    · refine ⟨?_, a6⟩
      rw [a2.m (by unfold pxQe; omega), a2.l (by unfold pxQe; omega)]
      exact E
  · obtain ⟨h', a1, a2, a3⟩ := R.2 hr
    exact ⟨h', a1, mono a2, a3⟩
section
variable {b : Nat} {s : List Int}
theorem s_X6_readPattern_b46 {x1 x2 : Int32} : ∀ (m N : Nat) (h : jw_H) (g : Bool) (a i t k p e st : Int), s.length < p + m → m ≤ N → pxPG h b s → pxM h 10 5 = p → pxM h 10 7 = e → pxM h 10 8 = t → pxM h 10 9 = k → 0 ≤ p → p ≤ s.length → 0 ≤ e → e ≤ 58 + p → 0 ≤ t → t ≤ p → 0 ≤ k → k ≤ 2 → (g = true → 1 ≤ k) → 0 ≤ st → st ≤ p → 0 ≤ a → a ≤ p → 0 ≤ i → i ≤ p →
    pxMR h s e (pxMach s m g a i t k p) x1 x2 (f_X6_readPattern_b46 N h 10 x1 x2 (pxJ i) (pxJ a) (pxJ (if g = true then 1 else 0)) (pxJ st)) := by
  intro m
  induction m with
  | zero => intro N h g a i t k p e st hm hN G hp he ht hk h0 h1; omega
  | succ m ih =>
    intro N h g a i t k p e st hm hN G hp he ht hk h0 h1 e0 e1 t0 t1 k0 k1 gk s0 s1 a0 a1 i0 i1
    obtain ⟨N, rfl, hN⟩ := px_fu hN
    have pk := s_X6_peek G hp h0
    have hin := pxP_in G.2.2.2.2.1 p
    have tg := G.1.1
    have n60 := G.2.2.2.2.1.1
    rw [u_X6_readPattern_b46]
    unfold g_X6_readPattern_b46
    -- the place one on
    have ee : jw_setI h 10 5 (pxJ (p + 1)) = pxPl h (p + 1) := rfl
    have G1 : pxPG (pxPl h (p + 1)) b s := pxPl_G G
    have tg1 : (jw_t (pxPl h (p + 1)) 10).1 = 6 := tg
    have he1 : pxM (pxPl h (p + 1)) 10 7 = e := by rw [pxPl_n (by omega)]; exact he
    have ht1 : pxM (pxPl h (p + 1)) 10 8 = t := by rw [pxPl_n (by omega)]; exact ht
    have hk1 : pxM (pxPl h (p + 1)) 10 9 = k := by rw [pxPl_n (by omega)]; exact hk
    have hp1 : pxM (pxPl h (p + 1)) 10 5 = p + 1 := pxPl_p (by omega) (by omega)
    have FQ : pxF (pxQe e) h (pxPl h (p + 1)) := pxPl_F.mono (fun k f q => by unfold pxQe; omega)
    -- what an item that is no group leads to
    have stop : ∀ (gg : Bool), g = gg → pxMR h s e (!gg, p, [], k) x1 x2 (g_X6_readPattern_b287 h 10 x1 x2 (pxJ (if gg = true then 1 else 0))) := by
      intro gg hgg
      cases gg with
      | false => exact ⟨fun _ => ⟨h, rfl, pxF.rfl, hp, by simp; exact he, hk, trivial⟩, fun q => by cases q⟩
      | true =>
        refine ⟨fun q => (by cases q), fun _ => ⟨h, ?_, pxF.rfl, hp⟩⟩
        unfold g_X6_readPattern_b287
        simp (disch := first | assumption | omega | (simp only [jw_t_I, px_cpt]; done) | (simp only [jw_t_I, px_cpt]; omega)) only [pxL0, pxL1, pxL2, pxL3, pxL4, pxL5, pxL6, pxL7, pxL8, pxL9, pxL10, pxL11, pxL12, pxL13, pxL14, pxL15, pxL16, pxL17, pxL18, pxL19, pxL20, pxL21, pxL22, pxL23, pxL24, pxL25, pxL26, pxL27, pxL28, pxL29, pxL30, pxL31, pxL32, pxL33, pxL34, pxL35, pxL36, pxL37, pxL38, pxL39, pxL40, pxL41, pxL42, pxL43, pxL44, pxL45, pxL46, pxL47, pxL48, pxL49, pxL51, pxL57, pxL58, pxL59, pxL60, pxL61, pxL62, pxL63, pxL64, pxL65, pxL66, pxL67, pxL68, pxL69, pxL70, pxL71, pxL72, pxL73, pxL74, pxL75, pxL76, pxL77, pxL78, pxL79, pxL80, pxL81, pxL82, pxL83, pxL84, pxL85, pxL86, pxL87, pxL88, pxL89, pxL90, pxL91, pxL92, pxL93, pxL94, pxL95, pxL96, pxL97, pxL98, pxL99, pxL100, pxL101, pxL102, pxL103, pxL104, pxL105, pxL106, pxL107, pxL108, pxL109, pxL110, pxL111, pxL112, pxL113, pxL114, pxL115, pxL116, pxL117, pxL118, pxL119, pxL120, pxL121, pxL122, pxL123, pxL124, pxL125, pxL126, pxL200, pxL240, pxL287, pxL388, pxL400, pxL429, pxL431, pxL440, pxL1240, pxL1600, pxL1681, pxL12028, pxL13849, pxL14880, pxL25173, pxL26908, pxL49600, pxL65535, pxL65536, ↓reduceIte, pxJ_add, pxJ_sub, pxJ_mul, pxJ_neg, pxD_lt_t, pxD_lt_f, pxD_le_t, pxD_le_f, pxD_eq_t, pxD_eq_f, pxJ_lt, pxJ_le, pxJ_eq, px_gI, px_gR, px_pI, px_rc, px_ai, px_ar, px_si, px_ln, px_cp, pxJ_div, pxJ_b8, pxJ_byte, px_b2, px_bs, px_rb0, px_rb1, px_min, px_max, px_compare, pxW_some, jw_t_I, px_cpt, jw_r_I, px_cpr, jw_l_I, px_cpl, Option.some.injEq]
    have plain : ∀ (el : Int × Int) (p' t' : Int) (h' : jw_H), p + 1 ≤ p' → p' ≤ s.length → 0 ≤ t' → t' ≤ p' → f_X6_readPlain h 10 = some (pxJ 1, h') → pxF (pxQe e) h h' → pxM h' 10 5 = p' → pxM h' 10 7 = e + 1 → pxM h' 10 8 = t' → pxM h' 10 9 = pxM h 10 9 → pxEl s el (pxM h' 252 e.toNat) (jw_l h' 253 e.toNat) → (pxP s p = 46 ∨ pxP s p = 91 ∨ (pxP s p = 42 ∧ t < 2) ∨ pxIsCh (pxP s p) = true) →
        pxMR h s e (pxEm el (pxMach s m g (if g = true then a + 1 else a) (if g = true then i else i + 1) t' k p')) x1 x2 (g_X6_readPattern_b246 (f_X6_readPattern_b46 N) h 10 x1 x2 (pxJ i) (pxJ a) (pxJ (if g = true then 1 else 0)) (pxJ st) (pxJ (pxP s p))) := by
      intro el p' t' h' q1 q2 q3 q4 q5 q6 q7 q8 q9 q10 q11 q12
      have bp := s_X6_beginsPlain (h := h) (c := pxP s p) tg ht (by omega) (by omega)
      rw [if_pos q12] at bp
      unfold g_X6_readPattern_b246 g_X6_readPattern_b281
      have := ih N h' g (if g = true then a + 1 else a) (if g = true then i else i + 1) t' k p' (e + 1) (st + 1) (by omega) (by omega) (G.fe q6) q7 q8 q9 (by rw [q10]; exact hk) (by omega) q2 (by omega) (by omega) q3 q4 k0 k1 gk (by omega) (by omega) (by split <;> omega) (by split <;> omega) (by split <;> omega) (by split <;> omega)
      cases g with
      | true =>
        simp only [↓reduceIte] at this ⊢
        simp (disch := first | assumption | omega | (simp only [jw_t_I, px_cpt]; done) | (simp only [jw_t_I, px_cpt]; omega)) only [pxL0, pxL1, pxL2, pxL3, pxL4, pxL5, pxL6, pxL7, pxL8, pxL9, pxL10, pxL11, pxL12, pxL13, pxL14, pxL15, pxL16, pxL17, pxL18, pxL19, pxL20, pxL21, pxL22, pxL23, pxL24, pxL25, pxL26, pxL27, pxL28, pxL29, pxL30, pxL31, pxL32, pxL33, pxL34, pxL35, pxL36, pxL37, pxL38, pxL39, pxL40, pxL41, pxL42, pxL43, pxL44, pxL45, pxL46, pxL47, pxL48, pxL49, pxL51, pxL57, pxL58, pxL59, pxL60, pxL61, pxL62, pxL63, pxL64, pxL65, pxL66, pxL67, pxL68, pxL69, pxL70, pxL71, pxL72, pxL73, pxL74, pxL75, pxL76, pxL77, pxL78, pxL79, pxL80, pxL81, pxL82, pxL83, pxL84, pxL85, pxL86, pxL87, pxL88, pxL89, pxL90, pxL91, pxL92, pxL93, pxL94, pxL95, pxL96, pxL97, pxL98, pxL99, pxL100, pxL101, pxL102, pxL103, pxL104, pxL105, pxL106, pxL107, pxL108, pxL109, pxL110, pxL111, pxL112, pxL113, pxL114, pxL115, pxL116, pxL117, pxL118, pxL119, pxL120, pxL121, pxL122, pxL123, pxL124, pxL125, pxL126, pxL200, pxL240, pxL287, pxL388, pxL400, pxL429, pxL431, pxL440, pxL1240, pxL1600, pxL1681, pxL12028, pxL13849, pxL14880, pxL25173, pxL26908, pxL49600, pxL65535, pxL65536, ↓reduceIte, pxJ_add, pxJ_sub, pxJ_mul, pxJ_neg, pxD_lt_t, pxD_lt_f, pxD_le_t, pxD_le_f, pxD_eq_t, pxD_eq_f, pxJ_lt, pxJ_le, pxJ_eq, px_gI, px_gR, px_pI, px_rc, px_ai, px_ar, px_si, px_ln, px_cp, pxJ_div, pxJ_b8, pxJ_byte, px_b2, px_bs, px_rb0, px_rb1, px_min, px_max, px_compare, pxW_some, jw_t_I, px_cpt, jw_r_I, px_cpr, jw_l_I, px_cpl, Option.some.injEq, bp, q5]
        exact pxMR_em e0 q6 q11 this
      | false =>
        simp only [Bool.false_eq_true, ↓reduceIte] at this ⊢
        simp (disch := first | assumption | omega | (simp only [jw_t_I, px_cpt]; done) | (simp only [jw_t_I, px_cpt]; omega)) only [pxL0, pxL1, pxL2, pxL3, pxL4, pxL5, pxL6, pxL7, pxL8, pxL9, pxL10, pxL11, pxL12, pxL13, pxL14, pxL15, pxL16, pxL17, pxL18, pxL19, pxL20, pxL21, pxL22, pxL23, pxL24, pxL25, pxL26, pxL27, pxL28, pxL29, pxL30, pxL31, pxL32, pxL33, pxL34, pxL35, pxL36, pxL37, pxL38, pxL39, pxL40, pxL41, pxL42, pxL43, pxL44, pxL45, pxL46, pxL47, pxL48, pxL49, pxL51, pxL57, pxL58, pxL59, pxL60, pxL61, pxL62, pxL63, pxL64, pxL65, pxL66, pxL67, pxL68, pxL69, pxL70, pxL71, pxL72, pxL73, pxL74, pxL75, pxL76, pxL77, pxL78, pxL79, pxL80, pxL81, pxL82, pxL83, pxL84, pxL85, pxL86, pxL87, pxL88, pxL89, pxL90, pxL91, pxL92, pxL93, pxL94, pxL95, pxL96, pxL97, pxL98, pxL99, pxL100, pxL101, pxL102, pxL103, pxL104, pxL105, pxL106, pxL107, pxL108, pxL109, pxL110, pxL111, pxL112, pxL113, pxL114, pxL115, pxL116, pxL117, pxL118, pxL119, pxL120, pxL121, pxL122, pxL123, pxL124, pxL125, pxL126, pxL200, pxL240, pxL287, pxL388, pxL400, pxL429, pxL431, pxL440, pxL1240, pxL1600, pxL1681, pxL12028, pxL13849, pxL14880, pxL25173, pxL26908, pxL49600, pxL65535, pxL65536, ↓reduceIte, pxJ_add, pxJ_sub, pxJ_mul, pxJ_neg, pxD_lt_t, pxD_lt_f, pxD_le_t, pxD_le_f, pxD_eq_t, pxD_eq_f, pxJ_lt, pxJ_le, pxJ_eq, px_gI, px_gR, px_pI, px_rc, px_ai, px_ar, px_si, px_ln, px_cp, pxJ_div, pxJ_b8, pxJ_byte, px_b2, px_bs, px_rb0, px_rb1, px_min, px_max, px_compare, pxW_some, jw_t_I, px_cpt, jw_r_I, px_cpr, jw_l_I, px_cpl, Option.some.injEq, bp, q5]
        exact pxMR_em e0 q6 q11 this
    -- behind the questions that are a group's
    have rest : ¬ (g = true ∧ pxP s p = 41) → ¬ (12 ≤ (if g = true then a else i)) → ¬ (g = false ∧ pxP s p = 40 ∧ k < 2) → ¬ (g = false ∧ pxP s p = 92 ∧ 0 < k) →
        pxMR h s e (pxMach s (m + 1) g a i t k p) x1 x2 (g_X6_readPattern_b246 (f_X6_readPattern_b46 N) h 10 x1 x2 (pxJ i) (pxJ a) (pxJ (if g = true then 1 else 0)) (pxJ st) (pxJ (pxP s p))) := by
      intro n1 n2 n3 n4
      unfold pxMach
      rw [if_neg n1, if_neg n2, if_neg n3, if_neg n4]
      by_cases c42 : pxP s p = 42 ∧ t < 2
      · rw [if_pos c42]
        obtain ⟨h', z1, z2, z3, z4, z5, z6, z7⟩ := (s_X6_readPlain G hp h0 he e0 (by omega) ht t0 (by omega)).1 c42.1
        exact plain _ _ _ h' (by omega) (by omega) (by omega) (by omega) z1 z2 z3 z4 z5 z6 z7 (Or.inr (Or.inr (Or.inl c42)))
      · rw [if_neg c42]
        by_cases c46 : pxP s p = 46
        · rw [if_pos c46]
          obtain ⟨h', z1, z2, z3, z4, z5, z6, z7⟩ := (s_X6_readPlain G hp h0 he e0 (by omega) ht t0 (by omega)).2.1 c46
          exact plain _ _ _ h' (by omega) (by omega) (by omega) (by omega) z1 z2 z3 z4 z5 z6 z7 (Or.inl c46)
        · rw [if_neg c46]
          by_cases cch : pxIsCh (pxP s p) = true
          · rw [if_pos cch]
            have hch := pxIsCh_i.mp cch
            obtain ⟨h', z1, z2, z3, z4, z5, z6, z7⟩ := (s_X6_readPlain G hp h0 he e0 (by omega) ht t0 (by omega)).2.2.1 cch
            exact plain _ _ _ h' (by omega) (by omega) (by omega) (by omega) z1 z2 z3 z4 z5 z6 z7 (Or.inr (Or.inr (Or.inr cch)))
          · rw [if_neg cch]
            by_cases c91 : pxP s p = 91
            · rw [if_pos c91]
              have cb := pxCls_b (s := s) (p := p + 1) (by omega) (by omega)
              by_cases co : (pxCls s (p + 1)).1 = true
              · rw [if_pos co]
                obtain ⟨h', z1, z2, z3, z4, z5, z6, z7⟩ := (s_X6_readPlain G hp h0 he e0 (by omega) ht t0 (by omega)).2.2.2.1 c91 co
                exact plain _ _ _ h' (by omega) (by omega) (by omega) (by omega) z1 z2 z3 z4 z5 z6 z7 (Or.inr (Or.inl c91))
              · rw [if_neg co]
                obtain ⟨h', z1, z2, z3⟩ := (s_X6_readPlain G hp h0 he e0 (by omega) ht t0 (by omega)).2.2.2.2 c91 (by simpa using co)
                have bp := s_X6_beginsPlain (h := h) (c := pxP s p) tg ht (by omega) (by omega)
                rw [if_pos (Or.inr (Or.inl c91))] at bp
                refine ⟨fun q => (by cases q), fun _ => ⟨h', ?_, z2, z3⟩⟩
                unfold g_X6_readPattern_b246
                simp (disch := first | assumption | omega | (simp only [jw_t_I, px_cpt]; done) | (simp only [jw_t_I, px_cpt]; omega)) only [pxL0, pxL1, pxL2, pxL3, pxL4, pxL5, pxL6, pxL7, pxL8, pxL9, pxL10, pxL11, pxL12, pxL13, pxL14, pxL15, pxL16, pxL17, pxL18, pxL19, pxL20, pxL21, pxL22, pxL23, pxL24, pxL25, pxL26, pxL27, pxL28, pxL29, pxL30, pxL31, pxL32, pxL33, pxL34, pxL35, pxL36, pxL37, pxL38, pxL39, pxL40, pxL41, pxL42, pxL43, pxL44, pxL45, pxL46, pxL47, pxL48, pxL49, pxL51, pxL57, pxL58, pxL59, pxL60, pxL61, pxL62, pxL63, pxL64, pxL65, pxL66, pxL67, pxL68, pxL69, pxL70, pxL71, pxL72, pxL73, pxL74, pxL75, pxL76, pxL77, pxL78, pxL79, pxL80, pxL81, pxL82, pxL83, pxL84, pxL85, pxL86, pxL87, pxL88, pxL89, pxL90, pxL91, pxL92, pxL93, pxL94, pxL95, pxL96, pxL97, pxL98, pxL99, pxL100, pxL101, pxL102, pxL103, pxL104, pxL105, pxL106, pxL107, pxL108, pxL109, pxL110, pxL111, pxL112, pxL113, pxL114, pxL115, pxL116, pxL117, pxL118, pxL119, pxL120, pxL121, pxL122, pxL123, pxL124, pxL125, pxL126, pxL200, pxL240, pxL287, pxL388, pxL400, pxL429, pxL431, pxL440, pxL1240, pxL1600, pxL1681, pxL12028, pxL13849, pxL14880, pxL25173, pxL26908, pxL49600, pxL65535, pxL65536, ↓reduceIte, pxJ_add, pxJ_sub, pxJ_mul, pxJ_neg, pxD_lt_t, pxD_lt_f, pxD_le_t, pxD_le_f, pxD_eq_t, pxD_eq_f, pxJ_lt, pxJ_le, pxJ_eq, px_gI, px_gR, px_pI, px_rc, px_ai, px_ar, px_si, px_ln, px_cp, pxJ_div, pxJ_b8, pxJ_byte, px_b2, px_bs, px_rb0, px_rb1, px_min, px_max, px_compare, pxW_some, jw_t_I, px_cpt, jw_r_I, px_cpr, jw_l_I, px_cpl, Option.some.injEq, bp, z1]
            · rw [if_neg c91]
              have nq : ¬ (pxP s p = 46 ∨ pxP s p = 91 ∨ (pxP s p = 42 ∧ t < 2) ∨ pxIsCh (pxP s p) = true) := fun q => by
                rcases q with q | q | q | q
                · exact c46 q
                · exact c91 q
                · exact c42 q
                · exact cch q
              have bp := s_X6_beginsPlain (h := h) (c := pxP s p) tg ht (by omega) (by omega)
              rw [if_neg nq] at bp
              unfold g_X6_readPattern_b246
              simp (disch := first | assumption | omega | (simp only [jw_t_I, px_cpt]; done) | (simp only [jw_t_I, px_cpt]; omega)) only [pxL0, pxL1, pxL2, pxL3, pxL4, pxL5, pxL6, pxL7, pxL8, pxL9, pxL10, pxL11, pxL12, pxL13, pxL14, pxL15, pxL16, pxL17, pxL18, pxL19, pxL20, pxL21, pxL22, pxL23, pxL24, pxL25, pxL26, pxL27, pxL28, pxL29, pxL30, pxL31, pxL32, pxL33, pxL34, pxL35, pxL36, pxL37, pxL38, pxL39, pxL40, pxL41, pxL42, pxL43, pxL44, pxL45, pxL46, pxL47, pxL48, pxL49, pxL51, pxL57, pxL58, pxL59, pxL60, pxL61, pxL62, pxL63, pxL64, pxL65, pxL66, pxL67, pxL68, pxL69, pxL70, pxL71, pxL72, pxL73, pxL74, pxL75, pxL76, pxL77, pxL78, pxL79, pxL80, pxL81, pxL82, pxL83, pxL84, pxL85, pxL86, pxL87, pxL88, pxL89, pxL90, pxL91, pxL92, pxL93, pxL94, pxL95, pxL96, pxL97, pxL98, pxL99, pxL100, pxL101, pxL102, pxL103, pxL104, pxL105, pxL106, pxL107, pxL108, pxL109, pxL110, pxL111, pxL112, pxL113, pxL114, pxL115, pxL116, pxL117, pxL118, pxL119, pxL120, pxL121, pxL122, pxL123, pxL124, pxL125, pxL126, pxL200, pxL240, pxL287, pxL388, pxL400, pxL429, pxL431, pxL440, pxL1240, pxL1600, pxL1681, pxL12028, pxL13849, pxL14880, pxL25173, pxL26908, pxL49600, pxL65535, pxL65536, ↓reduceIte, pxJ_add, pxJ_sub, pxJ_mul, pxJ_neg, pxD_lt_t, pxD_lt_f, pxD_le_t, pxD_le_f, pxD_eq_t, pxD_eq_f, pxJ_lt, pxJ_le, pxJ_eq, px_gI, px_gR, px_pI, px_rc, px_ai, px_ar, px_si, px_ln, px_cp, pxJ_div, pxJ_b8, pxJ_byte, px_b2, px_bs, px_rb0, px_rb1, px_min, px_max, px_compare, pxW_some, jw_t_I, px_cpt, jw_r_I, px_cpr, jw_l_I, px_cpl, Option.some.injEq, bp]
              exact stop g rfl
    have no60 : ((60 : Int32) < pxJ st) = False := by simp (disch := first | assumption | omega | (simp only [jw_t_I, px_cpt]; done) | (simp only [jw_t_I, px_cpt]; omega)) only [pxL0, pxL1, pxL2, pxL3, pxL4, pxL5, pxL6, pxL7, pxL8, pxL9, pxL10, pxL11, pxL12, pxL13, pxL14, pxL15, pxL16, pxL17, pxL18, pxL19, pxL20, pxL21, pxL22, pxL23, pxL24, pxL25, pxL26, pxL27, pxL28, pxL29, pxL30, pxL31, pxL32, pxL33, pxL34, pxL35, pxL36, pxL37, pxL38, pxL39, pxL40, pxL41, pxL42, pxL43, pxL44, pxL45, pxL46, pxL47, pxL48, pxL49, pxL51, pxL57, pxL58, pxL59, pxL60, pxL61, pxL62, pxL63, pxL64, pxL65, pxL66, pxL67, pxL68, pxL69, pxL70, pxL71, pxL72, pxL73, pxL74, pxL75, pxL76, pxL77, pxL78, pxL79, pxL80, pxL81, pxL82, pxL83, pxL84, pxL85, pxL86, pxL87, pxL88, pxL89, pxL90, pxL91, pxL92, pxL93, pxL94, pxL95, pxL96, pxL97, pxL98, pxL99, pxL100, pxL101, pxL102, pxL103, pxL104, pxL105, pxL106, pxL107, pxL108, pxL109, pxL110, pxL111, pxL112, pxL113, pxL114, pxL115, pxL116, pxL117, pxL118, pxL119, pxL120, pxL121, pxL122, pxL123, pxL124, pxL125, pxL126, pxL200, pxL240, pxL287, pxL388, pxL400, pxL429, pxL431, pxL440, pxL1240, pxL1600, pxL1681, pxL12028, pxL13849, pxL14880, pxL25173, pxL26908, pxL49600, pxL65535, pxL65536, ↓reduceIte, pxJ_add, pxJ_sub, pxJ_mul, pxJ_neg, pxD_lt_t, pxD_lt_f, pxD_le_t, pxD_le_f, pxD_eq_t, pxD_eq_f, pxJ_lt, pxJ_le, pxJ_eq, px_gI, px_gR, px_pI, px_rc, px_ai, px_ar, px_si, px_ln, px_cp, pxJ_div, pxJ_b8, pxJ_byte, px_b2, px_bs, px_rb0, px_rb1, px_min, px_max, px_compare, pxW_some, jw_t_I, px_cpt, jw_r_I, px_cpr, jw_l_I, px_cpl, Option.some.injEq]
    simp only [no60, ↓reduceIte]
    simp (disch := first | assumption | omega | (simp only [jw_t_I, px_cpt]; done) | (simp only [jw_t_I, px_cpt]; omega)) only [pxL0, pxL1, pxL2, pxL3, pxL4, pxL5, pxL6, pxL7, pxL8, pxL9, pxL10, pxL11, pxL12, pxL13, pxL14, pxL15, pxL16, pxL17, pxL18, pxL19, pxL20, pxL21, pxL22, pxL23, pxL24, pxL25, pxL26, pxL27, pxL28, pxL29, pxL30, pxL31, pxL32, pxL33, pxL34, pxL35, pxL36, pxL37, pxL38, pxL39, pxL40, pxL41, pxL42, pxL43, pxL44, pxL45, pxL46, pxL47, pxL48, pxL49, pxL51, pxL57, pxL58, pxL59, pxL60, pxL61, pxL62, pxL63, pxL64, pxL65, pxL66, pxL67, pxL68, pxL69, pxL70, pxL71, pxL72, pxL73, pxL74, pxL75, pxL76, pxL77, pxL78, pxL79, pxL80, pxL81, pxL82, pxL83, pxL84, pxL85, pxL86, pxL87, pxL88, pxL89, pxL90, pxL91, pxL92, pxL93, pxL94, pxL95, pxL96, pxL97, pxL98, pxL99, pxL100, pxL101, pxL102, pxL103, pxL104, pxL105, pxL106, pxL107, pxL108, pxL109, pxL110, pxL111, pxL112, pxL113, pxL114, pxL115, pxL116, pxL117, pxL118, pxL119, pxL120, pxL121, pxL122, pxL123, pxL124, pxL125, pxL126, pxL200, pxL240, pxL287, pxL388, pxL400, pxL429, pxL431, pxL440, pxL1240, pxL1600, pxL1681, pxL12028, pxL13849, pxL14880, pxL25173, pxL26908, pxL49600, pxL65535, pxL65536, ↓reduceIte, pxJ_add, pxJ_sub, pxJ_mul, pxJ_neg, pxD_lt_t, pxD_lt_f, pxD_le_t, pxD_le_f, pxD_eq_t, pxD_eq_f, pxJ_lt, pxJ_le, pxJ_eq, px_gI, px_gR, px_pI, px_rc, px_ai, px_ar, px_si, px_ln, px_cp, pxJ_div, pxJ_b8, pxJ_byte, px_b2, px_bs, px_rb0, px_rb1, px_min, px_max, px_compare, pxW_some, jw_t_I, px_cpt, jw_r_I, px_cpr, jw_l_I, px_cpl, Option.some.injEq, pk]
    cases g with
    | true =>
      simp only [↓reduceIte] at *
      have z10 : (pxJ 1 = 0) = False := by simp (disch := first | assumption | omega | (simp only [jw_t_I, px_cpt]; done) | (simp only [jw_t_I, px_cpt]; omega)) only [pxL0, pxL1, pxL2, pxL3, pxL4, pxL5, pxL6, pxL7, pxL8, pxL9, pxL10, pxL11, pxL12, pxL13, pxL14, pxL15, pxL16, pxL17, pxL18, pxL19, pxL20, pxL21, pxL22, pxL23, pxL24, pxL25, pxL26, pxL27, pxL28, pxL29, pxL30, pxL31, pxL32, pxL33, pxL34, pxL35, pxL36, pxL37, pxL38, pxL39, pxL40, pxL41, pxL42, pxL43, pxL44, pxL45, pxL46, pxL47, pxL48, pxL49, pxL51, pxL57, pxL58, pxL59, pxL60, pxL61, pxL62, pxL63, pxL64, pxL65, pxL66, pxL67, pxL68, pxL69, pxL70, pxL71, pxL72, pxL73, pxL74, pxL75, pxL76, pxL77, pxL78, pxL79, pxL80, pxL81, pxL82, pxL83, pxL84, pxL85, pxL86, pxL87, pxL88, pxL89, pxL90, pxL91, pxL92, pxL93, pxL94, pxL95, pxL96, pxL97, pxL98, pxL99, pxL100, pxL101, pxL102, pxL103, pxL104, pxL105, pxL106, pxL107, pxL108, pxL109, pxL110, pxL111, pxL112, pxL113, pxL114, pxL115, pxL116, pxL117, pxL118, pxL119, pxL120, pxL121, pxL122, pxL123, pxL124, pxL125, pxL126, pxL200, pxL240, pxL287, pxL388, pxL400, pxL429, pxL431, pxL440, pxL1240, pxL1600, pxL1681, pxL12028, pxL13849, pxL14880, pxL25173, pxL26908, pxL49600, pxL65535, pxL65536, ↓reduceIte, pxJ_add, pxJ_sub, pxJ_mul, pxJ_neg, pxD_lt_t, pxD_lt_f, pxD_le_t, pxD_le_f, pxD_eq_t, pxD_eq_f, pxJ_lt, pxJ_le, pxJ_eq, px_gI, px_gR, px_pI, px_rc, px_ai, px_ar, px_si, px_ln, px_cp, pxJ_div, pxJ_b8, pxJ_byte, px_b2, px_bs, px_rb0, px_rb1, px_min, px_max, px_compare, pxW_some, jw_t_I, px_cpt, jw_r_I, px_cpr, jw_l_I, px_cpl, Option.some.injEq]
      try simp only [z10, ↓reduceIte]
      by_cases c41 : pxP s p = 41
      · have ae := s_X6_addElement G1.1 (kind := 3) he1 e0 (by omega) (pxJ k).toInt64
        unfold pxMach
        rw [if_pos ⟨rfl, c41⟩]
        have := ih N (pxAe (pxPl h (p + 1)) e 3 (pxJ k).toInt64) false a i t k (p + 1) (e + 1) (st + 1) (by omega) (by omega) (pxAe_G G1 e0) (by rw [pxAe_n (by omega)]; exact hp1) (pxAe_e e0 (by omega)) (by rw [pxAe_n (by omega)]; exact ht1) (by rw [pxAe_n (by omega)]; exact hk1) (by omega) (by omega) (by omega) (by omega) t0 (by omega) k0 k1 (fun q => by cases q) (by omega) (by omega) a0 (by omega) i0 (by omega)
        simp only [Bool.false_eq_true, ↓reduceIte] at this
        unfold g_X6_readPattern_b281
        simp (disch := first | assumption | omega | (simp only [jw_t_I, px_cpt]; done) | (simp only [jw_t_I, px_cpt]; omega)) only [pxL0, pxL1, pxL2, pxL3, pxL4, pxL5, pxL6, pxL7, pxL8, pxL9, pxL10, pxL11, pxL12, pxL13, pxL14, pxL15, pxL16, pxL17, pxL18, pxL19, pxL20, pxL21, pxL22, pxL23, pxL24, pxL25, pxL26, pxL27, pxL28, pxL29, pxL30, pxL31, pxL32, pxL33, pxL34, pxL35, pxL36, pxL37, pxL38, pxL39, pxL40, pxL41, pxL42, pxL43, pxL44, pxL45, pxL46, pxL47, pxL48, pxL49, pxL51, pxL57, pxL58, pxL59, pxL60, pxL61, pxL62, pxL63, pxL64, pxL65, pxL66, pxL67, pxL68, pxL69, pxL70, pxL71, pxL72, pxL73, pxL74, pxL75, pxL76, pxL77, pxL78, pxL79, pxL80, pxL81, pxL82, pxL83, pxL84, pxL85, pxL86, pxL87, pxL88, pxL89, pxL90, pxL91, pxL92, pxL93, pxL94, pxL95, pxL96, pxL97, pxL98, pxL99, pxL100, pxL101, pxL102, pxL103, pxL104, pxL105, pxL106, pxL107, pxL108, pxL109, pxL110, pxL111, pxL112, pxL113, pxL114, pxL115, pxL116, pxL117, pxL118, pxL119, pxL120, pxL121, pxL122, pxL123, pxL124, pxL125, pxL126, pxL200, pxL240, pxL287, pxL388, pxL400, pxL429, pxL431, pxL440, pxL1240, pxL1600, pxL1681, pxL12028, pxL13849, pxL14880, pxL25173, pxL26908, pxL49600, pxL65535, pxL65536, ↓reduceIte, pxJ_add, pxJ_sub, pxJ_mul, pxJ_neg, pxD_lt_t, pxD_lt_f, pxD_le_t, pxD_le_f, pxD_eq_t, pxD_eq_f, pxJ_lt, pxJ_le, pxJ_eq, px_gI, px_gR, px_pI, px_rc, px_ai, px_ar, px_si, px_ln, px_cp, pxJ_div, pxJ_b8, pxJ_byte, px_b2, px_bs, px_rb0, px_rb1, px_min, px_max, px_compare, pxW_some, jw_t_I, px_cpt, jw_r_I, px_cpr, jw_l_I, px_cpl, Option.some.injEq, hp, ee, hk1, c41, ae]
        refine pxMR_em (h1 := pxAe (pxPl h (p + 1)) e 3 (pxJ k).toInt64) e0 (FQ.trans (pxAe_F e0)) ?_ this
        right; right; right; left
        exact ⟨rfl, pxAe_k (by omega) (by omega), pxAe_v, gk trivial, k1⟩
      · have q41 : (pxJ (pxP s p) = 41) = False := by simp (disch := first | assumption | omega | (simp only [jw_t_I, px_cpt]; done) | (simp only [jw_t_I, px_cpt]; omega)) only [pxL0, pxL1, pxL2, pxL3, pxL4, pxL5, pxL6, pxL7, pxL8, pxL9, pxL10, pxL11, pxL12, pxL13, pxL14, pxL15, pxL16, pxL17, pxL18, pxL19, pxL20, pxL21, pxL22, pxL23, pxL24, pxL25, pxL26, pxL27, pxL28, pxL29, pxL30, pxL31, pxL32, pxL33, pxL34, pxL35, pxL36, pxL37, pxL38, pxL39, pxL40, pxL41, pxL42, pxL43, pxL44, pxL45, pxL46, pxL47, pxL48, pxL49, pxL51, pxL57, pxL58, pxL59, pxL60, pxL61, pxL62, pxL63, pxL64, pxL65, pxL66, pxL67, pxL68, pxL69, pxL70, pxL71, pxL72, pxL73, pxL74, pxL75, pxL76, pxL77, pxL78, pxL79, pxL80, pxL81, pxL82, pxL83, pxL84, pxL85, pxL86, pxL87, pxL88, pxL89, pxL90, pxL91, pxL92, pxL93, pxL94, pxL95, pxL96, pxL97, pxL98, pxL99, pxL100, pxL101, pxL102, pxL103, pxL104, pxL105, pxL106, pxL107, pxL108, pxL109, pxL110, pxL111, pxL112, pxL113, pxL114, pxL115, pxL116, pxL117, pxL118, pxL119, pxL120, pxL121, pxL122, pxL123, pxL124, pxL125, pxL126, pxL200, pxL240, pxL287, pxL388, pxL400, pxL429, pxL431, pxL440, pxL1240, pxL1600, pxL1681, pxL12028, pxL13849, pxL14880, pxL25173, pxL26908, pxL49600, pxL65535, pxL65536, ↓reduceIte, pxJ_add, pxJ_sub, pxJ_mul, pxJ_neg, pxD_lt_t, pxD_lt_f, pxD_le_t, pxD_le_f, pxD_eq_t, pxD_eq_f, pxJ_lt, pxJ_le, pxJ_eq, px_gI, px_gR, px_pI, px_rc, px_ai, px_ar, px_si, px_ln, px_cp, pxJ_div, pxJ_b8, pxJ_byte, px_b2, px_bs, px_rb0, px_rb1, px_min, px_max, px_compare, pxW_some, jw_t_I, px_cpt, jw_r_I, px_cpr, jw_l_I, px_cpl, Option.some.injEq]
        first | simp only [q41, ↓reduceIte] | simp only [if_neg c41] | skip
        unfold g_X6_readPattern_b97 g_X6_readPattern_b108 g_X6_readPattern_b178
        simp only [z10, ↓reduceIte]
        by_cases c12 : 12 ≤ a
        · have q12 : (pxJ a < 12) = False := by simp (disch := first | assumption | omega | (simp only [jw_t_I, px_cpt]; done) | (simp only [jw_t_I, px_cpt]; omega)) only [pxL0, pxL1, pxL2, pxL3, pxL4, pxL5, pxL6, pxL7, pxL8, pxL9, pxL10, pxL11, pxL12, pxL13, pxL14, pxL15, pxL16, pxL17, pxL18, pxL19, pxL20, pxL21, pxL22, pxL23, pxL24, pxL25, pxL26, pxL27, pxL28, pxL29, pxL30, pxL31, pxL32, pxL33, pxL34, pxL35, pxL36, pxL37, pxL38, pxL39, pxL40, pxL41, pxL42, pxL43, pxL44, pxL45, pxL46, pxL47, pxL48, pxL49, pxL51, pxL57, pxL58, pxL59, pxL60, pxL61, pxL62, pxL63, pxL64, pxL65, pxL66, pxL67, pxL68, pxL69, pxL70, pxL71, pxL72, pxL73, pxL74, pxL75, pxL76, pxL77, pxL78, pxL79, pxL80, pxL81, pxL82, pxL83, pxL84, pxL85, pxL86, pxL87, pxL88, pxL89, pxL90, pxL91, pxL92, pxL93, pxL94, pxL95, pxL96, pxL97, pxL98, pxL99, pxL100, pxL101, pxL102, pxL103, pxL104, pxL105, pxL106, pxL107, pxL108, pxL109, pxL110, pxL111, pxL112, pxL113, pxL114, pxL115, pxL116, pxL117, pxL118, pxL119, pxL120, pxL121, pxL122, pxL123, pxL124, pxL125, pxL126, pxL200, pxL240, pxL287, pxL388, pxL400, pxL429, pxL431, pxL440, pxL1240, pxL1600, pxL1681, pxL12028, pxL13849, pxL14880, pxL25173, pxL26908, pxL49600, pxL65535, pxL65536, ↓reduceIte, pxJ_add, pxJ_sub, pxJ_mul, pxJ_neg, pxD_lt_t, pxD_lt_f, pxD_le_t, pxD_le_f, pxD_eq_t, pxD_eq_f, pxJ_lt, pxJ_le, pxJ_eq, px_gI, px_gR, px_pI, px_rc, px_ai, px_ar, px_si, px_ln, px_cp, pxJ_div, pxJ_b8, pxJ_byte, px_b2, px_bs, px_rb0, px_rb1, px_min, px_max, px_compare, pxW_some, jw_t_I, px_cpt, jw_r_I, px_cpr, jw_l_I, px_cpl, Option.some.injEq]
          simp only [q12, ↓reduceIte]
          unfold pxMach
          rw [if_neg (fun q => c41 q.2), if_pos rfl, if_pos c12]
          exact stop true rfl
        · have q12 : (pxJ a < 12) = True := by simp (disch := first | assumption | omega | (simp only [jw_t_I, px_cpt]; done) | (simp only [jw_t_I, px_cpt]; omega)) only [pxL0, pxL1, pxL2, pxL3, pxL4, pxL5, pxL6, pxL7, pxL8, pxL9, pxL10, pxL11, pxL12, pxL13, pxL14, pxL15, pxL16, pxL17, pxL18, pxL19, pxL20, pxL21, pxL22, pxL23, pxL24, pxL25, pxL26, pxL27, pxL28, pxL29, pxL30, pxL31, pxL32, pxL33, pxL34, pxL35, pxL36, pxL37, pxL38, pxL39, pxL40, pxL41, pxL42, pxL43, pxL44, pxL45, pxL46, pxL47, pxL48, pxL49, pxL51, pxL57, pxL58, pxL59, pxL60, pxL61, pxL62, pxL63, pxL64, pxL65, pxL66, pxL67, pxL68, pxL69, pxL70, pxL71, pxL72, pxL73, pxL74, pxL75, pxL76, pxL77, pxL78, pxL79, pxL80, pxL81, pxL82, pxL83, pxL84, pxL85, pxL86, pxL87, pxL88, pxL89, pxL90, pxL91, pxL92, pxL93, pxL94, pxL95, pxL96, pxL97, pxL98, pxL99, pxL100, pxL101, pxL102, pxL103, pxL104, pxL105, pxL106, pxL107, pxL108, pxL109, pxL110, pxL111, pxL112, pxL113, pxL114, pxL115, pxL116, pxL117, pxL118, pxL119, pxL120, pxL121, pxL122, pxL123, pxL124, pxL125, pxL126, pxL200, pxL240, pxL287, pxL388, pxL400, pxL429, pxL431, pxL440, pxL1240, pxL1600, pxL1681, pxL12028, pxL13849, pxL14880, pxL25173, pxL26908, pxL49600, pxL65535, pxL65536, ↓reduceIte, pxJ_add, pxJ_sub, pxJ_mul, pxJ_neg, pxD_lt_t, pxD_lt_f, pxD_le_t, pxD_le_f, pxD_eq_t, pxD_eq_f, pxJ_lt, pxJ_le, pxJ_eq, px_gI, px_gR, px_pI, px_rc, px_ai, px_ar, px_si, px_ln, px_cp, pxJ_div, pxJ_b8, pxJ_byte, px_b2, px_bs, px_rb0, px_rb1, px_min, px_max, px_compare, pxW_some, jw_t_I, px_cpt, jw_r_I, px_cpr, jw_l_I, px_cpl, Option.some.injEq]
          simp only [q12, ↓reduceIte]
          exact rest (fun q => c41 q.2) c12 (fun q => by cases q.1) (fun q => by cases q.1)
    | false =>
      simp only [Bool.false_eq_true, ↓reduceIte] at *
      have z00 : (pxJ 0 = 0) = True := by simp (disch := first | assumption | omega | (simp only [jw_t_I, px_cpt]; done) | (simp only [jw_t_I, px_cpt]; omega)) only [pxL0, pxL1, pxL2, pxL3, pxL4, pxL5, pxL6, pxL7, pxL8, pxL9, pxL10, pxL11, pxL12, pxL13, pxL14, pxL15, pxL16, pxL17, pxL18, pxL19, pxL20, pxL21, pxL22, pxL23, pxL24, pxL25, pxL26, pxL27, pxL28, pxL29, pxL30, pxL31, pxL32, pxL33, pxL34, pxL35, pxL36, pxL37, pxL38, pxL39, pxL40, pxL41, pxL42, pxL43, pxL44, pxL45, pxL46, pxL47, pxL48, pxL49, pxL51, pxL57, pxL58, pxL59, pxL60, pxL61, pxL62, pxL63, pxL64, pxL65, pxL66, pxL67, pxL68, pxL69, pxL70, pxL71, pxL72, pxL73, pxL74, pxL75, pxL76, pxL77, pxL78, pxL79, pxL80, pxL81, pxL82, pxL83, pxL84, pxL85, pxL86, pxL87, pxL88, pxL89, pxL90, pxL91, pxL92, pxL93, pxL94, pxL95, pxL96, pxL97, pxL98, pxL99, pxL100, pxL101, pxL102, pxL103, pxL104, pxL105, pxL106, pxL107, pxL108, pxL109, pxL110, pxL111, pxL112, pxL113, pxL114, pxL115, pxL116, pxL117, pxL118, pxL119, pxL120, pxL121, pxL122, pxL123, pxL124, pxL125, pxL126, pxL200, pxL240, pxL287, pxL388, pxL400, pxL429, pxL431, pxL440, pxL1240, pxL1600, pxL1681, pxL12028, pxL13849, pxL14880, pxL25173, pxL26908, pxL49600, pxL65535, pxL65536, ↓reduceIte, pxJ_add, pxJ_sub, pxJ_mul, pxJ_neg, pxD_lt_t, pxD_lt_f, pxD_le_t, pxD_le_f, pxD_eq_t, pxD_eq_f, pxJ_lt, pxJ_le, pxJ_eq, px_gI, px_gR, px_pI, px_rc, px_ai, px_ar, px_si, px_ln, px_cp, pxJ_div, pxJ_b8, pxJ_byte, px_b2, px_bs, px_rb0, px_rb1, px_min, px_max, px_compare, pxW_some, jw_t_I, px_cpt, jw_r_I, px_cpr, jw_l_I, px_cpl, Option.some.injEq]
      unfold g_X6_readPattern_b97 g_X6_readPattern_b108
      simp only [z00, ↓reduceIte]
      have n41 : ¬ (false = true ∧ pxP s p = 41) := fun q => by cases q.1
      by_cases c12 : 12 ≤ i
      · have q12 : (pxJ i < 12) = False := by simp (disch := first | assumption | omega | (simp only [jw_t_I, px_cpt]; done) | (simp only [jw_t_I, px_cpt]; omega)) only [pxL0, pxL1, pxL2, pxL3, pxL4, pxL5, pxL6, pxL7, pxL8, pxL9, pxL10, pxL11, pxL12, pxL13, pxL14, pxL15, pxL16, pxL17, pxL18, pxL19, pxL20, pxL21, pxL22, pxL23, pxL24, pxL25, pxL26, pxL27, pxL28, pxL29, pxL30, pxL31, pxL32, pxL33, pxL34, pxL35, pxL36, pxL37, pxL38, pxL39, pxL40, pxL41, pxL42, pxL43, pxL44, pxL45, pxL46, pxL47, pxL48, pxL49, pxL51, pxL57, pxL58, pxL59, pxL60, pxL61, pxL62, pxL63, pxL64, pxL65, pxL66, pxL67, pxL68, pxL69, pxL70, pxL71, pxL72, pxL73, pxL74, pxL75, pxL76, pxL77, pxL78, pxL79, pxL80, pxL81, pxL82, pxL83, pxL84, pxL85, pxL86, pxL87, pxL88, pxL89, pxL90, pxL91, pxL92, pxL93, pxL94, pxL95, pxL96, pxL97, pxL98, pxL99, pxL100, pxL101, pxL102, pxL103, pxL104, pxL105, pxL106, pxL107, pxL108, pxL109, pxL110, pxL111, pxL112, pxL113, pxL114, pxL115, pxL116, pxL117, pxL118, pxL119, pxL120, pxL121, pxL122, pxL123, pxL124, pxL125, pxL126, pxL200, pxL240, pxL287, pxL388, pxL400, pxL429, pxL431, pxL440, pxL1240, pxL1600, pxL1681, pxL12028, pxL13849, pxL14880, pxL25173, pxL26908, pxL49600, pxL65535, pxL65536, ↓reduceIte, pxJ_add, pxJ_sub, pxJ_mul, pxJ_neg, pxD_lt_t, pxD_lt_f, pxD_le_t, pxD_le_f, pxD_eq_t, pxD_eq_f, pxJ_lt, pxJ_le, pxJ_eq, px_gI, px_gR, px_pI, px_rc, px_ai, px_ar, px_si, px_ln, px_cp, pxJ_div, pxJ_b8, pxJ_byte, px_b2, px_bs, px_rb0, px_rb1, px_min, px_max, px_compare, pxW_some, jw_t_I, px_cpt, jw_r_I, px_cpr, jw_l_I, px_cpl, Option.some.injEq]
        simp only [q12, ↓reduceIte]
        unfold pxMach
        rw [if_neg n41, if_neg (by simp : ¬ (false = true)), if_pos c12]
        exact stop false rfl
      · have q12 : (pxJ i < 12) = True := by simp (disch := first | assumption | omega | (simp only [jw_t_I, px_cpt]; done) | (simp only [jw_t_I, px_cpt]; omega)) only [pxL0, pxL1, pxL2, pxL3, pxL4, pxL5, pxL6, pxL7, pxL8, pxL9, pxL10, pxL11, pxL12, pxL13, pxL14, pxL15, pxL16, pxL17, pxL18, pxL19, pxL20, pxL21, pxL22, pxL23, pxL24, pxL25, pxL26, pxL27, pxL28, pxL29, pxL30, pxL31, pxL32, pxL33, pxL34, pxL35, pxL36, pxL37, pxL38, pxL39, pxL40, pxL41, pxL42, pxL43, pxL44, pxL45, pxL46, pxL47, pxL48, pxL49, pxL51, pxL57, pxL58, pxL59, pxL60, pxL61, pxL62, pxL63, pxL64, pxL65, pxL66, pxL67, pxL68, pxL69, pxL70, pxL71, pxL72, pxL73, pxL74, pxL75, pxL76, pxL77, pxL78, pxL79, pxL80, pxL81, pxL82, pxL83, pxL84, pxL85, pxL86, pxL87, pxL88, pxL89, pxL90, pxL91, pxL92, pxL93, pxL94, pxL95, pxL96, pxL97, pxL98, pxL99, pxL100, pxL101, pxL102, pxL103, pxL104, pxL105, pxL106, pxL107, pxL108, pxL109, pxL110, pxL111, pxL112, pxL113, pxL114, pxL115, pxL116, pxL117, pxL118, pxL119, pxL120, pxL121, pxL122, pxL123, pxL124, pxL125, pxL126, pxL200, pxL240, pxL287, pxL388, pxL400, pxL429, pxL431, pxL440, pxL1240, pxL1600, pxL1681, pxL12028, pxL13849, pxL14880, pxL25173, pxL26908, pxL49600, pxL65535, pxL65536, ↓reduceIte, pxJ_add, pxJ_sub, pxJ_mul, pxJ_neg, pxD_lt_t, pxD_lt_f, pxD_le_t, pxD_le_f, pxD_eq_t, pxD_eq_f, pxJ_lt, pxJ_le, pxJ_eq, px_gI, px_gR, px_pI, px_rc, px_ai, px_ar, px_si, px_ln, px_cp, pxJ_div, pxJ_b8, pxJ_byte, px_b2, px_bs, px_rb0, px_rb1, px_min, px_max, px_compare, pxW_some, jw_t_I, px_cpt, jw_r_I, px_cpr, jw_l_I, px_cpl, Option.some.injEq]
        simp only [q12, ↓reduceIte]
        -- no group begins here
        have b178 : ¬ (pxP s p = 40 ∧ k < 2) → pxMR h s e (pxMach s (m + 1) false a i t k p) x1 x2 (g_X6_readPattern_b178 (f_X6_readPattern_b46 N) h 10 x1 x2 (pxJ i) (pxJ a) (pxJ 0) (pxJ st) (pxJ (pxP s p))) := by
          intro n40
          unfold g_X6_readPattern_b178
          simp only [z00, ↓reduceIte]
          by_cases c92 : pxP s p = 92 ∧ 0 < k
          · unfold pxMach
            rw [if_neg n41, if_neg (by simp : ¬ (false = true)), if_neg c12, if_neg (fun q => n40 q.2), if_pos ⟨rfl, c92⟩]
            have rf := s_X6_readFrom G1 hp1 (by omega) (lo := 49) (hi := 48 + k) (by omega) (by omega) (by omega) (by omega)
            rw [pxPl_2] at rf
            by_cases cin : 49 ≤ pxP s (p + 1) ∧ pxP s (p + 1) ≤ 48 + k
            · rw [if_pos cin]
              rw [if_pos cin, if_pos cin] at rf
              have l2 := pxP_lt (s := s) (p := p + 1) (by omega)
              have G2 : pxPG (pxPl h (p + 1 + 1)) b s := pxPl_G G
              have he2 : pxM (pxPl h (p + 1 + 1)) 10 7 = e := by rw [pxPl_n (by omega)]; exact he
              have ae := s_X6_addElement G2.1 (kind := 4) he2 e0 (by omega) (pxJ (pxP s (p + 1) - 48)).toInt64
              have tg2 : (jw_t (pxPl h (p + 1 + 1)) 10).1 = 6 := tg
              have F2 : pxF (pxQe e) h (pxPl h (p + 1 + 1)) := pxPl_F.mono (fun k f q => by unfold pxQe; omega)
              have := ih N (pxAe (pxPl h (p + 1 + 1)) e 4 (pxJ (pxP s (p + 1) - 48)).toInt64) false a (i + 1) t k (p + 2) (e + 1) (st + 1) (by omega) (by omega) (pxAe_G G2 e0) (by rw [pxAe_n (by omega), pxPl_p (by omega) (by omega)]; omega) (pxAe_e e0 (by omega)) (by rw [pxAe_n (by omega), pxPl_n (by omega)]; exact ht) (by rw [pxAe_n (by omega), pxPl_n (by omega)]; exact hk) (by omega) (by omega) (by omega) (by omega) t0 (by omega) k0 k1 (fun q => by cases q) (by omega) (by omega) a0 (by omega) (by omega) (by omega)
              simp only [Bool.false_eq_true, ↓reduceIte] at this
              unfold g_X6_readPattern_b281
              simp (disch := first | assumption | omega | (simp only [jw_t_I, px_cpt]; done) | (simp only [jw_t_I, px_cpt]; omega)) only [pxL0, pxL1, pxL2, pxL3, pxL4, pxL5, pxL6, pxL7, pxL8, pxL9, pxL10, pxL11, pxL12, pxL13, pxL14, pxL15, pxL16, pxL17, pxL18, pxL19, pxL20, pxL21, pxL22, pxL23, pxL24, pxL25, pxL26, pxL27, pxL28, pxL29, pxL30, pxL31, pxL32, pxL33, pxL34, pxL35, pxL36, pxL37, pxL38, pxL39, pxL40, pxL41, pxL42, pxL43, pxL44, pxL45, pxL46, pxL47, pxL48, pxL49, pxL51, pxL57, pxL58, pxL59, pxL60, pxL61, pxL62, pxL63, pxL64, pxL65, pxL66, pxL67, pxL68, pxL69, pxL70, pxL71, pxL72, pxL73, pxL74, pxL75, pxL76, pxL77, pxL78, pxL79, pxL80, pxL81, pxL82, pxL83, pxL84, pxL85, pxL86, pxL87, pxL88, pxL89, pxL90, pxL91, pxL92, pxL93, pxL94, pxL95, pxL96, pxL97, pxL98, pxL99, pxL100, pxL101, pxL102, pxL103, pxL104, pxL105, pxL106, pxL107, pxL108, pxL109, pxL110, pxL111, pxL112, pxL113, pxL114, pxL115, pxL116, pxL117, pxL118, pxL119, pxL120, pxL121, pxL122, pxL123, pxL124, pxL125, pxL126, pxL200, pxL240, pxL287, pxL388, pxL400, pxL429, pxL431, pxL440, pxL1240, pxL1600, pxL1681, pxL12028, pxL13849, pxL14880, pxL25173, pxL26908, pxL49600, pxL65535, pxL65536, ↓reduceIte, pxJ_add, pxJ_sub, pxJ_mul, pxJ_neg, pxD_lt_t, pxD_lt_f, pxD_le_t, pxD_le_f, pxD_eq_t, pxD_eq_f, pxJ_lt, pxJ_le, pxJ_eq, px_gI, px_gR, px_pI, px_rc, px_ai, px_ar, px_si, px_ln, px_cp, pxJ_div, pxJ_b8, pxJ_byte, px_b2, px_bs, px_rb0, px_rb1, px_min, px_max, px_compare, pxW_some, jw_t_I, px_cpt, jw_r_I, px_cpr, jw_l_I, px_cpl, Option.some.injEq, hp, ee, hk, hk1, c92, rf, show pxP s (p + 1) - 49 + 1 = pxP s (p + 1) - 48 by omega, ae]
              refine pxMR_em (h1 := pxAe (pxPl h (p + 1 + 1)) e 4 (pxJ (pxP s (p + 1) - 48)).toInt64) e0 (F2.trans (pxAe_F e0)) ?_ this
              right; right; right; right; left
              exact ⟨rfl, pxAe_k (by omega) (by omega), pxAe_v, by dsimp only; omega, by dsimp only; omega⟩
            · rw [if_neg cin]
              rw [if_neg cin, if_neg cin] at rf
              refine ⟨fun q => (by cases q), fun _ => ⟨pxPl h (p + 1), ?_, FQ, hp1⟩⟩
              simp (disch := first | assumption | omega | (simp only [jw_t_I, px_cpt]; done) | (simp only [jw_t_I, px_cpt]; omega)) only [pxL0, pxL1, pxL2, pxL3, pxL4, pxL5, pxL6, pxL7, pxL8, pxL9, pxL10, pxL11, pxL12, pxL13, pxL14, pxL15, pxL16, pxL17, pxL18, pxL19, pxL20, pxL21, pxL22, pxL23, pxL24, pxL25, pxL26, pxL27, pxL28, pxL29, pxL30, pxL31, pxL32, pxL33, pxL34, pxL35, pxL36, pxL37, pxL38, pxL39, pxL40, pxL41, pxL42, pxL43, pxL44, pxL45, pxL46, pxL47, pxL48, pxL49, pxL51, pxL57, pxL58, pxL59, pxL60, pxL61, pxL62, pxL63, pxL64, pxL65, pxL66, pxL67, pxL68, pxL69, pxL70, pxL71, pxL72, pxL73, pxL74, pxL75, pxL76, pxL77, pxL78, pxL79, pxL80, pxL81, pxL82, pxL83, pxL84, pxL85, pxL86, pxL87, pxL88, pxL89, pxL90, pxL91, pxL92, pxL93, pxL94, pxL95, pxL96, pxL97, pxL98, pxL99, pxL100, pxL101, pxL102, pxL103, pxL104, pxL105, pxL106, pxL107, pxL108, pxL109, pxL110, pxL111, pxL112, pxL113, pxL114, pxL115, pxL116, pxL117, pxL118, pxL119, pxL120, pxL121, pxL122, pxL123, pxL124, pxL125, pxL126, pxL200, pxL240, pxL287, pxL388, pxL400, pxL429, pxL431, pxL440, pxL1240, pxL1600, pxL1681, pxL12028, pxL13849, pxL14880, pxL25173, pxL26908, pxL49600, pxL65535, pxL65536, ↓reduceIte, pxJ_add, pxJ_sub, pxJ_mul, pxJ_neg, pxD_lt_t, pxD_lt_f, pxD_le_t, pxD_le_f, pxD_eq_t, pxD_eq_f, pxJ_lt, pxJ_le, pxJ_eq, px_gI, px_gR, px_pI, px_rc, px_ai, px_ar, px_si, px_ln, px_cp, pxJ_div, pxJ_b8, pxJ_byte, px_b2, px_bs, px_rb0, px_rb1, px_min, px_max, px_compare, pxW_some, jw_t_I, px_cpt, jw_r_I, px_cpr, jw_l_I, px_cpl, Option.some.injEq, hp, ee, hk, hk1, c92, rf]
          · have := rest (fun q => q.1) (by simp; omega) (fun q => n40 q.2) (fun q => c92 q.2)
            by_cases d92 : pxP s p = 92
            · simp (disch := first | assumption | omega | (simp only [jw_t_I, px_cpt]; done) | (simp only [jw_t_I, px_cpt]; omega)) only [pxL0, pxL1, pxL2, pxL3, pxL4, pxL5, pxL6, pxL7, pxL8, pxL9, pxL10, pxL11, pxL12, pxL13, pxL14, pxL15, pxL16, pxL17, pxL18, pxL19, pxL20, pxL21, pxL22, pxL23, pxL24, pxL25, pxL26, pxL27, pxL28, pxL29, pxL30, pxL31, pxL32, pxL33, pxL34, pxL35, pxL36, pxL37, pxL38, pxL39, pxL40, pxL41, pxL42, pxL43, pxL44, pxL45, pxL46, pxL47, pxL48, pxL49, pxL51, pxL57, pxL58, pxL59, pxL60, pxL61, pxL62, pxL63, pxL64, pxL65, pxL66, pxL67, pxL68, pxL69, pxL70, pxL71, pxL72, pxL73, pxL74, pxL75, pxL76, pxL77, pxL78, pxL79, pxL80, pxL81, pxL82, pxL83, pxL84, pxL85, pxL86, pxL87, pxL88, pxL89, pxL90, pxL91, pxL92, pxL93, pxL94, pxL95, pxL96, pxL97, pxL98, pxL99, pxL100, pxL101, pxL102, pxL103, pxL104, pxL105, pxL106, pxL107, pxL108, pxL109, pxL110, pxL111, pxL112, pxL113, pxL114, pxL115, pxL116, pxL117, pxL118, pxL119, pxL120, pxL121, pxL122, pxL123, pxL124, pxL125, pxL126, pxL200, pxL240, pxL287, pxL388, pxL400, pxL429, pxL431, pxL440, pxL1240, pxL1600, pxL1681, pxL12028, pxL13849, pxL14880, pxL25173, pxL26908, pxL49600, pxL65535, pxL65536, ↓reduceIte, pxJ_add, pxJ_sub, pxJ_mul, pxJ_neg, pxD_lt_t, pxD_lt_f, pxD_le_t, pxD_le_f, pxD_eq_t, pxD_eq_f, pxJ_lt, pxJ_le, pxJ_eq, px_gI, px_gR, px_pI, px_rc, px_ai, px_ar, px_si, px_ln, px_cp, pxJ_div, pxJ_b8, pxJ_byte, px_b2, px_bs, px_rb0, px_rb1, px_min, px_max, px_compare, pxW_some, jw_t_I, px_cpt, jw_r_I, px_cpr, jw_l_I, px_cpl, Option.some.injEq, hk]
              rw [show pxP s p = 92 from d92] at this
              simp (disch := first | assumption | omega | (simp only [jw_t_I, px_cpt]; done) | (simp only [jw_t_I, px_cpt]; omega)) only [pxL0, pxL1, pxL2, pxL3, pxL4, pxL5, pxL6, pxL7, pxL8, pxL9, pxL10, pxL11, pxL12, pxL13, pxL14, pxL15, pxL16, pxL17, pxL18, pxL19, pxL20, pxL21, pxL22, pxL23, pxL24, pxL25, pxL26, pxL27, pxL28, pxL29, pxL30, pxL31, pxL32, pxL33, pxL34, pxL35, pxL36, pxL37, pxL38, pxL39, pxL40, pxL41, pxL42, pxL43, pxL44, pxL45, pxL46, pxL47, pxL48, pxL49, pxL51, pxL57, pxL58, pxL59, pxL60, pxL61, pxL62, pxL63, pxL64, pxL65, pxL66, pxL67, pxL68, pxL69, pxL70, pxL71, pxL72, pxL73, pxL74, pxL75, pxL76, pxL77, pxL78, pxL79, pxL80, pxL81, pxL82, pxL83, pxL84, pxL85, pxL86, pxL87, pxL88, pxL89, pxL90, pxL91, pxL92, pxL93, pxL94, pxL95, pxL96, pxL97, pxL98, pxL99, pxL100, pxL101, pxL102, pxL103, pxL104, pxL105, pxL106, pxL107, pxL108, pxL109, pxL110, pxL111, pxL112, pxL113, pxL114, pxL115, pxL116, pxL117, pxL118, pxL119, pxL120, pxL121, pxL122, pxL123, pxL124, pxL125, pxL126, pxL200, pxL240, pxL287, pxL388, pxL400, pxL429, pxL431, pxL440, pxL1240, pxL1600, pxL1681, pxL12028, pxL13849, pxL14880, pxL25173, pxL26908, pxL49600, pxL65535, pxL65536, ↓reduceIte, pxJ_add, pxJ_sub, pxJ_mul, pxJ_neg, pxD_lt_t, pxD_lt_f, pxD_le_t, pxD_le_f, pxD_eq_t, pxD_eq_f, pxJ_lt, pxJ_le, pxJ_eq, px_gI, px_gR, px_pI, px_rc, px_ai, px_ar, px_si, px_ln, px_cp, pxJ_div, pxJ_b8, pxJ_byte, px_b2, px_bs, px_rb0, px_rb1, px_min, px_max, px_compare, pxW_some, jw_t_I, px_cpt, jw_r_I, px_cpr, jw_l_I, px_cpl, Option.some.injEq, d92]
              exact this
            · have q92 : (pxJ (pxP s p) = 92) = False := by simp (disch := first | assumption | omega | (simp only [jw_t_I, px_cpt]; done) | (simp only [jw_t_I, px_cpt]; omega)) only [pxL0, pxL1, pxL2, pxL3, pxL4, pxL5, pxL6, pxL7, pxL8, pxL9, pxL10, pxL11, pxL12, pxL13, pxL14, pxL15, pxL16, pxL17, pxL18, pxL19, pxL20, pxL21, pxL22, pxL23, pxL24, pxL25, pxL26, pxL27, pxL28, pxL29, pxL30, pxL31, pxL32, pxL33, pxL34, pxL35, pxL36, pxL37, pxL38, pxL39, pxL40, pxL41, pxL42, pxL43, pxL44, pxL45, pxL46, pxL47, pxL48, pxL49, pxL51, pxL57, pxL58, pxL59, pxL60, pxL61, pxL62, pxL63, pxL64, pxL65, pxL66, pxL67, pxL68, pxL69, pxL70, pxL71, pxL72, pxL73, pxL74, pxL75, pxL76, pxL77, pxL78, pxL79, pxL80, pxL81, pxL82, pxL83, pxL84, pxL85, pxL86, pxL87, pxL88, pxL89, pxL90, pxL91, pxL92, pxL93, pxL94, pxL95, pxL96, pxL97, pxL98, pxL99, pxL100, pxL101, pxL102, pxL103, pxL104, pxL105, pxL106, pxL107, pxL108, pxL109, pxL110, pxL111, pxL112, pxL113, pxL114, pxL115, pxL116, pxL117, pxL118, pxL119, pxL120, pxL121, pxL122, pxL123, pxL124, pxL125, pxL126, pxL200, pxL240, pxL287, pxL388, pxL400, pxL429, pxL431, pxL440, pxL1240, pxL1600, pxL1681, pxL12028, pxL13849, pxL14880, pxL25173, pxL26908, pxL49600, pxL65535, pxL65536, ↓reduceIte, pxJ_add, pxJ_sub, pxJ_mul, pxJ_neg, pxD_lt_t, pxD_lt_f, pxD_le_t, pxD_le_f, pxD_eq_t, pxD_eq_f, pxJ_lt, pxJ_le, pxJ_eq, px_gI, px_gR, px_pI, px_rc, px_ai, px_ar, px_si, px_ln, px_cp, pxJ_div, pxJ_b8, pxJ_byte, px_b2, px_bs, px_rb0, px_rb1, px_min, px_max, px_compare, pxW_some, jw_t_I, px_cpt, jw_r_I, px_cpr, jw_l_I, px_cpl, Option.some.injEq]
              simp only [q92, ↓reduceIte]
              exact this
        by_cases c40 : pxP s p = 40
        · by_cases ck : k < 2
          · unfold pxMach
            rw [if_neg n41, if_neg (by simp : ¬ (false = true)), if_neg c12, if_pos ⟨rfl, c40, ck⟩]
            have G2 : pxPG (jw_setI (pxPl h (p + 1)) 10 9 (pxJ (k + 1))) b s := G1.fr (P := fun k f => k = 10 ∧ f = 9) (pxF.setI ⟨rfl, rfl⟩) (fun k f q => by omega)
            have he2 : pxM (jw_setI (pxPl h (p + 1)) 10 9 (pxJ (k + 1))) 10 7 = e := by rw [pxM_ne (by omega)]; exact he1
            have hk2 : pxM (jw_setI (pxPl h (p + 1)) 10 9 (pxJ (k + 1))) 10 9 = k + 1 := pxM_eq (by omega) (by omega)
            have ae := s_X6_addElement G2.1 (kind := 2) he2 e0 (by omega) (pxJ (k + 1)).toInt64
            have := ih N (pxAe (jw_setI (pxPl h (p + 1)) 10 9 (pxJ (k + 1))) e 2 (pxJ (k + 1)).toInt64) true 0 (i + 1) t (k + 1) (p + 1) (e + 1) (st + 1) (by omega) (by omega) (pxAe_G G2 e0) (by rw [pxAe_n (by omega), pxM_ne (by omega)]; exact hp1) (pxAe_e e0 (by omega)) (by rw [pxAe_n (by omega), pxM_ne (by omega)]; exact ht1) (by rw [pxAe_n (by omega)]; exact hk2) (by omega) (by omega) (by omega) (by omega) t0 (by omega) (by omega) (by omega) (fun _ => by omega) (by omega) (by omega) (by omega) (by omega) (by omega) (by omega)
            simp only [↓reduceIte] at this
            unfold g_X6_readPattern_b281
            simp (disch := first | assumption | omega | (simp only [jw_t_I, px_cpt]; done) | (simp only [jw_t_I, px_cpt]; omega)) only [pxL0, pxL1, pxL2, pxL3, pxL4, pxL5, pxL6, pxL7, pxL8, pxL9, pxL10, pxL11, pxL12, pxL13, pxL14, pxL15, pxL16, pxL17, pxL18, pxL19, pxL20, pxL21, pxL22, pxL23, pxL24, pxL25, pxL26, pxL27, pxL28, pxL29, pxL30, pxL31, pxL32, pxL33, pxL34, pxL35, pxL36, pxL37, pxL38, pxL39, pxL40, pxL41, pxL42, pxL43, pxL44, pxL45, pxL46, pxL47, pxL48, pxL49, pxL51, pxL57, pxL58, pxL59, pxL60, pxL61, pxL62, pxL63, pxL64, pxL65, pxL66, pxL67, pxL68, pxL69, pxL70, pxL71, pxL72, pxL73, pxL74, pxL75, pxL76, pxL77, pxL78, pxL79, pxL80, pxL81, pxL82, pxL83, pxL84, pxL85, pxL86, pxL87, pxL88, pxL89, pxL90, pxL91, pxL92, pxL93, pxL94, pxL95, pxL96, pxL97, pxL98, pxL99, pxL100, pxL101, pxL102, pxL103, pxL104, pxL105, pxL106, pxL107, pxL108, pxL109, pxL110, pxL111, pxL112, pxL113, pxL114, pxL115, pxL116, pxL117, pxL118, pxL119, pxL120, pxL121, pxL122, pxL123, pxL124, pxL125, pxL126, pxL200, pxL240, pxL287, pxL388, pxL400, pxL429, pxL431, pxL440, pxL1240, pxL1600, pxL1681, pxL12028, pxL13849, pxL14880, pxL25173, pxL26908, pxL49600, pxL65535, pxL65536, ↓reduceIte, pxJ_add, pxJ_sub, pxJ_mul, pxJ_neg, pxD_lt_t, pxD_lt_f, pxD_le_t, pxD_le_f, pxD_eq_t, pxD_eq_f, pxJ_lt, pxJ_le, pxJ_eq, px_gI, px_gR, px_pI, px_rc, px_ai, px_ar, px_si, px_ln, px_cp, pxJ_div, pxJ_b8, pxJ_byte, px_b2, px_bs, px_rb0, px_rb1, px_min, px_max, px_compare, pxW_some, jw_t_I, px_cpt, jw_r_I, px_cpr, jw_l_I, px_cpl, Option.some.injEq, hp, ee, hk, hk1, hk2, c40, ae]
            refine pxMR_em (h1 := pxAe (jw_setI (pxPl h (p + 1)) 10 9 (pxJ (k + 1))) e 2 (pxJ (k + 1)).toInt64) e0 ((FQ.trans (pxF.setI (by unfold pxQe; omega))).trans (pxAe_F e0)) ?_ this
            right; right; left
            exact ⟨rfl, pxAe_k (by omega) (by omega), pxAe_v, by dsimp only; omega, by dsimp only; omega⟩
          · have := b178 (fun q => ck q.2)
            rw [c40] at this
            simp (disch := first | assumption | omega | (simp only [jw_t_I, px_cpt]; done) | (simp only [jw_t_I, px_cpt]; omega)) only [pxL0, pxL1, pxL2, pxL3, pxL4, pxL5, pxL6, pxL7, pxL8, pxL9, pxL10, pxL11, pxL12, pxL13, pxL14, pxL15, pxL16, pxL17, pxL18, pxL19, pxL20, pxL21, pxL22, pxL23, pxL24, pxL25, pxL26, pxL27, pxL28, pxL29, pxL30, pxL31, pxL32, pxL33, pxL34, pxL35, pxL36, pxL37, pxL38, pxL39, pxL40, pxL41, pxL42, pxL43, pxL44, pxL45, pxL46, pxL47, pxL48, pxL49, pxL51, pxL57, pxL58, pxL59, pxL60, pxL61, pxL62, pxL63, pxL64, pxL65, pxL66, pxL67, pxL68, pxL69, pxL70, pxL71, pxL72, pxL73, pxL74, pxL75, pxL76, pxL77, pxL78, pxL79, pxL80, pxL81, pxL82, pxL83, pxL84, pxL85, pxL86, pxL87, pxL88, pxL89, pxL90, pxL91, pxL92, pxL93, pxL94, pxL95, pxL96, pxL97, pxL98, pxL99, pxL100, pxL101, pxL102, pxL103, pxL104, pxL105, pxL106, pxL107, pxL108, pxL109, pxL110, pxL111, pxL112, pxL113, pxL114, pxL115, pxL116, pxL117, pxL118, pxL119, pxL120, pxL121, pxL122, pxL123, pxL124, pxL125, pxL126, pxL200, pxL240, pxL287, pxL388, pxL400, pxL429, pxL431, pxL440, pxL1240, pxL1600, pxL1681, pxL12028, pxL13849, pxL14880, pxL25173, pxL26908, pxL49600, pxL65535, pxL65536, ↓reduceIte, pxJ_add, pxJ_sub, pxJ_mul, pxJ_neg, pxD_lt_t, pxD_lt_f, pxD_le_t, pxD_le_f, pxD_eq_t, pxD_eq_f, pxJ_lt, pxJ_le, pxJ_eq, px_gI, px_gR, px_pI, px_rc, px_ai, px_ar, px_si, px_ln, px_cp, pxJ_div, pxJ_b8, pxJ_byte, px_b2, px_bs, px_rb0, px_rb1, px_min, px_max, px_compare, pxW_some, jw_t_I, px_cpt, jw_r_I, px_cpr, jw_l_I, px_cpl, Option.some.injEq, hk, c40]
            exact this
        · have q40 : (pxJ (pxP s p) = 40) = False := by simp (disch := first | assumption | omega | (simp only [jw_t_I, px_cpt]; done) | (simp only [jw_t_I, px_cpt]; omega)) only [pxL0, pxL1, pxL2, pxL3, pxL4, pxL5, pxL6, pxL7, pxL8, pxL9, pxL10, pxL11, pxL12, pxL13, pxL14, pxL15, pxL16, pxL17, pxL18, pxL19, pxL20, pxL21, pxL22, pxL23, pxL24, pxL25, pxL26, pxL27, pxL28, pxL29, pxL30, pxL31, pxL32, pxL33, pxL34, pxL35, pxL36, pxL37, pxL38, pxL39, pxL40, pxL41, pxL42, pxL43, pxL44, pxL45, pxL46, pxL47, pxL48, pxL49, pxL51, pxL57, pxL58, pxL59, pxL60, pxL61, pxL62, pxL63, pxL64, pxL65, pxL66, pxL67, pxL68, pxL69, pxL70, pxL71, pxL72, pxL73, pxL74, pxL75, pxL76, pxL77, pxL78, pxL79, pxL80, pxL81, pxL82, pxL83, pxL84, pxL85, pxL86, pxL87, pxL88, pxL89, pxL90, pxL91, pxL92, pxL93, pxL94, pxL95, pxL96, pxL97, pxL98, pxL99, pxL100, pxL101, pxL102, pxL103, pxL104, pxL105, pxL106, pxL107, pxL108, pxL109, pxL110, pxL111, pxL112, pxL113, pxL114, pxL115, pxL116, pxL117, pxL118, pxL119, pxL120, pxL121, pxL122, pxL123, pxL124, pxL125, pxL126, pxL200, pxL240, pxL287, pxL388, pxL400, pxL429, pxL431, pxL440, pxL1240, pxL1600, pxL1681, pxL12028, pxL13849, pxL14880, pxL25173, pxL26908, pxL49600, pxL65535, pxL65536, ↓reduceIte, pxJ_add, pxJ_sub, pxJ_mul, pxJ_neg, pxD_lt_t, pxD_lt_f, pxD_le_t, pxD_le_f, pxD_eq_t, pxD_eq_f, pxJ_lt, pxJ_le, pxJ_eq, px_gI, px_gR, px_pI, px_rc, px_ai, px_ar, px_si, px_ln, px_cp, pxJ_div, pxJ_b8, pxJ_byte, px_b2, px_bs, px_rb0, px_rb1, px_min, px_max, px_compare, pxW_some, jw_t_I, px_cpt, jw_r_I, px_cpr, jw_l_I, px_cpl, Option.some.injEq]
          simp only [q40, ↓reduceIte]
          exact b178 (fun q => c40 q.1)
end
