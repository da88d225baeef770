/-! patterns and addresses -/
theorem pxPt0_b {s : List Int} {p : Int} (h0 : 0 ≤ p) (h1 : p ≤ s.length) : p ≤ pxPt0 s p ∧ pxPt0 s p ≤ p + 1 ∧ pxPt0 s p ≤ s.length ∧ (pxPt0 s p = p + 1 ↔ pxP s p = 94) := by
  unfold pxPt0
  by_cases h : pxP s p = 94
  · rw [if_pos h]
    have := pxP_lt (s := s) (p := p) (by omega)
    omega
  · rw [if_neg h]; omega
theorem pxPat_b {s : List Int} {p : Int} (h0 : 0 ≤ p) (h1 : p ≤ s.length) : p ≤ (pxPat s p).2 ∧ (pxPat s p).2 ≤ s.length ∧ ((pxPat s p).1 = true → p < (pxPat s p).2 ∧ ((pxFull s p).length : Int) ≤ (pxPat s p).2 - p + 1) := by
  have a := pxPt0_b h0 h1
  have m := pxMach_b (s := s) 61 false 0 0 0 0 (pxPt0 s p) (by omega) a.2.2.1
  rw [show pxMach s 61 false 0 0 0 0 (pxPt0 s p) = pxPtM s p from rfl] at m
  have q1 : (pxPtM s p).2.1 ≤ pxPt1 s p ∧ pxPt1 s p ≤ s.length ∧ (pxP s (pxPtM s p).2.1 = 36 → pxPt1 s p = (pxPtM s p).2.1 + 1) := by
    unfold pxPt1
    by_cases h : pxP s (pxPtM s p).2.1 = 36
    · rw [if_pos h]
      have := pxP_lt (s := s) (p := (pxPtM s p).2.1) (by omega)
      omega
    · rw [if_neg h]; omega
  have l : ((pxFull s p).length : Int) = (if pxP s p = 94 then 1 else 0) + (pxPtM s p).2.2.1.length + (if pxP s (pxPtM s p).2.1 = 36 then 1 else 0) + 1 := by
    unfold pxFull
    simp only [List.length_append, List.length_singleton]
    split <;> split <;> simp
  unfold pxPat
  by_cases hm : (pxPtM s p).1 = true
  · rw [if_pos hm]
    by_cases hq : pxPt1 s p = p
    · rw [if_pos hq]; exact ⟨Int.le_refl _, h1, fun e => by cases e⟩
    · rw [if_neg hq]
      refine ⟨by dsimp only; omega, q1.2.1, fun _ => ⟨by dsimp only; omega, ?_⟩⟩
      rw [l]
      dsimp only
      by_cases c1 : pxP s p = 94
      · have := a.2.2.2.mpr c1
        rw [if_pos c1]
        by_cases c2 : pxP s (pxPtM s p).2.1 = 36
        · have := q1.2.2 c2
          rw [if_pos c2]; omega
        · rw [if_neg c2]; omega
      · rw [if_neg c1]
        by_cases c2 : pxP s (pxPtM s p).2.1 = 36
        · have := q1.2.2 c2
          rw [if_pos c2]; omega
        · rw [if_neg c2]; omega
  · rw [if_neg hm]; exact ⟨by dsimp only; omega, m.2, fun e => by cases e⟩
section
variable {h : jw_H} {b : Nat} {s : List Int}
theorem s_X6_readPattern_b287 {p q e : Int} {x2 : Int32} (G : pxPG h b s) (hp : pxM h 10 5 = q) (he : pxM h 10 7 = e) (h0 : 0 ≤ q) (h1 : q ≤ s.length) (hpq : p ≤ q) (hp0 : 0 ≤ p) (e0 : 0 ≤ e) (e1 : e < 119) :
    ((if pxP s q = 36 then q + 1 else q) = p → ∃ h', g_X6_readPattern_b287 h 10 (pxJ p) x2 (pxJ 0) = some (pxJ (-1), h') ∧ pxF (pxQe e) h h' ∧ pxM h' 10 5 = p) ∧
    ((if pxP s q = 36 then q + 1 else q) ≠ p → ∃ h', g_X6_readPattern_b287 h 10 (pxJ p) x2 (pxJ 0) = some (x2, h') ∧ pxF (pxQe e) h h' ∧ pxM h' 10 5 = (if pxP s q = 36 then q + 1 else q) ∧ pxM h' 10 9 = pxM h 10 9 ∧ pxM h' 10 7 = e + ((if pxP s q = 36 then [((9 : Int), (0 : Int))] else []) ++ [((10 : Int), (0 : Int))]).length ∧ pxEls h' s e ((if pxP s q = 36 then [(9, 0)] else []) ++ [(10, 0)])) := by
  have n60 := G.2.2.2.2.1.1
  have tg := G.1.1
  have ps := s_X6_pass G hp h0 (c := 36) (by omega) (by omega)
  by_cases c36 : pxP s q = 36
  · simp only [if_pos c36] at ps ⊢
    have G1 : pxPG (pxPl h (q + 1)) b s := pxPl_G G
    have he1 : pxM (pxPl h (q + 1)) 10 7 = e := by rw [pxPl_n (by omega)]; exact he
    have ae := s_X6_addElement G1.1 (kind := 6) he1 e0 (by omega) 0
    have G2 : pxPG (pxAe (pxPl h (q + 1)) e 6 0) b s := pxAe_G G1 e0
    have he2 : pxM (pxAe (pxPl h (q + 1)) e 6 0) 10 7 = e + 1 := pxAe_e e0 (by omega)
    have hp2 : pxM (pxAe (pxPl h (q + 1)) e 6 0) 10 5 = q + 1 := by rw [pxAe_n (by omega), pxPl_p (by omega) (by omega)]
    have ae2 := s_X6_addElement G2.1 (kind := 7) he2 (by omega) (by omega) 0
    have tg1 : (jw_t (pxPl h (q + 1)) 10).1 = 6 := tg
    have tg2 : (jw_t (pxAe (pxPl h (q + 1)) e 6 0) 10).1 = 6 := tg
    have F1 : pxF (pxQe e) h (pxPl h (q + 1)) := pxPl_F.mono (fun k f z => by unfold pxQe; omega)
    have F2 := F1.trans (pxAe_F (kind := 6) (v := 0) e0)
    have F3 : pxF (pxQe e) h (pxAe (pxAe (pxPl h (q + 1)) e 6 0) (e + 1) 7 0) := F2.trans ((pxAe_F (by omega)).mono (fun k f z => by unfold pxQe at *; omega))
    refine ⟨fun z => by omega, fun z => ⟨pxAe (pxAe (pxPl h (q + 1)) e 6 0) (e + 1) 7 0, ?_, F3, ?_, ?_, ?_, ?_⟩⟩
    · unfold g_X6_readPattern_b287 g_X6_readPattern_b310
      simp (disch := first | assumption | omega | (simp only [jw_t_I, px_cpt]; done) | (simp only [jw_t_I, px_cpt]; omega)) only [pxL0, pxL1, pxL2, pxL3, pxL4, pxL5, pxL6, pxL7, pxL8, pxL9, pxL10, pxL11, pxL12, pxL13, pxL14, pxL15, pxL16, pxL17, pxL18, pxL19, pxL20, pxL21, pxL22, pxL23, pxL24, pxL25, pxL26, pxL27, pxL28, pxL29, pxL30, pxL31, pxL32, pxL33, pxL34, pxL35, pxL36, pxL37, pxL38, pxL39, pxL40, pxL41, pxL42, pxL43, pxL44, pxL45, pxL46, pxL47, pxL48, pxL49, pxL51, pxL57, pxL58, pxL59, pxL60, pxL61, pxL62, pxL63, pxL64, pxL65, pxL66, pxL67, pxL68, pxL69, pxL70, pxL71, pxL72, pxL73, pxL74, pxL75, pxL76, pxL77, pxL78, pxL79, pxL80, pxL81, pxL82, pxL83, pxL84, pxL85, pxL86, pxL87, pxL88, pxL89, pxL90, pxL91, pxL92, pxL93, pxL94, pxL95, pxL96, pxL97, pxL98, pxL99, pxL100, pxL101, pxL102, pxL103, pxL104, pxL105, pxL106, pxL107, pxL108, pxL109, pxL110, pxL111, pxL112, pxL113, pxL114, pxL115, pxL116, pxL117, pxL118, pxL119, pxL120, pxL121, pxL122, pxL123, pxL124, pxL125, pxL126, pxL200, pxL240, pxL287, pxL388, pxL400, pxL429, pxL431, pxL440, pxL1240, pxL1600, pxL1681, pxL12028, pxL13849, pxL14880, pxL25173, pxL26908, pxL49600, pxL65535, pxL65536, ↓reduceIte, pxJ_add, pxJ_sub, pxJ_mul, pxJ_neg, pxD_lt_t, pxD_lt_f, pxD_le_t, pxD_le_f, pxD_eq_t, pxD_eq_f, pxJ_lt, pxJ_le, pxJ_eq, px_gI, px_gR, px_pI, px_rc, px_ai, px_ar, px_si, px_ln, px_cp, pxJ_div, pxJ_b8, pxJ_byte, px_b2, px_bs, px_rb0, px_rb1, px_min, px_max, px_compare, pxW_some, jw_t_I, px_cpt, jw_r_I, px_cpr, jw_l_I, px_cpl, Option.some.injEq, ps, ae, hp2, ae2]
    · rw [pxAe_n (by omega)]; exact hp2
    · rw [pxAe_n (by omega), pxAe_n (by omega), pxPl_n (by omega)]
    · rw [pxAe_e (by omega) (by omega)]; simp; omega
    · have Fx := pxAe_F (h := pxAe (pxPl h (q + 1)) e 6 0) (e := e + 1) (kind := 7) (v := 0) (by omega)
      refine ⟨?_, ?_, trivial⟩
      · rw [Fx.m (by unfold pxQe; omega), Fx.l (by unfold pxQe; omega)]
        right; right; right; right; right; right; left
        exact ⟨rfl, pxAe_k (by omega) (by omega)⟩
      · right; right; right; right; right; right; right
        exact ⟨rfl, pxAe_k (by omega) (by omega)⟩
  · simp only [if_neg c36] at ps ⊢
    rw [pxPl_id hp] at ps
    have ae := s_X6_addElement G.1 (kind := 7) he e0 (by omega) 0
    refine ⟨fun z => ⟨h, ?_, pxF.rfl, by rw [hp]; exact z⟩, fun z => ⟨pxAe h e 7 0, ?_, pxAe_F e0, ?_, ?_, ?_, ?_⟩⟩
    · unfold g_X6_readPattern_b287 g_X6_readPattern_b310
      subst z
      simp (disch := first | assumption | omega | (simp only [jw_t_I, px_cpt]; done) | (simp only [jw_t_I, px_cpt]; omega)) only [pxL0, pxL1, pxL2, pxL3, pxL4, pxL5, pxL6, pxL7, pxL8, pxL9, pxL10, pxL11, pxL12, pxL13, pxL14, pxL15, pxL16, pxL17, pxL18, pxL19, pxL20, pxL21, pxL22, pxL23, pxL24, pxL25, pxL26, pxL27, pxL28, pxL29, pxL30, pxL31, pxL32, pxL33, pxL34, pxL35, pxL36, pxL37, pxL38, pxL39, pxL40, pxL41, pxL42, pxL43, pxL44, pxL45, pxL46, pxL47, pxL48, pxL49, pxL51, pxL57, pxL58, pxL59, pxL60, pxL61, pxL62, pxL63, pxL64, pxL65, pxL66, pxL67, pxL68, pxL69, pxL70, pxL71, pxL72, pxL73, pxL74, pxL75, pxL76, pxL77, pxL78, pxL79, pxL80, pxL81, pxL82, pxL83, pxL84, pxL85, pxL86, pxL87, pxL88, pxL89, pxL90, pxL91, pxL92, pxL93, pxL94, pxL95, pxL96, pxL97, pxL98, pxL99, pxL100, pxL101, pxL102, pxL103, pxL104, pxL105, pxL106, pxL107, pxL108, pxL109, pxL110, pxL111, pxL112, pxL113, pxL114, pxL115, pxL116, pxL117, pxL118, pxL119, pxL120, pxL121, pxL122, pxL123, pxL124, pxL125, pxL126, pxL200, pxL240, pxL287, pxL388, pxL400, pxL429, pxL431, pxL440, pxL1240, pxL1600, pxL1681, pxL12028, pxL13849, pxL14880, pxL25173, pxL26908, pxL49600, pxL65535, pxL65536, ↓reduceIte, pxJ_add, pxJ_sub, pxJ_mul, pxJ_neg, pxD_lt_t, pxD_lt_f, pxD_le_t, pxD_le_f, pxD_eq_t, pxD_eq_f, pxJ_lt, pxJ_le, pxJ_eq, px_gI, px_gR, px_pI, px_rc, px_ai, px_ar, px_si, px_ln, px_cp, pxJ_div, pxJ_b8, pxJ_byte, px_b2, px_bs, px_rb0, px_rb1, px_min, px_max, px_compare, pxW_some, jw_t_I, px_cpt, jw_r_I, px_cpr, jw_l_I, px_cpl, Option.some.injEq, ps, hp]
    · unfold g_X6_readPattern_b287 g_X6_readPattern_b310
      simp (disch := first | assumption | omega | (simp only [jw_t_I, px_cpt]; done) | (simp only [jw_t_I, px_cpt]; omega)) only [pxL0, pxL1, pxL2, pxL3, pxL4, pxL5, pxL6, pxL7, pxL8, pxL9, pxL10, pxL11, pxL12, pxL13, pxL14, pxL15, pxL16, pxL17, pxL18, pxL19, pxL20, pxL21, pxL22, pxL23, pxL24, pxL25, pxL26, pxL27, pxL28, pxL29, pxL30, pxL31, pxL32, pxL33, pxL34, pxL35, pxL36, pxL37, pxL38, pxL39, pxL40, pxL41, pxL42, pxL43, pxL44, pxL45, pxL46, pxL47, pxL48, pxL49, pxL51, pxL57, pxL58, pxL59, pxL60, pxL61, pxL62, pxL63, pxL64, pxL65, pxL66, pxL67, pxL68, pxL69, pxL70, pxL71, pxL72, pxL73, pxL74, pxL75, pxL76, pxL77, pxL78, pxL79, pxL80, pxL81, pxL82, pxL83, pxL84, pxL85, pxL86, pxL87, pxL88, pxL89, pxL90, pxL91, pxL92, pxL93, pxL94, pxL95, pxL96, pxL97, pxL98, pxL99, pxL100, pxL101, pxL102, pxL103, pxL104, pxL105, pxL106, pxL107, pxL108, pxL109, pxL110, pxL111, pxL112, pxL113, pxL114, pxL115, pxL116, pxL117, pxL118, pxL119, pxL120, pxL121, pxL122, pxL123, pxL124, pxL125, pxL126, pxL200, pxL240, pxL287, pxL388, pxL400, pxL429, pxL431, pxL440, pxL1240, pxL1600, pxL1681, pxL12028, pxL13849, pxL14880, pxL25173, pxL26908, pxL49600, pxL65535, pxL65536, ↓reduceIte, pxJ_add, pxJ_sub, pxJ_mul, pxJ_neg, pxD_lt_t, pxD_lt_f, pxD_le_t, pxD_le_f, pxD_eq_t, pxD_eq_f, pxJ_lt, pxJ_le, pxJ_eq, px_gI, px_gR, px_pI, px_rc, px_ai, px_ar, px_si, px_ln, px_cp, pxJ_div, pxJ_b8, pxJ_byte, px_b2, px_bs, px_rb0, px_rb1, px_min, px_max, px_compare, pxW_some, jw_t_I, px_cpt, jw_r_I, px_cpr, jw_l_I, px_cpl, Option.some.injEq, ps, hp, ae]
    · rw [pxAe_n (by omega)]; exact hp
    · rw [pxAe_n (by omega)]
    · rw [pxAe_e (by omega) (by omega)]; simp
    · refine ⟨?_, trivial⟩
      right; right; right; right; right; right; right
      exact ⟨rfl, pxAe_k (by omega) (by omega)⟩
theorem s_X6_readPattern {p e : Int} (G : pxPG h b s) (hp : pxM h 10 5 = p) (he : pxM h 10 7 = e) (h0 : 0 ≤ p) (h1 : p ≤ s.length) (e0 : 0 ≤ e) (e1 : e ≤ 58 + p) :
    ((pxPat s p).1 = true → ∃ h', f_X6_readPattern h 10 = some (pxJ e, h') ∧ pxF (pxQe e) h h' ∧ pxM h' 10 5 = (pxPat s p).2 ∧ pxM h' 10 9 = pxPatK s p ∧ pxM h' 10 7 = e + (pxFull s p).length ∧ pxEls h' s e (pxFull s p)) ∧
    ((pxPat s p).1 = false → ∃ h', f_X6_readPattern h 10 = some (pxJ (-1), h') ∧ pxF (pxQe e) h h' ∧ pxM h' 10 5 = (pxPat s p).2) := by
  have n60 := G.2.2.2.2.1.1
  have tg := G.1.1
  have hin := pxP_in G.2.2.2.2.1 p
  have a := pxPt0_b h0 h1
  have G4 : pxPG (jw_setI (jw_setI h 10 8 (pxJ 0)) 10 9 (pxJ 0)) b s := G.fr (P := fun k f => k = 10 ∧ (f = 8 ∨ f = 9)) ((pxF.setI (by omega)).trans (pxF.setI (by omega))) (fun k f z => by omega)
  have F4 : pxF (pxQe e) h (jw_setI (jw_setI h 10 8 (pxJ 0)) 10 9 (pxJ 0)) := (pxF.setI (by unfold pxQe; omega)).trans (pxF.setI (by unfold pxQe; omega))
  have hp4 : pxM (jw_setI (jw_setI h 10 8 (pxJ 0)) 10 9 (pxJ 0)) 10 5 = p := by rw [pxM_ne (by omega), pxM_ne (by omega)]; exact hp
  have he4 : pxM (jw_setI (jw_setI h 10 8 (pxJ 0)) 10 9 (pxJ 0)) 10 7 = e := by rw [pxM_ne (by omega), pxM_ne (by omega)]; exact he
  have ht4 : pxM (jw_setI (jw_setI h 10 8 (pxJ 0)) 10 9 (pxJ 0)) 10 8 = 0 := by rw [pxM_ne (by omega), pxM_eq (by omega) (by omega)]
  have hk4 : pxM (jw_setI (jw_setI h 10 8 (pxJ 0)) 10 9 (pxJ 0)) 10 9 = 0 := by rw [pxM_eq (by omega) (by omega)]
  have tg4 : (jw_t (jw_setI (jw_setI h 10 8 (pxJ 0)) 10 9 (pxJ 0)) 10).1 = 6 := tg
  have ps := s_X6_pass G4 hp4 h0 (c := 94) (by omega) (by omega)
  -- from the items on
  have key : ∀ (h5 : jw_H) (e5 : Int) (hd : List (Int × Int)), pxPG h5 b s → pxF (pxQe e) h h5 → pxM h5 10 5 = pxPt0 s p → pxM h5 10 7 = e5 → e5 = e + hd.length → hd.length ≤ 1 → e5 ≤ 58 + pxPt0 s p → pxM h5 10 8 = 0 → pxM h5 10 9 = 0 → pxEls h5 s e hd → hd = (if pxP s p = 94 then [(8, 0)] else []) → f_X6_readPattern h 10 = f_X6_readPattern_b46 jw_FU h5 10 (pxJ p) (pxJ e) (pxJ 0) (pxJ 0) (pxJ 0) (pxJ 0) →
      ((pxPat s p).1 = true → ∃ h', f_X6_readPattern h 10 = some (pxJ e, h') ∧ pxF (pxQe e) h h' ∧ pxM h' 10 5 = (pxPat s p).2 ∧ pxM h' 10 9 = pxPatK s p ∧ pxM h' 10 7 = e + (pxFull s p).length ∧ pxEls h' s e (pxFull s p)) ∧
      ((pxPat s p).1 = false → ∃ h', f_X6_readPattern h 10 = some (pxJ (-1), h') ∧ pxF (pxQe e) h h' ∧ pxM h' 10 5 = (pxPat s p).2) := by
    intro h5 e5 hd G5 F5 hp5 he5 hee hd1 e5b ht5 hk5 E5 hhd hst
    have ml := s_X6_readPattern_b46 (b := b) (s := s) (x1 := pxJ p) (x2 := pxJ e) 61 jw_FU h5 false 0 0 0 0 (pxPt0 s p) e5 0 (by omega) (by unfold jw_FU; omega) G5 hp5 he5 ht5 hk5 (by omega) a.2.2.1 (by omega) e5b (by omega) (by omega) (by omega) (by omega) (fun z => by cases z) (by omega) (by omega) (by omega) (by omega) (by omega) (by omega)
    rw [show (if false = true then (1 : Int) else 0) = 0 from rfl, ← hst, show pxMach s 61 false 0 0 0 0 (pxPt0 s p) = pxPtM s p from rfl] at ml
    have mb := pxMach_b (s := s) 61 false 0 0 0 0 (pxPt0 s p) (by omega) a.2.2.1
    rw [show pxMach s 61 false 0 0 0 0 (pxPt0 s p) = pxPtM s p from rfl] at mb
    have mono : ∀ {h1 h2 : jw_H} {e' : Int}, e ≤ e' → pxF (pxQe e') h1 h2 → pxF (pxQe e) h1 h2 := fun he' Q => Q.mono (fun k f z => by unfold pxQe at *; omega)
    unfold pxPat
    by_cases hm : (pxPtM s p).1 = true
    · rw [if_pos hm]
      obtain ⟨h6, c1, c2, c3, c4, c5, c6⟩ := ml.1 hm
      have G6 : pxPG h6 b s := G5.fe c2
      obtain ⟨z1, z2⟩ := s_X6_readPattern_b287 (p := p) (x2 := pxJ e) G6 c3 c4 (by omega) mb.2 (by omega) h0 (by omega) (by omega)
      rw [show (if pxP s (pxPtM s p).2.1 = 36 then (pxPtM s p).2.1 + 1 else (pxPtM s p).2.1) = pxPt1 s p from rfl] at z1 z2
      rw [← c1] at z1 z2
      by_cases hq : pxPt1 s p = p
      · rw [if_pos hq]
        refine ⟨fun z => (by cases z), fun _ => ?_⟩
        obtain ⟨h7, d1, d2, d3⟩ := z1 hq
        exact ⟨h7, d1, (F5.trans (mono (by omega) c2)).trans (mono (by omega) d2), d3⟩
      · rw [if_neg hq]
        refine ⟨fun _ => ?_, fun z => (by cases z)⟩
        obtain ⟨h7, d1, d2, d3, d4, d5, d6⟩ := z2 hq
        have FF := (F5.trans (mono (by omega) c2)).trans (mono (by omega) d2)
        refine ⟨h7, d1, FF, d3, by rw [d4, c5]; rfl, ?_, ?_⟩
        · rw [d5, hee]
          unfold pxFull
          rw [← hhd]
          simp only [List.length_append]
          omega
        · unfold pxFull
          rw [← hhd, List.append_assoc, List.append_assoc]
          refine pxEls_app _ _ _ ?_ (pxEls_app _ _ _ ?_ ?_)
          · exact pxEls.fr d2 _ _ e0 (pxEls.fr c2 _ _ e0 E5 (fun k f y1 y2 y3 => by unfold pxQe; omega)) (fun k f y1 y2 y3 => by unfold pxQe; omega)
          · rw [← hee]
            exact pxEls.fr d2 _ _ (by omega) c6 (fun k f y1 y2 y3 => by unfold pxQe; omega)
          · rw [← hee]; exact d6
    · rw [if_neg hm]
      refine ⟨fun z => (by cases z), fun _ => ?_⟩
      obtain ⟨h6, c1, c2, c3⟩ := ml.2 (by simpa using hm)
      exact ⟨h6, c1, F5.trans (mono (by omega) c2), c3⟩
  by_cases c94 : pxP s p = 94
  · simp only [if_pos c94] at ps
    have e0p : pxPt0 s p = p + 1 := a.2.2.2.mpr c94
    have G5 : pxPG (pxPl (jw_setI (jw_setI h 10 8 (pxJ 0)) 10 9 (pxJ 0)) (p + 1)) b s := pxPl_G G4
    have he5 : pxM (pxPl (jw_setI (jw_setI h 10 8 (pxJ 0)) 10 9 (pxJ 0)) (p + 1)) 10 7 = e := by rw [pxPl_n (by omega)]; exact he4
    have ae := s_X6_addElement G5.1 (kind := 5) he5 e0 (by omega) 0
    have tg5 : (jw_t (pxPl (jw_setI (jw_setI h 10 8 (pxJ 0)) 10 9 (pxJ 0)) (p + 1)) 10).1 = 6 := tg
    refine key (pxAe (pxPl (jw_setI (jw_setI h 10 8 (pxJ 0)) 10 9 (pxJ 0)) (p + 1)) e 5 0) (e + 1) [(8, 0)] (pxAe_G G5 e0) ((F4.trans (pxPl_F.mono (fun k f z => by unfold pxQe; omega))).trans (pxAe_F e0)) ?_ (pxAe_e e0 (by omega)) (by simp) (by simp) (by omega) ?_ ?_ ?_ (by rw [if_pos c94]) ?_
    · rw [pxAe_n (by omega), pxPl_p (by omega) (by omega), e0p]
    · rw [pxAe_n (by omega), pxPl_n (by omega)]; exact ht4
    · rw [pxAe_n (by omega), pxPl_n (by omega)]; exact hk4
    · refine ⟨?_, trivial⟩
      right; right; right; right; right; left
      exact ⟨rfl, pxAe_k (by omega) (by omega)⟩
    · unfold f_X6_readPattern g_X6_readPattern_b43
      simp (disch := first | assumption | omega | (simp only [jw_t_I, px_cpt]; done) | (simp only [jw_t_I, px_cpt]; omega)) only [pxL0, pxL1, pxL2, pxL3, pxL4, pxL5, pxL6, pxL7, pxL8, pxL9, pxL10, pxL11, pxL12, pxL13, pxL14, pxL15, pxL16, pxL17, pxL18, pxL19, pxL20, pxL21, pxL22, pxL23, pxL24, pxL25, pxL26, pxL27, pxL28, pxL29, pxL30, pxL31, pxL32, pxL33, pxL34, pxL35, pxL36, pxL37, pxL38, pxL39, pxL40, pxL41, pxL42, pxL43, pxL44, pxL45, pxL46, pxL47, pxL48, pxL49, pxL51, pxL57, pxL58, pxL59, pxL60, pxL61, pxL62, pxL63, pxL64, pxL65, pxL66, pxL67, pxL68, pxL69, pxL70, pxL71, pxL72, pxL73, pxL74, pxL75, pxL76, pxL77, pxL78, pxL79, pxL80, pxL81, pxL82, pxL83, pxL84, pxL85, pxL86, pxL87, pxL88, pxL89, pxL90, pxL91, pxL92, pxL93, pxL94, pxL95, pxL96, pxL97, pxL98, pxL99, pxL100, pxL101, pxL102, pxL103, pxL104, pxL105, pxL106, pxL107, pxL108, pxL109, pxL110, pxL111, pxL112, pxL113, pxL114, pxL115, pxL116, pxL117, pxL118, pxL119, pxL120, pxL121, pxL122, pxL123, pxL124, pxL125, pxL126, pxL200, pxL240, pxL287, pxL388, pxL400, pxL429, pxL431, pxL440, pxL1240, pxL1600, pxL1681, pxL12028, pxL13849, pxL14880, pxL25173, pxL26908, pxL49600, pxL65535, pxL65536, ↓reduceIte, pxJ_add, pxJ_sub, pxJ_mul, pxJ_neg, pxD_lt_t, pxD_lt_f, pxD_le_t, pxD_le_f, pxD_eq_t, pxD_eq_f, pxJ_lt, pxJ_le, pxJ_eq, px_gI, px_gR, px_pI, px_rc, px_ai, px_ar, px_si, px_ln, px_cp, pxJ_div, pxJ_b8, pxJ_byte, px_b2, px_bs, px_rb0, px_rb1, px_min, px_max, px_compare, pxW_some, jw_t_I, px_cpt, jw_r_I, px_cpr, jw_l_I, px_cpl, Option.some.injEq, hp, he, ps, ae]
  · simp only [if_neg c94] at ps
    rw [pxPl_id hp4] at ps
    have e0p : pxPt0 s p = p := if_neg c94
    refine key (jw_setI (jw_setI h 10 8 (pxJ 0)) 10 9 (pxJ 0)) e [] G4 F4 (by rw [e0p]; exact hp4) he4 (by simp) (by simp) (by omega) ht4 hk4 trivial (by rw [if_neg c94]) ?_
    unfold f_X6_readPattern g_X6_readPattern_b43
    simp (disch := first | assumption | omega | (simp only [jw_t_I, px_cpt]; done) | (simp only [jw_t_I, px_cpt]; omega)) only [pxL0, pxL1, pxL2, pxL3, pxL4, pxL5, pxL6, pxL7, pxL8, pxL9, pxL10, pxL11, pxL12, pxL13, pxL14, pxL15, pxL16, pxL17, pxL18, pxL19, pxL20, pxL21, pxL22, pxL23, pxL24, pxL25, pxL26, pxL27, pxL28, pxL29, pxL30, pxL31, pxL32, pxL33, pxL34, pxL35, pxL36, pxL37, pxL38, pxL39, pxL40, pxL41, pxL42, pxL43, pxL44, pxL45, pxL46, pxL47, pxL48, pxL49, pxL51, pxL57, pxL58, pxL59, pxL60, pxL61, pxL62, pxL63, pxL64, pxL65, pxL66, pxL67, pxL68, pxL69, pxL70, pxL71, pxL72, pxL73, pxL74, pxL75, pxL76, pxL77, pxL78, pxL79, pxL80, pxL81, pxL82, pxL83, pxL84, pxL85, pxL86, pxL87, pxL88, pxL89, pxL90, pxL91, pxL92, pxL93, pxL94, pxL95, pxL96, pxL97, pxL98, pxL99, pxL100, pxL101, pxL102, pxL103, pxL104, pxL105, pxL106, pxL107, pxL108, pxL109, pxL110, pxL111, pxL112, pxL113, pxL114, pxL115, pxL116, pxL117, pxL118, pxL119, pxL120, pxL121, pxL122, pxL123, pxL124, pxL125, pxL126, pxL200, pxL240, pxL287, pxL388, pxL400, pxL429, pxL431, pxL440, pxL1240, pxL1600, pxL1681, pxL12028, pxL13849, pxL14880, pxL25173, pxL26908, pxL49600, pxL65535, pxL65536, ↓reduceIte, pxJ_add, pxJ_sub, pxJ_mul, pxJ_neg, pxD_lt_t, pxD_lt_f, pxD_le_t, pxD_le_f, pxD_eq_t, pxD_eq_f, pxJ_lt, pxJ_le, pxJ_eq, px_gI, px_gR, px_pI, px_rc, px_ai, px_ar, px_si, px_ln, px_cp, pxJ_div, pxJ_b8, pxJ_byte, px_b2, px_bs, px_rb0, px_rb1, px_min, px_max, px_compare, pxW_some, jw_t_I, px_cpt, jw_r_I, px_cpr, jw_l_I, px_cpl, Option.some.injEq, hp, he, ps]
end
