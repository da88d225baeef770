/-! orders over the whole: any act -/
section
variable {h : jw_H} {s : List Int} {T : pxTx} {S : pxSto} {f l p : Int} {rep : Bool} {b i : Nat}
theorem s_do_mt (c : pxP s p = 109 ∨ pxP s p = 116) (H : pxDC h b s i p T S f l rep) : pxW (f_X10_doOne h 559 (some (12 + 4 * i))) (pxDR h (pxDo1 s p f l T S) rep S) := by
  obtain ⟨CO, A, Rn, I, Y, hn, n0, n1, rg⟩ := H
  have l40 := pxIT.len I
  obtain ⟨t5, r2, t0⟩ := CO.t5
  have f3 := CO.2.2.2.1.1
  obtain ⟨W, M, HS, ⟨rs, Z⟩, X, rp⟩ := id A
  have w0 := W.1
  have ok := CO.2.2.2.2.1
  have okA : (pxAddr s (p + 1)).1 = true := by
    unfold pxAct at ok
    rcases c with c | c <;> (rw [c] at ok; exact ok)
  have ad := CO.2.2.2.1.2.2.2.2 c
  obtain ⟨h1, v1, v2⟩ := s_X10_locate W M CO.2.2.1.1 CO.2.2.2.2.2.1 I hn t0 ad okA
  have lb := pxLoc_b (s := s) (q := p + 1) hn l40
  have W1 := W.f9 v2 (fun f => by unfold pxQx; omega)
  have Rn1 := Rn.fr v2 (fun f => by unfold pxQx; omega)
  have I1 : pxIX h1 T := pxIT.fr I v2 (fun k f _ _ => by unfold pxQx; omega)
  have Y1 : pxIY h1 S := pxIS.fr Y v2 (fun k f _ _ => by unfold pxQx; omega)
  have X1 := X.fr v2 (fun k f _ _ => by unfold pxQx; omega)
  have w01 := W1.1
  -- what comes then
  have fin : ∀ {h2 : jw_H} {r : Int × pxTx} {q : Int32}, pxF pxQn9 h1 h2 → q = pxJ r.1 → pxIX h2 r.2 → pxSX h2 563 → pxDR h (pxDoT r S) rep S q h2 := by
    intro h2 r q F2 e2 I2 X2
    have F12 : pxF (fun k f => pxQx k f ∨ pxQn9 k f) h h2 := (v2.mono (fun k f z => Or.inl z)).trans (F2.mono (fun k f z => Or.inr z))
    have Y2 : pxIY h2 S := pxIS.fr Y1 F2 (fun k f _ _ => by unfold pxQn9; omega)
    exact ⟨F12.mono (fun k f z => by unfold pxQx pxQn9 at z; unfold pxQA; omega), e2, ⟨fun _ => ⟨I2, Y2⟩, fun _ => ⟨⟨_, I2⟩, Y2⟩⟩, rep, ⟨W.f9 F12 (fun f => by unfold pxQx pxQn9; omega), M.fr F12 (fun f z => by unfold pxQx pxQn9; omega), HS.fr F12 (fun f z => by unfold pxQx pxQn9; omega), ⟨rs, Z.fr F12 (fun k f _ _ => by unfold pxQx pxQn9; omega)⟩, X2, by rw [F12.m (by unfold pxQx pxQn9; omega)]; exact rp⟩, fun _ => rfl⟩
  unfold pxRgOk at rg
  rcases c with c | c
  · have eD : pxDo1 s p f l T S = pxDoT (pxSpMove f l (pxLoc s (p + 1) T) T) S := by unfold pxDo1; rw [if_neg (by omega), if_neg (by omega), if_neg (by omega), if_neg (by omega), if_neg (by omega), if_neg (by omega), if_neg (by omega), if_neg (by omega), if_neg (by omega), if_neg (by omega), if_pos c]
    rw [eD, px_doM t5 (f3.trans c)]
    have K := s_X10_move (t := pxLoc s (p + 1) T) W1 Rn1 I1 X1 (by omega) (by omega) (by omega) (by omega) (by omega)
    clear rg ok ad
    simp (maxSteps := 4000000) (disch := first | assumption | omega | (simp only [jw_t_I, px_cpt]; done) | (simp only [jw_t_I, px_cpt]; omega)) only [pxL0, pxL1, pxL2, pxL3, pxL4, pxL5, pxL6, pxL7, pxL8, pxL9, pxL10, pxL11, pxL12, pxL13, pxL14, pxL15, pxL16, pxL17, pxL18, pxL19, pxL20, pxL21, pxL22, pxL23, pxL24, pxL25, pxL26, pxL27, pxL28, pxL29, pxL30, pxL31, pxL32, pxL33, pxL34, pxL35, pxL36, pxL37, pxL38, pxL39, pxL40, pxL41, pxL42, pxL43, pxL44, pxL45, pxL46, pxL47, pxL48, pxL49, pxL51, pxL57, pxL58, pxL59, pxL60, pxL61, pxL62, pxL63, pxL64, pxL65, pxL66, pxL67, pxL68, pxL69, pxL70, pxL71, pxL72, pxL73, pxL74, pxL75, pxL76, pxL77, pxL78, pxL79, pxL80, pxL81, pxL82, pxL83, pxL84, pxL85, pxL86, pxL87, pxL88, pxL89, pxL90, pxL91, pxL92, pxL93, pxL94, pxL95, pxL96, pxL97, pxL98, pxL99, pxL100, pxL101, pxL102, pxL103, pxL104, pxL105, pxL106, pxL107, pxL108, pxL109, pxL110, pxL111, pxL112, pxL113, pxL114, pxL115, pxL116, pxL117, pxL118, pxL119, pxL120, pxL121, pxL122, pxL123, pxL124, pxL125, pxL126, pxL200, pxL240, pxL287, pxL388, pxL400, pxL429, pxL431, pxL440, pxL1240, pxL1600, pxL1681, pxL12028, pxL13849, pxL14880, pxL25173, pxL26908, pxL49600, pxL65535, pxL65536, ↓reduceIte, reduceCtorEq, pxJ_add, pxJ_sub, pxJ_mul, pxJ_neg, pxD_lt_t, pxD_lt_f, pxD_le_t, pxD_le_f, pxD_eq_t, pxD_eq_f, pxJ_lt, pxJ_le, pxJ_eq, px_gI, px_gR, px_pI, px_rc, px_ai, px_ar, px_si, px_ln, px_cp, pxJ_div, pxJ_b8, pxJ_byte, px_b2, px_bs, px_rb0, px_rb1, px_min, px_max, px_compare, pxW_some, jw_t_I, px_cpt, jw_r_I, px_cpr, jw_l_I, px_cpl, Option.some.injEq, r2, w0, v1, w01]
    refine pxW_b2 K fun q h2 k => ?_
    exact pxW_some.mpr (fin k.1 k.2.1 k.2.2.1 k.2.2.2)
  · have eD : pxDo1 s p f l T S = pxDoT (pxSpCopy f l (pxLoc s (p + 1) T) T) S := by unfold pxDo1; rw [if_neg (by omega), if_neg (by omega), if_neg (by omega), if_neg (by omega), if_neg (by omega), if_neg (by omega), if_neg (by omega), if_neg (by omega), if_neg (by omega), if_neg (by omega), if_neg (by omega), if_pos c]
    rw [eD, px_doTo t5 (f3.trans c)]
    have K := s_X10_copyLines (t := pxLoc s (p + 1) T) W1 Rn1 I1 X1 (by omega) (by omega) (by omega) (by omega) (by omega) n0 n1
    clear rg ok ad
    simp (maxSteps := 4000000) (disch := first | assumption | omega | (simp only [jw_t_I, px_cpt]; done) | (simp only [jw_t_I, px_cpt]; omega)) only [pxL0, pxL1, pxL2, pxL3, pxL4, pxL5, pxL6, pxL7, pxL8, pxL9, pxL10, pxL11, pxL12, pxL13, pxL14, pxL15, pxL16, pxL17, pxL18, pxL19, pxL20, pxL21, pxL22, pxL23, pxL24, pxL25, pxL26, pxL27, pxL28, pxL29, pxL30, pxL31, pxL32, pxL33, pxL34, pxL35, pxL36, pxL37, pxL38, pxL39, pxL40, pxL41, pxL42, pxL43, pxL44, pxL45, pxL46, pxL47, pxL48, pxL49, pxL51, pxL57, pxL58, pxL59, pxL60, pxL61, pxL62, pxL63, pxL64, pxL65, pxL66, pxL67, pxL68, pxL69, pxL70, pxL71, pxL72, pxL73, pxL74, pxL75, pxL76, pxL77, pxL78, pxL79, pxL80, pxL81, pxL82, pxL83, pxL84, pxL85, pxL86, pxL87, pxL88, pxL89, pxL90, pxL91, pxL92, pxL93, pxL94, pxL95, pxL96, pxL97, pxL98, pxL99, pxL100, pxL101, pxL102, pxL103, pxL104, pxL105, pxL106, pxL107, pxL108, pxL109, pxL110, pxL111, pxL112, pxL113, pxL114, pxL115, pxL116, pxL117, pxL118, pxL119, pxL120, pxL121, pxL122, pxL123, pxL124, pxL125, pxL126, pxL200, pxL240, pxL287, pxL388, pxL400, pxL429, pxL431, pxL440, pxL1240, pxL1600, pxL1681, pxL12028, pxL13849, pxL14880, pxL25173, pxL26908, pxL49600, pxL65535, pxL65536, ↓reduceIte, reduceCtorEq, pxJ_add, pxJ_sub, pxJ_mul, pxJ_neg, pxD_lt_t, pxD_lt_f, pxD_le_t, pxD_le_f, pxD_eq_t, pxD_eq_f, pxJ_lt, pxJ_le, pxJ_eq, px_gI, px_gR, px_pI, px_rc, px_ai, px_ar, px_si, px_ln, px_cp, pxJ_div, pxJ_b8, pxJ_byte, px_b2, px_bs, px_rb0, px_rb1, px_min, px_max, px_compare, pxW_some, jw_t_I, px_cpt, jw_r_I, px_cpr, jw_l_I, px_cpl, Option.some.injEq, r2, w0, v1, w01]
    refine pxW_b2 K fun q h2 k => ?_
    exact pxW_some.mpr (fin k.1 k.2.1 k.2.2.1 k.2.2.2)
theorem s_do_o (c : pxP s p = 111 ∨ pxP s p = 79) (H : pxDC h b s i p T S f l rep) : pxW (f_X10_doOne h 559 (some (12 + 4 * i))) (pxDR h (pxDo1 s p f l T S) rep S) := by
  obtain ⟨CO, A, Rn, I, Y, hn, n0, n1, rg⟩ := H
  have l40 := pxIT.len I
  obtain ⟨t5, r2, t0⟩ := CO.t5
  have f3 := CO.2.2.2.1.1
  obtain ⟨W, M, HS, ⟨rs, Z⟩, X, rp⟩ := id A
  have w0 := W.1
  obtain ⟨f5, v0, v1⟩ := CO.num (Or.inr c)
  have fin : ∀ {h2 : jw_H} {r : Int × pxTx} {q : Int32}, pxF pxQn9 h h2 → q = pxJ r.1 → pxIX h2 r.2 → pxSX h2 563 → pxDR h (pxDoT r S) rep S q h2 := by
    intro h2 r q F2 e2 I2 X2
    have Y2 : pxIY h2 S := pxIS.fr Y F2 (fun k f _ _ => by unfold pxQn9; omega)
    exact ⟨F2.mono (fun k f z => by unfold pxQn9 at z; unfold pxQA; omega), e2, ⟨fun _ => ⟨I2, Y2⟩, fun _ => ⟨⟨_, I2⟩, Y2⟩⟩, rep, ⟨W.f9 F2 (fun f => by unfold pxQn9; omega), M.fr F2 (fun f z => by unfold pxQn9; omega), HS.fr F2 (fun f z => by unfold pxQn9; omega), ⟨rs, Z.fr F2 (fun k f _ _ => by unfold pxQn9; omega)⟩, X2, by rw [F2.m (by unfold pxQn9; omega)]; exact rp⟩, fun _ => rfl⟩
  rw [px_doO t5 f3 c]
  unfold g_X10_doOne_b479 g_X10_doOne_b498
  unfold pxRgOk at rg
  rcases c with c | c
  · have eD : pxDo1 s p f l T S = pxDoT (0, pxSpSort (pxNumV s (p + 1)) false f l T) S := by unfold pxDo1; rw [if_neg (by omega), if_neg (by omega), if_neg (by omega), if_neg (by omega), if_neg (by omega), if_neg (by omega), if_neg (by omega), if_neg (by omega), if_neg (by omega), if_neg (by omega), if_neg (by omega), if_neg (by omega), if_pos c]; rfl
    have K := s_X10_sort (fall := false) (place := pxNumV s (p + 1)) W Rn I X (by omega) (by omega) (by omega) v0 v1
    rw [show (if false = true then (1 : Int) else 0) = 0 from rfl] at K
    rw [eD]
    clear rg
    simp (maxSteps := 4000000) (disch := first | assumption | omega | (simp only [jw_t_I, px_cpt]; done) | (simp only [jw_t_I, px_cpt]; omega)) only [pxL0, pxL1, pxL2, pxL3, pxL4, pxL5, pxL6, pxL7, pxL8, pxL9, pxL10, pxL11, pxL12, pxL13, pxL14, pxL15, pxL16, pxL17, pxL18, pxL19, pxL20, pxL21, pxL22, pxL23, pxL24, pxL25, pxL26, pxL27, pxL28, pxL29, pxL30, pxL31, pxL32, pxL33, pxL34, pxL35, pxL36, pxL37, pxL38, pxL39, pxL40, pxL41, pxL42, pxL43, pxL44, pxL45, pxL46, pxL47, pxL48, pxL49, pxL51, pxL57, pxL58, pxL59, pxL60, pxL61, pxL62, pxL63, pxL64, pxL65, pxL66, pxL67, pxL68, pxL69, pxL70, pxL71, pxL72, pxL73, pxL74, pxL75, pxL76, pxL77, pxL78, pxL79, pxL80, pxL81, pxL82, pxL83, pxL84, pxL85, pxL86, pxL87, pxL88, pxL89, pxL90, pxL91, pxL92, pxL93, pxL94, pxL95, pxL96, pxL97, pxL98, pxL99, pxL100, pxL101, pxL102, pxL103, pxL104, pxL105, pxL106, pxL107, pxL108, pxL109, pxL110, pxL111, pxL112, pxL113, pxL114, pxL115, pxL116, pxL117, pxL118, pxL119, pxL120, pxL121, pxL122, pxL123, pxL124, pxL125, pxL126, pxL200, pxL240, pxL287, pxL388, pxL400, pxL429, pxL431, pxL440, pxL1240, pxL1600, pxL1681, pxL12028, pxL13849, pxL14880, pxL25173, pxL26908, pxL49600, pxL65535, pxL65536, ↓reduceIte, reduceCtorEq, pxJ_add, pxJ_sub, pxJ_mul, pxJ_neg, pxD_lt_t, pxD_lt_f, pxD_le_t, pxD_le_f, pxD_eq_t, pxD_eq_f, pxJ_lt, pxJ_le, pxJ_eq, px_gI, px_gR, px_pI, px_rc, px_ai, px_ar, px_si, px_ln, px_cp, pxJ_div, pxJ_b8, pxJ_byte, px_b2, px_bs, px_rb0, px_rb1, px_min, px_max, px_compare, pxW_some, jw_t_I, px_cpt, jw_r_I, px_cpr, jw_l_I, px_cpl, Option.some.injEq, f5, f3, c, w0]
    refine pxW_b2 K fun q h2 k => ?_
    exact pxW_some.mpr (fin k.1 k.2.1 k.2.2.1 k.2.2.2)
  · have eD : pxDo1 s p f l T S = pxDoT (0, pxSpSort (pxNumV s (p + 1)) true f l T) S := by unfold pxDo1; rw [if_neg (by omega), if_neg (by omega), if_neg (by omega), if_neg (by omega), if_neg (by omega), if_neg (by omega), if_neg (by omega), if_neg (by omega), if_neg (by omega), if_neg (by omega), if_neg (by omega), if_neg (by omega), if_neg (by omega), if_pos c]; rfl
    have K := s_X10_sort (fall := true) (place := pxNumV s (p + 1)) W Rn I X (by omega) (by omega) (by omega) v0 v1
    rw [show (if true = true then (1 : Int) else 0) = 1 from rfl] at K
    rw [eD]
    clear rg
    simp (maxSteps := 4000000) (disch := first | assumption | omega | (simp only [jw_t_I, px_cpt]; done) | (simp only [jw_t_I, px_cpt]; omega)) only [pxL0, pxL1, pxL2, pxL3, pxL4, pxL5, pxL6, pxL7, pxL8, pxL9, pxL10, pxL11, pxL12, pxL13, pxL14, pxL15, pxL16, pxL17, pxL18, pxL19, pxL20, pxL21, pxL22, pxL23, pxL24, pxL25, pxL26, pxL27, pxL28, pxL29, pxL30, pxL31, pxL32, pxL33, pxL34, pxL35, pxL36, pxL37, pxL38, pxL39, pxL40, pxL41, pxL42, pxL43, pxL44, pxL45, pxL46, pxL47, pxL48, pxL49, pxL51, pxL57, pxL58, pxL59, pxL60, pxL61, pxL62, pxL63, pxL64, pxL65, pxL66, pxL67, pxL68, pxL69, pxL70, pxL71, pxL72, pxL73, pxL74, pxL75, pxL76, pxL77, pxL78, pxL79, pxL80, pxL81, pxL82, pxL83, pxL84, pxL85, pxL86, pxL87, pxL88, pxL89, pxL90, pxL91, pxL92, pxL93, pxL94, pxL95, pxL96, pxL97, pxL98, pxL99, pxL100, pxL101, pxL102, pxL103, pxL104, pxL105, pxL106, pxL107, pxL108, pxL109, pxL110, pxL111, pxL112, pxL113, pxL114, pxL115, pxL116, pxL117, pxL118, pxL119, pxL120, pxL121, pxL122, pxL123, pxL124, pxL125, pxL126, pxL200, pxL240, pxL287, pxL388, pxL400, pxL429, pxL431, pxL440, pxL1240, pxL1600, pxL1681, pxL12028, pxL13849, pxL14880, pxL25173, pxL26908, pxL49600, pxL65535, pxL65536, ↓reduceIte, reduceCtorEq, pxJ_add, pxJ_sub, pxJ_mul, pxJ_neg, pxD_lt_t, pxD_lt_f, pxD_le_t, pxD_le_f, pxD_eq_t, pxD_eq_f, pxJ_lt, pxJ_le, pxJ_eq, px_gI, px_gR, px_pI, px_rc, px_ai, px_ar, px_si, px_ln, px_cp, pxJ_div, pxJ_b8, pxJ_byte, px_b2, px_bs, px_rb0, px_rb1, px_min, px_max, px_compare, pxW_some, jw_t_I, px_cpt, jw_r_I, px_cpr, jw_l_I, px_cpl, Option.some.injEq, f5, f3, c, w0]
    refine pxW_b2 K fun q h2 k => ?_
    exact pxW_some.mpr (fin k.1 k.2.1 k.2.2.1 k.2.2.2)
theorem s_do_tell (c : pxP s p = 112 ∨ pxP s p = 110 ∨ pxP s p = 61 ∨ pxP s p = 104 ∨ pxP s p = 72 ∨ pxP s p = 107 ∨ pxP s p = 119) (H : pxDC h b s i p T S f l rep) : pxW (f_X10_doOne h 559 (some (12 + 4 * i))) (pxDR h (pxDo1 s p f l T S) rep S) := by
  obtain ⟨CO, A, Rn, I, Y, hn, n0, n1, rg⟩ := H
  obtain ⟨t5, r2, t0⟩ := CO.t5
  have f3 := CO.2.2.2.1.1
  have hi := CO.2.1
  obtain ⟨W, M, HS, ⟨rs, Z⟩, X, rp⟩ := id A
  have w0 := W.1
  have ok := CO.2.2.2.2.1
  have dk : pxP s p = 107 → 97 ≤ pxP s (p + 1) ∧ pxP s (p + 1) ≤ 101 := by
    intro c
    unfold pxAct at ok
    rw [c] at ok
    by_cases d : 97 ≤ pxP s (p + 1) ∧ pxP s (p + 1) ≤ 101
    · exact d
    · have ok' : (if 97 ≤ pxP s (p + 1) ∧ pxP s (p + 1) ≤ 101 then (true, p + 2) else (false, p + 1)).1 = true := ok
      rw [if_neg d] at ok'; cases ok'
  have dw : pxP s p = 119 → 48 ≤ pxP s (p + 1) ∧ pxP s (p + 1) ≤ 51 := by
    intro c
    unfold pxAct at ok
    rw [c] at ok
    by_cases d : 48 ≤ pxP s (p + 1) ∧ pxP s (p + 1) ≤ 51
    · exact d
    · have ok' : (if 48 ≤ pxP s (p + 1) ∧ pxP s (p + 1) ≤ 51 then (true, p + 2) else (false, p + 1)).1 = true := ok
      rw [if_neg d] at ok'; cases ok'
  have k5 : pxP s p = 107 → pxM h (12 + 4 * i) 5 = pxP s (p + 1) - 97 := fun c => CO.f5 (by unfold pxOnA; omega) (by unfold pxOn; rw [if_pos c])
  have w5 : pxP s p = 119 → pxM h (12 + 4 * i) 5 = pxP s (p + 1) - 48 := fun c => CO.f5 (by unfold pxOnA; omega) (by unfold pxOn; rw [if_neg (by omega), if_pos (Or.inr c)])
  have eD : pxDo1 s p f l T S = pxSpTell s p f l T S := by unfold pxDo1; rw [if_neg (by omega), if_neg (by omega), if_neg (by omega), if_neg (by omega), if_neg (by omega), if_neg (by omega), if_neg (by omega), if_neg (by omega), if_neg (by omega), if_neg (by omega), if_neg (by omega), if_neg (by omega), if_neg (by omega), if_neg (by omega)]
  have l40 := pxIT.len I
  unfold pxRgOk at rg
  have K := s_X10_tell (s := s) (p := p) (show 12 + 4 * i < 252 by omega) t5 f3 W Rn I Y (by omega) (by omega) (by omega) (fun z => by omega) (by
    rcases c with c | c | c | c | c | c | c
    · exact Or.inl c
    · exact Or.inr (Or.inl c)
    · exact Or.inr (Or.inr (Or.inl c))
    · exact Or.inr (Or.inr (Or.inr (Or.inl c)))
    · exact Or.inr (Or.inr (Or.inr (Or.inr (Or.inl c))))
    · exact Or.inr (Or.inr (Or.inr (Or.inr (Or.inr (Or.inl ⟨c, k5 c, dk c⟩)))))
    · exact Or.inr (Or.inr (Or.inr (Or.inr (Or.inr (Or.inr ⟨c, w5 c, dw c⟩))))))
  rw [eD, px_doT t5 f3 c]
  unfold g_X10_doOne_b502
  clear rg ok dk dw k5 w5
  simp (maxSteps := 4000000) (disch := first | assumption | omega | (simp only [jw_t_I, px_cpt]; done) | (simp only [jw_t_I, px_cpt]; omega)) only [pxL0, pxL1, pxL2, pxL3, pxL4, pxL5, pxL6, pxL7, pxL8, pxL9, pxL10, pxL11, pxL12, pxL13, pxL14, pxL15, pxL16, pxL17, pxL18, pxL19, pxL20, pxL21, pxL22, pxL23, pxL24, pxL25, pxL26, pxL27, pxL28, pxL29, pxL30, pxL31, pxL32, pxL33, pxL34, pxL35, pxL36, pxL37, pxL38, pxL39, pxL40, pxL41, pxL42, pxL43, pxL44, pxL45, pxL46, pxL47, pxL48, pxL49, pxL51, pxL57, pxL58, pxL59, pxL60, pxL61, pxL62, pxL63, pxL64, pxL65, pxL66, pxL67, pxL68, pxL69, pxL70, pxL71, pxL72, pxL73, pxL74, pxL75, pxL76, pxL77, pxL78, pxL79, pxL80, pxL81, pxL82, pxL83, pxL84, pxL85, pxL86, pxL87, pxL88, pxL89, pxL90, pxL91, pxL92, pxL93, pxL94, pxL95, pxL96, pxL97, pxL98, pxL99, pxL100, pxL101, pxL102, pxL103, pxL104, pxL105, pxL106, pxL107, pxL108, pxL109, pxL110, pxL111, pxL112, pxL113, pxL114, pxL115, pxL116, pxL117, pxL118, pxL119, pxL120, pxL121, pxL122, pxL123, pxL124, pxL125, pxL126, pxL200, pxL240, pxL287, pxL388, pxL400, pxL429, pxL431, pxL440, pxL1240, pxL1600, pxL1681, pxL12028, pxL13849, pxL14880, pxL25173, pxL26908, pxL49600, pxL65535, pxL65536, ↓reduceIte, reduceCtorEq, pxJ_add, pxJ_sub, pxJ_mul, pxJ_neg, pxD_lt_t, pxD_lt_f, pxD_le_t, pxD_le_f, pxD_eq_t, pxD_eq_f, pxJ_lt, pxJ_le, pxJ_eq, px_gI, px_gR, px_pI, px_rc, px_ai, px_ar, px_si, px_ln, px_cp, pxJ_div, pxJ_b8, pxJ_byte, px_b2, px_bs, px_rb0, px_rb1, px_min, px_max, px_compare, pxW_some, jw_t_I, px_cpt, jw_r_I, px_cpr, jw_l_I, px_cpl, Option.some.injEq, w0]
  refine pxW_b2 K fun q h2 k => ?_
  obtain ⟨F, e, R⟩ := k
  exact pxW_some.mpr (.mkT A F (fun k f z => by unfold pxQT at z; omega) e R)
/-- any act -/
theorem s_X10_doOne (c : ¬ (pxP s p = 103 ∨ pxP s p = 71 ∨ pxP s p = 123 ∨ pxSteer (pxP s p) = true)) (H : pxDC h b s i p T S f l rep) : pxW (f_X10_doOne h 559 (some (12 + 4 * i))) (pxDR h (pxDo s p f l T S rep).1 (pxDo s p f l T S rep).2 S) := by
  unfold pxDo
  have ns : ¬ (pxP s p = 58 ∨ pxP s p = 98 ∨ pxP s p = 84 ∨ pxP s p = 113 ∨ pxP s p = 78) := fun z => c (Or.inr (Or.inr (Or.inr (pxSteer_i.mpr z))))
  have n3 : ¬ (pxP s p = 103 ∨ pxP s p = 71 ∨ pxP s p = 123) := fun z => c (by omega)
  have ok := H.1.2.2.2.2.1
  by_cases c0 : pxP s p = 62 ∨ pxP s p = 115 ∨ pxP s p = 122 ∨ pxP s p = 60
  · rw [if_pos c0]
    obtain ⟨CO, A, Rn, I, Y, hn, n0, n1, rg⟩ := H
    unfold pxRgOk at rg
    exact s_do_chg c0 CO A Rn I Y (by omega) (by omega) (by omega)
  rw [if_neg c0]
  by_cases c1 : pxP s p = 97 ∨ pxP s p = 105 ∨ pxP s p = 99
  · exact s_do_rows c1 H
  by_cases c2 : pxP s p = 117
  · exact s_do_u c2 H
  by_cases c3 : pxP s p = 114
  · exact s_do_r c3 H
  by_cases c4 : pxP s p = 101
  · exact s_do_e c4 H
  by_cases c5 : pxP s p = 100
  · exact s_do_d c5 H
  by_cases c6 : pxP s p = 106
  · exact s_do_j c6 H
  by_cases c7 : pxP s p = 118
  · exact s_do_v c7 H
  by_cases c8 : pxP s p = 108
  · exact s_do_l c8 H
  by_cases c9 : pxP s p = 109 ∨ pxP s p = 116
  · exact s_do_mt c9 H
  by_cases c10 : pxP s p = 111 ∨ pxP s p = 79
  · exact s_do_o c10 H
  by_cases c11 : pxP s p = 112 ∨ pxP s p = 110 ∨ pxP s p = 61 ∨ pxP s p = 104 ∨ pxP s p = 72 ∨ pxP s p = 107 ∨ pxP s p = 119
  · exact s_do_tell c11 H
  · exfalso
    unfold pxAct at ok
    rw [if_neg c1, if_neg (by omega), if_neg (by omega), if_neg c9, if_neg (by omega), if_neg (by omega), if_neg (by omega), if_neg (by omega), if_neg (by omega), if_neg (by omega)] at ok
    cases ok
end
