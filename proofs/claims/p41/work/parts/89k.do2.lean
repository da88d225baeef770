/-! orders over the whole: the other acts -/
section
variable {h : jw_H} {s : List Int} {T : pxTx} {S : pxSto} {f l p : Int} {rep : Bool} {b i : Nat}
/-- an order whose act may be done over a range -/
def pxDC (h : jw_H) (b : Nat) (s : List Int) (i : Nat) (p : Int) (T : pxTx) (S : pxSto) (f l : Int) (rep : Bool) : Prop :=
  pxCO h b s i p ∧ pxAux h rep ∧ pxRn h f l ∧ pxIX h T ∧ pxIY h S ∧ pxNowOk T ∧ 0 ≤ T.2.2.2 ∧ T.2.2.2 ≤ 2000000 ∧ pxRgOk (pxP s p) f l T.1.length
theorem pxCO.t5 (H : pxCO h b s i p) : (jw_t h (12 + 4 * i)).1 = 5 ∧ jw_r h (12 + 4 * i) 2 = some (15 + 4 * i) ∧ (jw_t h (15 + 4 * i)).1 = 0 := by
  obtain ⟨hb, hi, G, Ak, -⟩ := H
  obtain ⟨-, a, -, -, c, -, -, d⟩ := G.1.2.2.2.2.2.2.2 i hi
  exact ⟨a, c, d⟩
theorem pxCO.f5 (H : pxCO h b s i p) {v : Int} (c : pxOnA (pxP s p)) (e : pxOn s p = v) : pxM h (12 + 4 * i) 5 = v := by rw [H.2.2.2.1.2.1 c, e]
theorem pxOn_num (c : pxP s p = 118 ∨ pxP s p = 111 ∨ pxP s p = 79) : pxOn s p = pxNumV s (p + 1) := by
  unfold pxOn
  rw [if_neg (by omega), if_neg (by omega), if_neg (by omega), if_neg (by omega), if_neg (by omega)]
theorem pxCO.num (H : pxCO h b s i p) (c : pxP s p = 118 ∨ pxP s p = 111 ∨ pxP s p = 79) : pxM h (12 + 4 * i) 5 = pxNumV s (p + 1) ∧ 0 ≤ pxNumV s (p + 1) ∧ pxNumV s (p + 1) ≤ 99 := by
  have ok := H.2.2.2.2.1
  have ok1 : (pxNum s (p + 1)).1 = true := by
    unfold pxAct at ok
    rcases c with c | c | c <;> (rw [c] at ok; exact ok)
  have nb := pxNumV_b ok1
  exact ⟨H.f5 (by unfold pxOnA; omega) (pxOn_num c), nb⟩
theorem s_do_rows (c : pxP s p = 97 ∨ pxP s p = 105 ∨ pxP s p = 99) (H : pxDC h b s i p T S f l rep) :
    pxW (f_X10_doOne h 559 (some (12 + 4 * i))) (pxDR h (pxDo1 s p f l T S) rep S) := by
  obtain ⟨CO, A, Rn, I, Y, hn, n0, n1, rg⟩ := H
  have l40 := pxIT.len I
  obtain ⟨t5, -⟩ := CO.t5
  obtain ⟨hb, hi, G, Ak, ok, m7, p0, p1⟩ := id CO
  obtain ⟨W, M, HS, ⟨rs, Z⟩, X, rp⟩ := id A
  have w0 := W.1
  have wp := W.2.1
  have w7 := W.2.2.2.2.2.2.2.2.1
  have tg := G.1.1
  have lt := pxP_lt (s := s) (p := p) (by omega)
  have f3 := Ak.1
  obtain ⟨e7, e8⟩ := Ak.2.2.1 (by unfold pxOtA; omega)
  have o7 : pxOfr s p = p + 1 := by unfold pxOfr; rw [if_neg (by omega), if_neg (by omega)]
  have o8 : pxOto s p = (pxRowsE s 61 0 (p + 1)).2 := by unfold pxOto; rw [if_neg (by omega), if_neg (by omega)]
  rw [o7] at e7
  rw [o8] at e8
  have okR : (pxRowsE s 61 0 (p + 1)).1 = true := by
    unfold pxAct at ok
    rcases c with c | c | c <;> (rw [c] at ok; exact ok)
  rw [px_doA t5 f3 c]
  unfold g_X10_doOne_b309
  have K := s_X6_rowsOf (ρ := 560) (cap := 60) hb (show 12 + 4 * i < 252 by omega) (by omega) (by omega) (by omega) (by omega) okR e7 e8 G t5 Z
  simp (maxSteps := 4000000) (disch := first | assumption | omega | (simp only [jw_t_I, px_cpt]; done) | (simp only [jw_t_I, px_cpt]; omega)) only [pxL0, pxL1, pxL2, pxL3, pxL4, pxL5, pxL6, pxL7, pxL8, pxL9, pxL10, pxL11, pxL12, pxL13, pxL14, pxL15, pxL16, pxL17, pxL18, pxL19, pxL20, pxL21, pxL22, pxL23, pxL24, pxL25, pxL26, pxL27, pxL28, pxL29, pxL30, pxL31, pxL32, pxL33, pxL34, pxL35, pxL36, pxL37, pxL38, pxL39, pxL40, pxL41, pxL42, pxL43, pxL44, pxL45, pxL46, pxL47, pxL48, pxL49, pxL51, pxL57, pxL58, pxL59, pxL60, pxL61, pxL62, pxL63, pxL64, pxL65, pxL66, pxL67, pxL68, pxL69, pxL70, pxL71, pxL72, pxL73, pxL74, pxL75, pxL76, pxL77, pxL78, pxL79, pxL80, pxL81, pxL82, pxL83, pxL84, pxL85, pxL86, pxL87, pxL88, pxL89, pxL90, pxL91, pxL92, pxL93, pxL94, pxL95, pxL96, pxL97, pxL98, pxL99, pxL100, pxL101, pxL102, pxL103, pxL104, pxL105, pxL106, pxL107, pxL108, pxL109, pxL110, pxL111, pxL112, pxL113, pxL114, pxL115, pxL116, pxL117, pxL118, pxL119, pxL120, pxL121, pxL122, pxL123, pxL124, pxL125, pxL126, pxL200, pxL240, pxL287, pxL388, pxL400, pxL429, pxL431, pxL440, pxL1240, pxL1600, pxL1681, pxL12028, pxL13849, pxL14880, pxL25173, pxL26908, pxL49600, pxL65535, pxL65536, ↓reduceIte, reduceCtorEq, pxJ_add, pxJ_sub, pxJ_mul, pxJ_neg, pxD_lt_t, pxD_lt_f, pxD_le_t, pxD_le_f, pxD_eq_t, pxD_eq_f, pxJ_lt, pxJ_le, pxJ_eq, px_gI, px_gR, px_pI, px_rc, px_ai, px_ar, px_si, px_ln, px_cp, pxJ_div, pxJ_b8, pxJ_byte, px_b2, px_bs, px_rb0, px_rb1, px_min, px_max, px_compare, pxW_some, jw_t_I, px_cpt, jw_r_I, px_cpr, jw_l_I, px_cpl, Option.some.injEq, w0, wp, w7, tg]
  refine pxW_b2 K fun _ h1 k => ?_
  obtain ⟨F1, R1⟩ := k
  have F1w : pxF (fun k f => 560 ≤ k ∧ k ≤ 562) h h1 := F1.mono (fun k f z => by unfold pxC at z; omega)
  have W1 := W.f9 F1w (fun f => by omega)
  have Rn1 := Rn.fr F1w (fun f => by omega)
  have I1 : pxIX h1 T := pxIT.fr I F1w (fun k f _ _ => by omega)
  have Y1 : pxIY h1 S := pxIS.fr Y F1w (fun k f _ _ => by omega)
  have f31 : pxM h1 (12 + 4 * i) 3 = pxP s p := by rw [F1w.m (by omega)]; exact f3
  have t51 : (jw_t h1 (12 + 4 * i)).1 = 5 := by rw [F1w.t]; exact t5
  have w01 := W1.1
  have w71 := W1.2.2.2.2.2.2.2.2.1
  have hgoes : (decide (pxP s p = 99)) = true ↔ pxP s p = 99 ∨ pxP s p = 101 := by rw [decide_eq_true_iff]; omega
  have K2 := s_X10_bring (ρ := 560) (cap := 60) (act := pxP s p) (goes := decide (pxP s p = 99)) (ls := T.1) (mk := T.2.1) (now := T.2.2.1) (nx := T.2.2.2) (f := f) (l := l) (by omega) (by omega) W1 Rn1 I1 R1 hgoes (by omega) (by omega) (by unfold pxRgOk at rg; omega) (by unfold pxRgOk at rg; omega) (by unfold pxRgOk at rg; omega) (by unfold pxRgOk at rg; omega) (fun z => by rw [decide_eq_true_iff] at z; unfold pxRgOk at rg; omega) (fun z => by unfold pxRgOk at rg; omega) n0 n1
  have eT : (T.1, T.2.1, T.2.2.1, T.2.2.2) = T := rfl
  rw [eT] at K2
  clear K rg
  simp (maxSteps := 4000000) (disch := first | assumption | omega | (simp only [jw_t_I, px_cpt]; done) | (simp only [jw_t_I, px_cpt]; omega)) only [pxL0, pxL1, pxL2, pxL3, pxL4, pxL5, pxL6, pxL7, pxL8, pxL9, pxL10, pxL11, pxL12, pxL13, pxL14, pxL15, pxL16, pxL17, pxL18, pxL19, pxL20, pxL21, pxL22, pxL23, pxL24, pxL25, pxL26, pxL27, pxL28, pxL29, pxL30, pxL31, pxL32, pxL33, pxL34, pxL35, pxL36, pxL37, pxL38, pxL39, pxL40, pxL41, pxL42, pxL43, pxL44, pxL45, pxL46, pxL47, pxL48, pxL49, pxL51, pxL57, pxL58, pxL59, pxL60, pxL61, pxL62, pxL63, pxL64, pxL65, pxL66, pxL67, pxL68, pxL69, pxL70, pxL71, pxL72, pxL73, pxL74, pxL75, pxL76, pxL77, pxL78, pxL79, pxL80, pxL81, pxL82, pxL83, pxL84, pxL85, pxL86, pxL87, pxL88, pxL89, pxL90, pxL91, pxL92, pxL93, pxL94, pxL95, pxL96, pxL97, pxL98, pxL99, pxL100, pxL101, pxL102, pxL103, pxL104, pxL105, pxL106, pxL107, pxL108, pxL109, pxL110, pxL111, pxL112, pxL113, pxL114, pxL115, pxL116, pxL117, pxL118, pxL119, pxL120, pxL121, pxL122, pxL123, pxL124, pxL125, pxL126, pxL200, pxL240, pxL287, pxL388, pxL400, pxL429, pxL431, pxL440, pxL1240, pxL1600, pxL1681, pxL12028, pxL13849, pxL14880, pxL25173, pxL26908, pxL49600, pxL65535, pxL65536, ↓reduceIte, reduceCtorEq, pxJ_add, pxJ_sub, pxJ_mul, pxJ_neg, pxD_lt_t, pxD_lt_f, pxD_le_t, pxD_le_f, pxD_eq_t, pxD_eq_f, pxJ_lt, pxJ_le, pxJ_eq, px_gI, px_gR, px_pI, px_rc, px_ai, px_ar, px_si, px_ln, px_cp, pxJ_div, pxJ_b8, pxJ_byte, px_b2, px_bs, px_rb0, px_rb1, px_min, px_max, px_compare, pxW_some, jw_t_I, px_cpt, jw_r_I, px_cpr, jw_l_I, px_cpl, Option.some.injEq, f31, w01, w71]
  refine pxW_b2 K2 fun q h2 k => ?_
  obtain ⟨F2, e2, I2⟩ := k
  have F12 : pxF (fun k f => (560 ≤ k ∧ k ≤ 562) ∨ (255 ≤ k ∧ k ≤ 260)) h h2 := (F1w.mono (fun k f z => Or.inl z)).trans (F2.mono (fun k f z => Or.inr z))
  have eD : pxDo1 s p f l T S = pxDoT (pxSpBring (decide (pxP s p = 99)) (if decide (pxP s p = 99) = true ∨ pxP s p = 105 then f else l + 1) f l (pxTold s 61 (p + 1)) T) S := by
    unfold pxDo1
    rcases c with c | c | c
    · rw [if_pos c, c]; rfl
    · rw [if_neg (by omega), if_pos c, c]; rfl
    · rw [if_neg (by omega), if_neg (by omega), if_pos c, c]; rfl
  rw [eD]
  refine pxW_some.mpr ⟨F12.mono (fun k f z => by unfold pxQA; omega), e2, ⟨fun _ => ⟨I2, pxIS.fr Y1 F2 (fun k f _ _ => by unfold pxC; omega)⟩, fun _ => ⟨⟨_, I2⟩, pxIS.fr Y1 F2 (fun k f _ _ => by unfold pxC; omega)⟩⟩, rep, ⟨W.f9 F12 (fun f => by omega), M.fr F12 (fun f z => by omega), HS.fr F12 (fun f z => by omega), ⟨_, R1.fr F2 (fun k f _ _ => by unfold pxC; omega)⟩, X.fr F12 (fun k f _ _ => by omega), by rw [F12.m (by omega)]; exact rp⟩, fun _ => rfl⟩
/-- an act on the text alone -/
theorem pxDR.mkX {h h' : jw_H} {r : Int × pxTx} {q : Int32} {P : Nat → Nat → Prop} (A : pxAux h rep) (Y : pxIY h S) (F : pxF P h h') (hP : ∀ k f, P k f → 255 ≤ k ∧ k ≤ 260) (e : q = pxJ r.1) (R : (r.1 = 0 → pxIX h' r.2) ∧ ∃ T', pxIX h' T') : pxDR h (pxDoT r S) rep S q h' := by
  have Y' : pxIY h' S := pxIS.fr Y F (fun k f _ _ z => by have := hP k f z; omega)
  exact .mkT A F (fun k f z => by have := hP k f z; omega) e ⟨fun z => ⟨R.1 z, Y'⟩, fun _ => ⟨R.2, Y'⟩⟩
theorem s_do_u (c : pxP s p = 117) (H : pxDC h b s i p T S f l rep) : pxW (f_X10_doOne h 559 (some (12 + 4 * i))) (pxDR h (pxDo1 s p f l T S) rep S) := by
  obtain ⟨CO, A, Rn, I, Y, hn, n0, n1, rg⟩ := H
  have l40 := pxIT.len I
  obtain ⟨t5, -⟩ := CO.t5
  have f3 := CO.2.2.2.1.1
  obtain ⟨W, M, HS, Z, X, rp⟩ := id A
  have w0 := W.1
  have w2 := W.2.2.2.1
  have t8 := Y.1.1
  have s0 := Y.1.2.1
  have t7 := Y.2.1.1.1
  have c2 : pxM h (261 + 1) 2 = S.1.length := Y.2.1.2.2.2.1
  have hl40 := Y.2.1.2.1
  have eD : pxDo1 s p f l T S = if S.1 = [] then (5, T, S) else pxDoT (pxSpBring false (l + 1) f l S.1 T) S := by unfold pxDo1; rw [if_neg (by omega), if_neg (by omega), if_neg (by omega), if_pos c]
  rw [eD, px_doU t5 (f3.trans c)]
  unfold g_X10_doOne_b364
  unfold pxRgOk at rg
  by_cases d : S.1 = []
  · have c2' : pxM h (261 + 1) 2 = 0 := by rw [c2, d]; rfl
    rw [if_pos d]
    clear rg
    simp (maxSteps := 4000000) (disch := first | assumption | omega | (simp only [jw_t_I, px_cpt]; done) | (simp only [jw_t_I, px_cpt]; omega)) only [pxL0, pxL1, pxL2, pxL3, pxL4, pxL5, pxL6, pxL7, pxL8, pxL9, pxL10, pxL11, pxL12, pxL13, pxL14, pxL15, pxL16, pxL17, pxL18, pxL19, pxL20, pxL21, pxL22, pxL23, pxL24, pxL25, pxL26, pxL27, pxL28, pxL29, pxL30, pxL31, pxL32, pxL33, pxL34, pxL35, pxL36, pxL37, pxL38, pxL39, pxL40, pxL41, pxL42, pxL43, pxL44, pxL45, pxL46, pxL47, pxL48, pxL49, pxL51, pxL57, pxL58, pxL59, pxL60, pxL61, pxL62, pxL63, pxL64, pxL65, pxL66, pxL67, pxL68, pxL69, pxL70, pxL71, pxL72, pxL73, pxL74, pxL75, pxL76, pxL77, pxL78, pxL79, pxL80, pxL81, pxL82, pxL83, pxL84, pxL85, pxL86, pxL87, pxL88, pxL89, pxL90, pxL91, pxL92, pxL93, pxL94, pxL95, pxL96, pxL97, pxL98, pxL99, pxL100, pxL101, pxL102, pxL103, pxL104, pxL105, pxL106, pxL107, pxL108, pxL109, pxL110, pxL111, pxL112, pxL113, pxL114, pxL115, pxL116, pxL117, pxL118, pxL119, pxL120, pxL121, pxL122, pxL123, pxL124, pxL125, pxL126, pxL200, pxL240, pxL287, pxL388, pxL400, pxL429, pxL431, pxL440, pxL1240, pxL1600, pxL1681, pxL12028, pxL13849, pxL14880, pxL25173, pxL26908, pxL49600, pxL65535, pxL65536, ↓reduceIte, reduceCtorEq, pxJ_add, pxJ_sub, pxJ_mul, pxJ_neg, pxD_lt_t, pxD_lt_f, pxD_le_t, pxD_le_f, pxD_eq_t, pxD_eq_f, pxJ_lt, pxJ_le, pxJ_eq, px_gI, px_gR, px_pI, px_rc, px_ai, px_ar, px_si, px_ln, px_cp, pxJ_div, pxJ_b8, pxJ_byte, px_b2, px_bs, px_rb0, px_rb1, px_min, px_max, px_compare, pxW_some, jw_t_I, px_cpt, jw_r_I, px_cpr, jw_l_I, px_cpl, Option.some.injEq, w0, w2, t8, s0, t7, c2']
    exact .mkT (P := fun _ _ => False) A pxF.rfl (fun _ _ z => z.elim) rfl ⟨fun z => absurd z (by show ¬ (5 : Int) = 0; omega), fun _ => ⟨⟨_, I⟩, Y⟩⟩
  · have ne : 0 < (S.1.length : Int) := by have := List.length_pos_iff.mpr d; omega
    rw [if_neg d]
    have K2 := s_X10_bring (ρ := 262) (cap := 40) (act := 117) (goes := false) (ls := T.1) (mk := T.2.1) (now := T.2.2.1) (nx := T.2.2.2) (f := f) (l := l) (by omega) (by omega) W Rn I Y.2.1 (by simp) (by omega) (by omega) (by omega) (by omega) (by omega) (by omega) (fun z => by cases z) (fun z => by omega) n0 n1
    have eT : (T.1, T.2.1, T.2.2.1, T.2.2.2) = T := rfl
    rw [eT, if_neg (show ¬ (false = true ∨ (117 : Int) = 105) by simp)] at K2
    clear rg
    simp (maxSteps := 4000000) (disch := first | assumption | omega | (simp only [jw_t_I, px_cpt]; done) | (simp only [jw_t_I, px_cpt]; omega)) only [pxL0, pxL1, pxL2, pxL3, pxL4, pxL5, pxL6, pxL7, pxL8, pxL9, pxL10, pxL11, pxL12, pxL13, pxL14, pxL15, pxL16, pxL17, pxL18, pxL19, pxL20, pxL21, pxL22, pxL23, pxL24, pxL25, pxL26, pxL27, pxL28, pxL29, pxL30, pxL31, pxL32, pxL33, pxL34, pxL35, pxL36, pxL37, pxL38, pxL39, pxL40, pxL41, pxL42, pxL43, pxL44, pxL45, pxL46, pxL47, pxL48, pxL49, pxL51, pxL57, pxL58, pxL59, pxL60, pxL61, pxL62, pxL63, pxL64, pxL65, pxL66, pxL67, pxL68, pxL69, pxL70, pxL71, pxL72, pxL73, pxL74, pxL75, pxL76, pxL77, pxL78, pxL79, pxL80, pxL81, pxL82, pxL83, pxL84, pxL85, pxL86, pxL87, pxL88, pxL89, pxL90, pxL91, pxL92, pxL93, pxL94, pxL95, pxL96, pxL97, pxL98, pxL99, pxL100, pxL101, pxL102, pxL103, pxL104, pxL105, pxL106, pxL107, pxL108, pxL109, pxL110, pxL111, pxL112, pxL113, pxL114, pxL115, pxL116, pxL117, pxL118, pxL119, pxL120, pxL121, pxL122, pxL123, pxL124, pxL125, pxL126, pxL200, pxL240, pxL287, pxL388, pxL400, pxL429, pxL431, pxL440, pxL1240, pxL1600, pxL1681, pxL12028, pxL13849, pxL14880, pxL25173, pxL26908, pxL49600, pxL65535, pxL65536, ↓reduceIte, reduceCtorEq, pxJ_add, pxJ_sub, pxJ_mul, pxJ_neg, pxD_lt_t, pxD_lt_f, pxD_le_t, pxD_le_f, pxD_eq_t, pxD_eq_f, pxJ_lt, pxJ_le, pxJ_eq, px_gI, px_gR, px_pI, px_rc, px_ai, px_ar, px_si, px_ln, px_cp, pxJ_div, pxJ_b8, pxJ_byte, px_b2, px_bs, px_rb0, px_rb1, px_min, px_max, px_compare, pxW_some, jw_t_I, px_cpt, jw_r_I, px_cpr, jw_l_I, px_cpl, Option.some.injEq, w0, w2, t8, s0, t7, c2]
    refine pxW_b2 K2 fun q h2 k => ?_
    exact pxW_some.mpr (.mkX A Y k.1 (fun k f z => by unfold pxC at z; omega) k.2.1 ⟨fun _ => k.2.2, _, k.2.2⟩)
theorem s_do_r (c : pxP s p = 114) (H : pxDC h b s i p T S f l rep) : pxW (f_X10_doOne h 559 (some (12 + 4 * i))) (pxDR h (pxDo1 s p f l T S) rep S) := by
  obtain ⟨CO, A, Rn, I, Y, hn, n0, n1, rg⟩ := H
  have l40 := pxIT.len I
  obtain ⟨t5, -⟩ := CO.t5
  have f3 := CO.2.2.2.1.1
  obtain ⟨W, M, HS, Z, X, rp⟩ := id A
  have w0 := W.1
  have w2 := W.2.2.2.1
  have t8 := Y.1.1
  have ok := CO.2.2.2.2.1
  have dg : 48 ≤ pxP s (p + 1) ∧ pxP s (p + 1) ≤ 51 := by
    unfold pxAct at ok
    rw [c] at ok
    by_cases d : 48 ≤ pxP s (p + 1) ∧ pxP s (p + 1) ≤ 51
    · exact d
    · have ok' : (if 48 ≤ pxP s (p + 1) ∧ pxP s (p + 1) ≤ 51 then (true, p + 2) else (false, p + 1)).1 = true := ok
      rw [if_neg d] at ok'; cases ok'
  have f5 : pxM h (12 + 4 * i) 5 = pxP s (p + 1) - 48 := CO.f5 (by unfold pxOnA; omega) (by unfold pxOn; rw [if_neg (by omega), if_pos (Or.inl c)])
  have fi := s_X8_file Y.1 (k := pxP s (p + 1) - 48) (by omega) (by omega)
  rw [if_pos ⟨by omega, by omega⟩] at fi
  have eD : pxDo1 s p f l T S = pxDoT (pxSpRead f l (S.2.2 (pxP s (p + 1) - 48)) T) S := by unfold pxDo1; rw [if_neg (by omega), if_neg (by omega), if_neg (by omega), if_neg (by omega), if_pos c]
  rw [eD, px_doR t5 (f3.trans c)]
  unfold pxRgOk at rg
  have K := s_X10_readFile (k := pxP s (p + 1) - 48) W Rn I Y (by omega) (by omega) (by omega) (by omega) (by omega) (by omega) n0 n1
  clear rg ok
  simp (maxSteps := 4000000) (disch := first | assumption | omega | (simp only [jw_t_I, px_cpt]; done) | (simp only [jw_t_I, px_cpt]; omega)) only [pxL0, pxL1, pxL2, pxL3, pxL4, pxL5, pxL6, pxL7, pxL8, pxL9, pxL10, pxL11, pxL12, pxL13, pxL14, pxL15, pxL16, pxL17, pxL18, pxL19, pxL20, pxL21, pxL22, pxL23, pxL24, pxL25, pxL26, pxL27, pxL28, pxL29, pxL30, pxL31, pxL32, pxL33, pxL34, pxL35, pxL36, pxL37, pxL38, pxL39, pxL40, pxL41, pxL42, pxL43, pxL44, pxL45, pxL46, pxL47, pxL48, pxL49, pxL51, pxL57, pxL58, pxL59, pxL60, pxL61, pxL62, pxL63, pxL64, pxL65, pxL66, pxL67, pxL68, pxL69, pxL70, pxL71, pxL72, pxL73, pxL74, pxL75, pxL76, pxL77, pxL78, pxL79, pxL80, pxL81, pxL82, pxL83, pxL84, pxL85, pxL86, pxL87, pxL88, pxL89, pxL90, pxL91, pxL92, pxL93, pxL94, pxL95, pxL96, pxL97, pxL98, pxL99, pxL100, pxL101, pxL102, pxL103, pxL104, pxL105, pxL106, pxL107, pxL108, pxL109, pxL110, pxL111, pxL112, pxL113, pxL114, pxL115, pxL116, pxL117, pxL118, pxL119, pxL120, pxL121, pxL122, pxL123, pxL124, pxL125, pxL126, pxL200, pxL240, pxL287, pxL388, pxL400, pxL429, pxL431, pxL440, pxL1240, pxL1600, pxL1681, pxL12028, pxL13849, pxL14880, pxL25173, pxL26908, pxL49600, pxL65535, pxL65536, ↓reduceIte, reduceCtorEq, pxJ_add, pxJ_sub, pxJ_mul, pxJ_neg, pxD_lt_t, pxD_lt_f, pxD_le_t, pxD_le_f, pxD_eq_t, pxD_eq_f, pxJ_lt, pxJ_le, pxJ_eq, px_gI, px_gR, px_pI, px_rc, px_ai, px_ar, px_si, px_ln, px_cp, pxJ_div, pxJ_b8, pxJ_byte, px_b2, px_bs, px_rb0, px_rb1, px_min, px_max, px_compare, pxW_some, jw_t_I, px_cpt, jw_r_I, px_cpr, jw_l_I, px_cpl, Option.some.injEq, w0, w2, f5, t8, fi]
  refine pxW_b2 K fun q h2 k => ?_
  exact pxW_some.mpr (.mkX A Y k.1 (fun k f z => by unfold pxC at z; omega) k.2.1 ⟨fun _ => k.2.2, _, k.2.2⟩)
theorem s_do_e (c : pxP s p = 101) (H : pxDC h b s i p T S f l rep) : pxW (f_X10_doOne h 559 (some (12 + 4 * i))) (pxDR h (pxDo1 s p f l T S) rep S) := by
  obtain ⟨CO, A, Rn, I, Y, hn, n0, n1, rg⟩ := H
  obtain ⟨t5, -⟩ := CO.t5
  have f3 := CO.2.2.2.1.1
  obtain ⟨W, M, HS, Z, X, rp⟩ := id A
  have w0 := W.1
  have eD : pxDo1 s p f l T S = pxSpExch f l T S := by unfold pxDo1; rw [if_neg (by omega), if_neg (by omega), if_neg (by omega), if_neg (by omega), if_neg (by omega), if_pos c]
  rw [eD, px_doE t5 (f3.trans c)]
  unfold pxRgOk at rg
  have K := s_X10_exchange W Rn I Y Z X (by omega) (by omega) (by omega) n0 n1
  clear rg
  simp (maxSteps := 4000000) (disch := first | assumption | omega | (simp only [jw_t_I, px_cpt]; done) | (simp only [jw_t_I, px_cpt]; omega)) only [pxL0, pxL1, pxL2, pxL3, pxL4, pxL5, pxL6, pxL7, pxL8, pxL9, pxL10, pxL11, pxL12, pxL13, pxL14, pxL15, pxL16, pxL17, pxL18, pxL19, pxL20, pxL21, pxL22, pxL23, pxL24, pxL25, pxL26, pxL27, pxL28, pxL29, pxL30, pxL31, pxL32, pxL33, pxL34, pxL35, pxL36, pxL37, pxL38, pxL39, pxL40, pxL41, pxL42, pxL43, pxL44, pxL45, pxL46, pxL47, pxL48, pxL49, pxL51, pxL57, pxL58, pxL59, pxL60, pxL61, pxL62, pxL63, pxL64, pxL65, pxL66, pxL67, pxL68, pxL69, pxL70, pxL71, pxL72, pxL73, pxL74, pxL75, pxL76, pxL77, pxL78, pxL79, pxL80, pxL81, pxL82, pxL83, pxL84, pxL85, pxL86, pxL87, pxL88, pxL89, pxL90, pxL91, pxL92, pxL93, pxL94, pxL95, pxL96, pxL97, pxL98, pxL99, pxL100, pxL101, pxL102, pxL103, pxL104, pxL105, pxL106, pxL107, pxL108, pxL109, pxL110, pxL111, pxL112, pxL113, pxL114, pxL115, pxL116, pxL117, pxL118, pxL119, pxL120, pxL121, pxL122, pxL123, pxL124, pxL125, pxL126, pxL200, pxL240, pxL287, pxL388, pxL400, pxL429, pxL431, pxL440, pxL1240, pxL1600, pxL1681, pxL12028, pxL13849, pxL14880, pxL25173, pxL26908, pxL49600, pxL65535, pxL65536, ↓reduceIte, reduceCtorEq, pxJ_add, pxJ_sub, pxJ_mul, pxJ_neg, pxD_lt_t, pxD_lt_f, pxD_le_t, pxD_le_f, pxD_eq_t, pxD_eq_f, pxJ_lt, pxJ_le, pxJ_eq, px_gI, px_gR, px_pI, px_rc, px_ai, px_ar, px_si, px_ln, px_cp, pxJ_div, pxJ_b8, pxJ_byte, px_b2, px_bs, px_rb0, px_rb1, px_min, px_max, px_compare, pxW_some, jw_t_I, px_cpt, jw_r_I, px_cpr, jw_l_I, px_cpl, Option.some.injEq, w0]
  refine pxW_b2 K fun q h2 k => ?_
  obtain ⟨F, e, R, Z', X'⟩ := k
  exact pxW_some.mpr ⟨F.mono (fun k f z => by unfold pxQT at z; unfold pxQA; omega), e, R, rep, ⟨W.f9 F (fun f => by unfold pxQT; omega), M.fr F (fun f z => by unfold pxQT; omega), HS.fr F (fun f z => by unfold pxQT; omega), Z', X', by rw [F.m (by unfold pxQT; omega)]; exact rp⟩, fun _ => rfl⟩
theorem s_do_d (c : pxP s p = 100) (H : pxDC h b s i p T S f l rep) : pxW (f_X10_doOne h 559 (some (12 + 4 * i))) (pxDR h (pxDo1 s p f l T S) rep S) := by
  obtain ⟨CO, A, Rn, I, Y, hn, n0, n1, rg⟩ := H
  have l40 := pxIT.len I
  obtain ⟨t5, -⟩ := CO.t5
  have f3 := CO.2.2.2.1.1
  obtain ⟨W, M, HS, Z, X, rp⟩ := id A
  have w0 := W.1
  have w1 := W.2.2.1
  have t9 := I.1.1
  obtain ⟨rf, rl⟩ := id Rn
  have eD : pxDo1 s p f l T S = pxDoT (0, pxSpDel f l T) S := by unfold pxDo1; rw [if_neg (by omega), if_neg (by omega), if_neg (by omega), if_neg (by omega), if_neg (by omega), if_neg (by omega), if_pos c]; rfl
  rw [eD, px_doD t5 (f3.trans c)]
  unfold pxRgOk at rg
  have K := s_X9_cut I (x := f) (n := l - f + 1) (by omega) (by omega) (by omega)
  have dl := pxDel_len (l := T.1) (x := f) (n := l - f + 1) (by omega) (by omega) (by omega)
  have rb : 1 ≤ f ∧ f ≤ l ∧ l ≤ T.1.length := by omega
  clear rg
  simp (maxSteps := 4000000) (disch := first | assumption | omega | (simp only [jw_t_I, px_cpt]; done) | (simp only [jw_t_I, px_cpt]; omega)) only [pxL0, pxL1, pxL2, pxL3, pxL4, pxL5, pxL6, pxL7, pxL8, pxL9, pxL10, pxL11, pxL12, pxL13, pxL14, pxL15, pxL16, pxL17, pxL18, pxL19, pxL20, pxL21, pxL22, pxL23, pxL24, pxL25, pxL26, pxL27, pxL28, pxL29, pxL30, pxL31, pxL32, pxL33, pxL34, pxL35, pxL36, pxL37, pxL38, pxL39, pxL40, pxL41, pxL42, pxL43, pxL44, pxL45, pxL46, pxL47, pxL48, pxL49, pxL51, pxL57, pxL58, pxL59, pxL60, pxL61, pxL62, pxL63, pxL64, pxL65, pxL66, pxL67, pxL68, pxL69, pxL70, pxL71, pxL72, pxL73, pxL74, pxL75, pxL76, pxL77, pxL78, pxL79, pxL80, pxL81, pxL82, pxL83, pxL84, pxL85, pxL86, pxL87, pxL88, pxL89, pxL90, pxL91, pxL92, pxL93, pxL94, pxL95, pxL96, pxL97, pxL98, pxL99, pxL100, pxL101, pxL102, pxL103, pxL104, pxL105, pxL106, pxL107, pxL108, pxL109, pxL110, pxL111, pxL112, pxL113, pxL114, pxL115, pxL116, pxL117, pxL118, pxL119, pxL120, pxL121, pxL122, pxL123, pxL124, pxL125, pxL126, pxL200, pxL240, pxL287, pxL388, pxL400, pxL429, pxL431, pxL440, pxL1240, pxL1600, pxL1681, pxL12028, pxL13849, pxL14880, pxL25173, pxL26908, pxL49600, pxL65535, pxL65536, ↓reduceIte, reduceCtorEq, pxJ_add, pxJ_sub, pxJ_mul, pxJ_neg, pxD_lt_t, pxD_lt_f, pxD_le_t, pxD_le_f, pxD_eq_t, pxD_eq_f, pxJ_lt, pxJ_le, pxJ_eq, px_gI, px_gR, px_pI, px_rc, px_ai, px_ar, px_si, px_ln, px_cp, pxJ_div, pxJ_b8, pxJ_byte, px_b2, px_bs, px_rb0, px_rb1, px_min, px_max, px_compare, pxW_some, jw_t_I, px_cpt, jw_r_I, px_cpr, jw_l_I, px_cpl, Option.some.injEq, w0, w1, rf, rl, t9]
  refine pxW_b2 K fun q h1 k => ?_
  obtain ⟨F1, I1⟩ := k
  have W1 := W.f9 F1 (fun f => by unfold pxC; omega)
  have Rn1 := Rn.fr F1 (fun f => by unfold pxC; omega)
  have w01 := W1.1
  have w11 := W1.2.2.1
  have t91 := I1.1.1
  have r01 := I1.1.2.1
  have t71 := I1.2.1.1.1
  have c21 := pxIT.c2 I1
  obtain ⟨rf1, rl1⟩ := Rn1
  have e2 : pxM h1 (255 + 1) 2 = (T.1.length : Int) - (l - f + 1) := by rw [c21]; exact dl
  have mb : -2147483648 ≤ min f ((T.1.length : Int) - (l - f + 1)) ∧ min f ((T.1.length : Int) - (l - f + 1)) ≤ 2147483647 := by omega
  have F2 : pxF (fun k f => k = 255 ∧ f = 3) h1 (jw_setI h1 255 3 (pxJ (min f ((T.1.length : Int) - (l - f + 1))))) := pxF.setI ⟨rfl, rfl⟩
  have I2 := I1.now3 mb.1 mb.2
  clear K
  simp (maxSteps := 4000000) (disch := first | assumption | omega | (simp only [jw_t_I, px_cpt]; done) | (simp only [jw_t_I, px_cpt]; omega)) only [pxL0, pxL1, pxL2, pxL3, pxL4, pxL5, pxL6, pxL7, pxL8, pxL9, pxL10, pxL11, pxL12, pxL13, pxL14, pxL15, pxL16, pxL17, pxL18, pxL19, pxL20, pxL21, pxL22, pxL23, pxL24, pxL25, pxL26, pxL27, pxL28, pxL29, pxL30, pxL31, pxL32, pxL33, pxL34, pxL35, pxL36, pxL37, pxL38, pxL39, pxL40, pxL41, pxL42, pxL43, pxL44, pxL45, pxL46, pxL47, pxL48, pxL49, pxL51, pxL57, pxL58, pxL59, pxL60, pxL61, pxL62, pxL63, pxL64, pxL65, pxL66, pxL67, pxL68, pxL69, pxL70, pxL71, pxL72, pxL73, pxL74, pxL75, pxL76, pxL77, pxL78, pxL79, pxL80, pxL81, pxL82, pxL83, pxL84, pxL85, pxL86, pxL87, pxL88, pxL89, pxL90, pxL91, pxL92, pxL93, pxL94, pxL95, pxL96, pxL97, pxL98, pxL99, pxL100, pxL101, pxL102, pxL103, pxL104, pxL105, pxL106, pxL107, pxL108, pxL109, pxL110, pxL111, pxL112, pxL113, pxL114, pxL115, pxL116, pxL117, pxL118, pxL119, pxL120, pxL121, pxL122, pxL123, pxL124, pxL125, pxL126, pxL200, pxL240, pxL287, pxL388, pxL400, pxL429, pxL431, pxL440, pxL1240, pxL1600, pxL1681, pxL12028, pxL13849, pxL14880, pxL25173, pxL26908, pxL49600, pxL65535, pxL65536, ↓reduceIte, reduceCtorEq, pxJ_add, pxJ_sub, pxJ_mul, pxJ_neg, pxD_lt_t, pxD_lt_f, pxD_le_t, pxD_le_f, pxD_eq_t, pxD_eq_f, pxJ_lt, pxJ_le, pxJ_eq, px_gI, px_gR, px_pI, px_rc, px_ai, px_ar, px_si, px_ln, px_cp, pxJ_div, pxJ_b8, pxJ_byte, px_b2, px_bs, px_rb0, px_rb1, px_min, px_max, px_compare, pxW_some, jw_t_I, px_cpt, jw_r_I, px_cpr, jw_l_I, px_cpl, Option.some.injEq, w01, w11, rf1, t91, r01, t71, e2]
  have F12 : pxF (fun k f => pxC 255 260 k f ∨ (k = 255 ∧ f = 3)) h (jw_setI h1 255 3 (pxJ (min f ((T.1.length : Int) - (l - f + 1))))) := (F1.mono (fun k f z => Or.inl z)).trans (F2.mono (fun k f z => Or.inr z))
  have I3 : pxIX (jw_setI h1 255 3 (pxJ (min f ((T.1.length : Int) - (l - f + 1))))) (pxSpDel f l T) := I2
  exact .mkX A Y F12 (fun k f z => by unfold pxC at z; omega) rfl ⟨fun _ => I3, _, I3⟩
theorem s_do_j (c : pxP s p = 106) (H : pxDC h b s i p T S f l rep) : pxW (f_X10_doOne h 559 (some (12 + 4 * i))) (pxDR h (pxDo1 s p f l T S) rep S) := by
  obtain ⟨CO, A, Rn, I, Y, hn, n0, n1, rg⟩ := H
  obtain ⟨t5, -⟩ := CO.t5
  have f3 := CO.2.2.2.1.1
  obtain ⟨W, M, HS, Z, X, rp⟩ := id A
  have w0 := W.1
  have eD : pxDo1 s p f l T S = pxDoT (pxSpJoin f l T) S := by unfold pxDo1; rw [if_neg (by omega), if_neg (by omega), if_neg (by omega), if_neg (by omega), if_neg (by omega), if_neg (by omega), if_neg (by omega), if_pos c]
  rw [eD, px_doJ t5 (f3.trans c)]
  unfold pxRgOk at rg
  have K := s_X10_join W Rn I (by omega) (by omega) (by omega)
  clear rg
  simp (maxSteps := 4000000) (disch := first | assumption | omega | (simp only [jw_t_I, px_cpt]; done) | (simp only [jw_t_I, px_cpt]; omega)) only [pxL0, pxL1, pxL2, pxL3, pxL4, pxL5, pxL6, pxL7, pxL8, pxL9, pxL10, pxL11, pxL12, pxL13, pxL14, pxL15, pxL16, pxL17, pxL18, pxL19, pxL20, pxL21, pxL22, pxL23, pxL24, pxL25, pxL26, pxL27, pxL28, pxL29, pxL30, pxL31, pxL32, pxL33, pxL34, pxL35, pxL36, pxL37, pxL38, pxL39, pxL40, pxL41, pxL42, pxL43, pxL44, pxL45, pxL46, pxL47, pxL48, pxL49, pxL51, pxL57, pxL58, pxL59, pxL60, pxL61, pxL62, pxL63, pxL64, pxL65, pxL66, pxL67, pxL68, pxL69, pxL70, pxL71, pxL72, pxL73, pxL74, pxL75, pxL76, pxL77, pxL78, pxL79, pxL80, pxL81, pxL82, pxL83, pxL84, pxL85, pxL86, pxL87, pxL88, pxL89, pxL90, pxL91, pxL92, pxL93, pxL94, pxL95, pxL96, pxL97, pxL98, pxL99, pxL100, pxL101, pxL102, pxL103, pxL104, pxL105, pxL106, pxL107, pxL108, pxL109, pxL110, pxL111, pxL112, pxL113, pxL114, pxL115, pxL116, pxL117, pxL118, pxL119, pxL120, pxL121, pxL122, pxL123, pxL124, pxL125, pxL126, pxL200, pxL240, pxL287, pxL388, pxL400, pxL429, pxL431, pxL440, pxL1240, pxL1600, pxL1681, pxL12028, pxL13849, pxL14880, pxL25173, pxL26908, pxL49600, pxL65535, pxL65536, ↓reduceIte, reduceCtorEq, pxJ_add, pxJ_sub, pxJ_mul, pxJ_neg, pxD_lt_t, pxD_lt_f, pxD_le_t, pxD_le_f, pxD_eq_t, pxD_eq_f, pxJ_lt, pxJ_le, pxJ_eq, px_gI, px_gR, px_pI, px_rc, px_ai, px_ar, px_si, px_ln, px_cp, pxJ_div, pxJ_b8, pxJ_byte, px_b2, px_bs, px_rb0, px_rb1, px_min, px_max, px_compare, pxW_some, jw_t_I, px_cpt, jw_r_I, px_cpr, jw_l_I, px_cpl, Option.some.injEq, w0]
  refine pxW_b2 K fun q h2 k => ?_
  exact pxW_some.mpr (.mkX A Y k.1 (fun k f z => by unfold pxC at z; omega) k.2.1 k.2.2)
theorem s_do_v (c : pxP s p = 118) (H : pxDC h b s i p T S f l rep) : pxW (f_X10_doOne h 559 (some (12 + 4 * i))) (pxDR h (pxDo1 s p f l T S) rep S) := by
  obtain ⟨CO, A, Rn, I, Y, hn, n0, n1, rg⟩ := H
  obtain ⟨t5, -⟩ := CO.t5
  have f3 := CO.2.2.2.1.1
  obtain ⟨W, M, HS, Z, X, rp⟩ := id A
  have w0 := W.1
  obtain ⟨f5, v0, v1⟩ := CO.num (Or.inl c)
  have eD : pxDo1 s p f l T S = pxDoT (pxSpPart (pxNumV s (p + 1)) f l T) S := by unfold pxDo1; rw [if_neg (by omega), if_neg (by omega), if_neg (by omega), if_neg (by omega), if_neg (by omega), if_neg (by omega), if_neg (by omega), if_neg (by omega), if_pos c]
  rw [eD, px_doV t5 (f3.trans c)]
  unfold pxRgOk at rg
  have K := s_X10_part v0 v1 W Rn I (by omega) (by omega) (by omega) n0 n1
  clear rg
  simp (maxSteps := 4000000) (disch := first | assumption | omega | (simp only [jw_t_I, px_cpt]; done) | (simp only [jw_t_I, px_cpt]; omega)) only [pxL0, pxL1, pxL2, pxL3, pxL4, pxL5, pxL6, pxL7, pxL8, pxL9, pxL10, pxL11, pxL12, pxL13, pxL14, pxL15, pxL16, pxL17, pxL18, pxL19, pxL20, pxL21, pxL22, pxL23, pxL24, pxL25, pxL26, pxL27, pxL28, pxL29, pxL30, pxL31, pxL32, pxL33, pxL34, pxL35, pxL36, pxL37, pxL38, pxL39, pxL40, pxL41, pxL42, pxL43, pxL44, pxL45, pxL46, pxL47, pxL48, pxL49, pxL51, pxL57, pxL58, pxL59, pxL60, pxL61, pxL62, pxL63, pxL64, pxL65, pxL66, pxL67, pxL68, pxL69, pxL70, pxL71, pxL72, pxL73, pxL74, pxL75, pxL76, pxL77, pxL78, pxL79, pxL80, pxL81, pxL82, pxL83, pxL84, pxL85, pxL86, pxL87, pxL88, pxL89, pxL90, pxL91, pxL92, pxL93, pxL94, pxL95, pxL96, pxL97, pxL98, pxL99, pxL100, pxL101, pxL102, pxL103, pxL104, pxL105, pxL106, pxL107, pxL108, pxL109, pxL110, pxL111, pxL112, pxL113, pxL114, pxL115, pxL116, pxL117, pxL118, pxL119, pxL120, pxL121, pxL122, pxL123, pxL124, pxL125, pxL126, pxL200, pxL240, pxL287, pxL388, pxL400, pxL429, pxL431, pxL440, pxL1240, pxL1600, pxL1681, pxL12028, pxL13849, pxL14880, pxL25173, pxL26908, pxL49600, pxL65535, pxL65536, ↓reduceIte, reduceCtorEq, pxJ_add, pxJ_sub, pxJ_mul, pxJ_neg, pxD_lt_t, pxD_lt_f, pxD_le_t, pxD_le_f, pxD_eq_t, pxD_eq_f, pxJ_lt, pxJ_le, pxJ_eq, px_gI, px_gR, px_pI, px_rc, px_ai, px_ar, px_si, px_ln, px_cp, pxJ_div, pxJ_b8, pxJ_byte, px_b2, px_bs, px_rb0, px_rb1, px_min, px_max, px_compare, pxW_some, jw_t_I, px_cpt, jw_r_I, px_cpr, jw_l_I, px_cpl, Option.some.injEq, f5, w0]
  refine pxW_b2 K fun q h2 k => ?_
  exact pxW_some.mpr (.mkX A Y k.1 (fun k f z => by unfold pxC at z; omega) k.2.1 k.2.2)
theorem s_do_l (c : pxP s p = 108) (H : pxDC h b s i p T S f l rep) : pxW (f_X10_doOne h 559 (some (12 + 4 * i))) (pxDR h (pxDo1 s p f l T S) rep S) := by
  obtain ⟨CO, A, Rn, I, Y, hn, n0, n1, rg⟩ := H
  obtain ⟨t5, -⟩ := CO.t5
  have f3 := CO.2.2.2.1.1
  obtain ⟨W, M, HS, Z, X, rp⟩ := id A
  have w0 := W.1
  have eD : pxDo1 s p f l T S = pxDoT (0, pxSpUniq f l T) S := by unfold pxDo1; rw [if_neg (by omega), if_neg (by omega), if_neg (by omega), if_neg (by omega), if_neg (by omega), if_neg (by omega), if_neg (by omega), if_neg (by omega), if_neg (by omega), if_pos c]; rfl
  rw [eD, px_doL t5 (f3.trans c)]
  unfold pxRgOk at rg
  have K := s_X10_leaveOutSame W Rn I (by omega) (by omega) (by omega)
  clear rg
  simp (maxSteps := 4000000) (disch := first | assumption | omega | (simp only [jw_t_I, px_cpt]; done) | (simp only [jw_t_I, px_cpt]; omega)) only [pxL0, pxL1, pxL2, pxL3, pxL4, pxL5, pxL6, pxL7, pxL8, pxL9, pxL10, pxL11, pxL12, pxL13, pxL14, pxL15, pxL16, pxL17, pxL18, pxL19, pxL20, pxL21, pxL22, pxL23, pxL24, pxL25, pxL26, pxL27, pxL28, pxL29, pxL30, pxL31, pxL32, pxL33, pxL34, pxL35, pxL36, pxL37, pxL38, pxL39, pxL40, pxL41, pxL42, pxL43, pxL44, pxL45, pxL46, pxL47, pxL48, pxL49, pxL51, pxL57, pxL58, pxL59, pxL60, pxL61, pxL62, pxL63, pxL64, pxL65, pxL66, pxL67, pxL68, pxL69, pxL70, pxL71, pxL72, pxL73, pxL74, pxL75, pxL76, pxL77, pxL78, pxL79, pxL80, pxL81, pxL82, pxL83, pxL84, pxL85, pxL86, pxL87, pxL88, pxL89, pxL90, pxL91, pxL92, pxL93, pxL94, pxL95, pxL96, pxL97, pxL98, pxL99, pxL100, pxL101, pxL102, pxL103, pxL104, pxL105, pxL106, pxL107, pxL108, pxL109, pxL110, pxL111, pxL112, pxL113, pxL114, pxL115, pxL116, pxL117, pxL118, pxL119, pxL120, pxL121, pxL122, pxL123, pxL124, pxL125, pxL126, pxL200, pxL240, pxL287, pxL388, pxL400, pxL429, pxL431, pxL440, pxL1240, pxL1600, pxL1681, pxL12028, pxL13849, pxL14880, pxL25173, pxL26908, pxL49600, pxL65535, pxL65536, ↓reduceIte, reduceCtorEq, pxJ_add, pxJ_sub, pxJ_mul, pxJ_neg, pxD_lt_t, pxD_lt_f, pxD_le_t, pxD_le_f, pxD_eq_t, pxD_eq_f, pxJ_lt, pxJ_le, pxJ_eq, px_gI, px_gR, px_pI, px_rc, px_ai, px_ar, px_si, px_ln, px_cp, pxJ_div, pxJ_b8, pxJ_byte, px_b2, px_bs, px_rb0, px_rb1, px_min, px_max, px_compare, pxW_some, jw_t_I, px_cpt, jw_r_I, px_cpr, jw_l_I, px_cpl, Option.some.injEq, w0]
  refine pxW_b2 K fun q h2 k => ?_
  exact pxW_some.mpr (.mkX A Y k.1 (fun k f z => by unfold pxC at z; omega) k.2.1 ⟨fun _ => k.2.2, _, k.2.2⟩)
end
