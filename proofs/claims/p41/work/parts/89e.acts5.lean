/-! orders over the whole: lines copied, sorted -/
section
variable {ls : pxLs} {mk : Int → Int} {now nx : Int}
theorem s_X10_copyLines_b48 {lsS : pxLs} {mkS : Int → Int} {nowS nxS f l t n : Int} (t0 : 0 ≤ t) (t1 : t ≤ ls.length) (f1 : 1 ≤ f) (en : n = l - f + 1) (fl : f ≤ l) (l1 : l ≤ lsS.length) (hs : ls.length + n ≤ 40) : ∀ (m N : Nat) (h : jw_H) (i : Int), i + m = n + 1 → m < N → 1 ≤ i → pxWF h → pxM h 559 12 = f → pxIT h 563 lsS mkS nowS nxS → pxIT h 255 (pxIns ls (t + 1) ((pxNewR nx (pxSub (pxRs lsS) f l)).take (i - 1).toNat ++ (pxNew nx n).drop (i - 1).toNat)) mk now (nx + n) →
    pxW (f_X10_copyLines_b48 N h 559 (pxJ t) (pxJ n) (pxJ i)) fun q h' => pxF (pxC 255 260) h h' ∧ q = pxJ 0 ∧ pxIT h' 255 (pxIns ls (t + 1) (pxNewR nx (pxSub (pxRs lsS) f l))) mk (t + n) (nx + n) := by
  intro m
  have rl : ((pxRs lsS).length : Int) = lsS.length := by rw [pxRs_len]
  have sl := pxSub_len (l := pxRs lsS) (x := f) (y := l) f1 (by omega) (by omega)
  have PL : ((pxNewR nx (pxSub (pxRs lsS) f l)).length : Int) = n := by rw [pxNewR_len]; omega
  have QL : ((pxNew nx n).length : Int) = n := by rw [pxNew_len]; omega
  induction m with
  | zero =>
    intro N h i em hN i1 W rf Hs H
    obtain ⟨N, rfl, hN⟩ := px_fu hN
    have w0 := W.1
    have w1 := W.2.2.1
    have t9 := H.1.1
    have e : (pxNewR nx (pxSub (pxRs lsS) f l)).take (i - 1).toNat ++ (pxNew nx n).drop (i - 1).toNat = pxNewR nx (pxSub (pxRs lsS) f l) := by
      rw [List.take_of_length_le (by omega), List.drop_of_length_le (by omega), List.append_nil]
    rw [e] at H
    have H2 := H.now3 (v := t + n) (by omega) (by omega)
    have F : pxF (pxC 255 260) h (jw_setI h 255 3 (pxJ (t + n))) := pxF.setI (by unfold pxC; omega)
    rw [u_X10_copyLines_b48]
    unfold g_X10_copyLines_b48
    simp (maxSteps := 4000000) (disch := first | assumption | omega | (simp only [jw_t_I, px_cpt]; done) | (simp only [jw_t_I, px_cpt]; omega)) only [pxL0, pxL1, pxL2, pxL3, pxL4, pxL5, pxL6, pxL7, pxL8, pxL9, pxL10, pxL11, pxL12, pxL13, pxL14, pxL15, pxL16, pxL17, pxL18, pxL19, pxL20, pxL21, pxL22, pxL23, pxL24, pxL25, pxL26, pxL27, pxL28, pxL29, pxL30, pxL31, pxL32, pxL33, pxL34, pxL35, pxL36, pxL37, pxL38, pxL39, pxL40, pxL41, pxL42, pxL43, pxL44, pxL45, pxL46, pxL47, pxL48, pxL49, pxL51, pxL57, pxL58, pxL59, pxL60, pxL61, pxL62, pxL63, pxL64, pxL65, pxL66, pxL67, pxL68, pxL69, pxL70, pxL71, pxL72, pxL73, pxL74, pxL75, pxL76, pxL77, pxL78, pxL79, pxL80, pxL81, pxL82, pxL83, pxL84, pxL85, pxL86, pxL87, pxL88, pxL89, pxL90, pxL91, pxL92, pxL93, pxL94, pxL95, pxL96, pxL97, pxL98, pxL99, pxL100, pxL101, pxL102, pxL103, pxL104, pxL105, pxL106, pxL107, pxL108, pxL109, pxL110, pxL111, pxL112, pxL113, pxL114, pxL115, pxL116, pxL117, pxL118, pxL119, pxL120, pxL121, pxL122, pxL123, pxL124, pxL125, pxL126, pxL200, pxL240, pxL287, pxL388, pxL400, pxL429, pxL431, pxL440, pxL1240, pxL1600, pxL1681, pxL12028, pxL13849, pxL14880, pxL25173, pxL26908, pxL49600, pxL65535, pxL65536, ↓reduceIte, reduceCtorEq, pxJ_add, pxJ_sub, pxJ_mul, pxJ_neg, pxD_lt_t, pxD_lt_f, pxD_le_t, pxD_le_f, pxD_eq_t, pxD_eq_f, pxJ_lt, pxJ_le, pxJ_eq, px_gI, px_gR, px_pI, px_rc, px_ai, px_ar, px_si, px_ln, px_cp, pxJ_div, pxJ_b8, pxJ_byte, px_b2, px_bs, px_rb0, px_rb1, px_min, px_max, px_compare, pxW_some, jw_t_I, px_cpt, jw_r_I, px_cpr, jw_l_I, px_cpl, Option.some.injEq, w0, w1, t9]
    exact ⟨F, trivial, H2⟩
  | succ m ih =>
    intro N h i em hN i1 W rf Hs H
    obtain ⟨N, rfl, hN⟩ := px_fu hN
    have w0 := W.1
    have w1 := W.2.2.1
    have w8 := W.2.2.2.2.2.2.2.2.2.1
    have t9 := H.1.1
    have r0 := H.1.2.1
    have t7 := H.2.1.1.1
    have t9s := Hs.1.1
    have r0s := Hs.1.2.1
    generalize hM : (pxNewR nx (pxSub (pxRs lsS) f l)).take (i - 1).toNat ++ (pxNew nx n).drop (i - 1).toNat = M at H
    have ML : (M.length : Int) = n := by rw [← hM, List.length_append, List.length_take, List.length_drop]; omega
    have cl : ((pxIns ls (t + 1) M).length : Int) = ls.length + n := by rw [pxIns_len]; omega
    have K := s_X7_take H.2.1 Hs.2.1 (x := t + i) (y := f + i - 1) (by omega) (by omega) (by omega) (by omega)
    rw [if_pos (by rw [pxRs_len, cl]; omega)] at K
    rw [u_X10_copyLines_b48]
    unfold g_X10_copyLines_b48
    simp (maxSteps := 4000000) (disch := first | assumption | omega | (simp only [jw_t_I, px_cpt]; done) | (simp only [jw_t_I, px_cpt]; omega)) only [pxL0, pxL1, pxL2, pxL3, pxL4, pxL5, pxL6, pxL7, pxL8, pxL9, pxL10, pxL11, pxL12, pxL13, pxL14, pxL15, pxL16, pxL17, pxL18, pxL19, pxL20, pxL21, pxL22, pxL23, pxL24, pxL25, pxL26, pxL27, pxL28, pxL29, pxL30, pxL31, pxL32, pxL33, pxL34, pxL35, pxL36, pxL37, pxL38, pxL39, pxL40, pxL41, pxL42, pxL43, pxL44, pxL45, pxL46, pxL47, pxL48, pxL49, pxL51, pxL57, pxL58, pxL59, pxL60, pxL61, pxL62, pxL63, pxL64, pxL65, pxL66, pxL67, pxL68, pxL69, pxL70, pxL71, pxL72, pxL73, pxL74, pxL75, pxL76, pxL77, pxL78, pxL79, pxL80, pxL81, pxL82, pxL83, pxL84, pxL85, pxL86, pxL87, pxL88, pxL89, pxL90, pxL91, pxL92, pxL93, pxL94, pxL95, pxL96, pxL97, pxL98, pxL99, pxL100, pxL101, pxL102, pxL103, pxL104, pxL105, pxL106, pxL107, pxL108, pxL109, pxL110, pxL111, pxL112, pxL113, pxL114, pxL115, pxL116, pxL117, pxL118, pxL119, pxL120, pxL121, pxL122, pxL123, pxL124, pxL125, pxL126, pxL200, pxL240, pxL287, pxL388, pxL400, pxL429, pxL431, pxL440, pxL1240, pxL1600, pxL1681, pxL12028, pxL13849, pxL14880, pxL25173, pxL26908, pxL49600, pxL65535, pxL65536, ↓reduceIte, reduceCtorEq, pxJ_add, pxJ_sub, pxJ_mul, pxJ_neg, pxD_lt_t, pxD_lt_f, pxD_le_t, pxD_le_f, pxD_eq_t, pxD_eq_f, pxJ_lt, pxJ_le, pxJ_eq, px_gI, px_gR, px_pI, px_rc, px_ai, px_ar, px_si, px_ln, px_cp, pxJ_div, pxJ_b8, pxJ_byte, px_b2, px_bs, px_rb0, px_rb1, px_min, px_max, px_compare, pxW_some, jw_t_I, px_cpt, jw_r_I, px_cpr, jw_l_I, px_cpl, Option.some.injEq, w0, w1, t9, r0, t7, w8, t9s, r0s, rf]
    refine pxW_b2 K fun _ h1 k => ?_
    have k1 : pxF (pxC 256 258) h h1 := k.1
    have H1 := H.row1 k1 (x := t + i) (by omega) (by omega) k.2
    have ex : t + i = t + 1 + i - 1 := by omega
    have eid : pxId (pxIns ls (t + 1) M) (t + i) = nx + i - 1 := by
      unfold pxId pxAt
      rw [pxIns_in (by omega) (by omega) (by omega) (by omega), show t + i - (t + 1) + 1 = i by omega, ← hM, pxG_appR (by rw [List.length_take]; omega), List.length_take, pxG_drop (by omega) (by omega)]
      have := pxNew_at (nx := nx) (n := n) (x := i) i1 (by omega)
      unfold pxAt at this
      rw [show i - ((min (i - 1).toNat (pxNewR nx (pxSub (pxRs lsS) f l)).length : Nat) : Int) + (i - 1) = i by omega, this]
    have ea : (nx + i - 1, pxRw (pxRs lsS) (f + i - 1)) = pxG (0, []) (pxNewR nx (pxSub (pxRs lsS) f l)) i := by
      have := pxNewR_at (pxSub (pxRs lsS) f l) nx i i1 (by omega)
      unfold pxAt at this
      rw [this]
      unfold pxRw
      rw [pxSub_at f1 i1 (by omega)]
    rw [eid, ea, ex, pxSet_ins (d := (0, [])) (by omega) (by omega) i1 (by omega), ← hM, pxMix_set (by omega) i1 (by omega)] at H1
    rw [show i.toNat = (i + 1 - 1).toNat by omega] at H1
    refine (ih N h1 (i + 1) (by omega) (by omega) (by omega) (W.f9 k1 (fun f => by unfold pxC; omega)) (by rw [k1.m (by unfold pxC; omega)]; exact rf) (Hs.fr k1 (fun k f _ _ => by unfold pxC; omega)) H1).mono fun _ h' q => ⟨(k1.mono (fun k f z => by unfold pxC at *; omega)).trans q.1, q.2⟩
theorem s_X10_copyLines {h : jw_H} {f l t : Int} (W : pxWF h) (Rn : pxRn h f l) (H : pxIT h 255 ls mk now nx) (X : pxSX h 563) (f1 : 1 ≤ f) (fl : f ≤ l) (l1 : l ≤ ls.length) (t0 : -1000 ≤ t) (t1 : t ≤ ls.length) (n0 : 0 ≤ nx) (n1 : nx ≤ 2000000) :
    pxW (f_X10_copyLines h 559 (pxJ t)) fun q h' => pxF pxQn9 h h' ∧ q = pxJ (pxSpCopy f l t (ls, mk, now, nx)).1 ∧ pxIX h' (pxSpCopy f l t (ls, mk, now, nx)).2 ∧ pxSX h' 563 := by
  have l40 := H.len
  have w0 := W.1
  have w1 := W.2.2.1
  have w8 := W.2.2.2.2.2.2.2.2.2.1
  have t9s := X.1.1
  obtain ⟨rf, rl⟩ := id Rn
  have eC : pxSpCopy f l t (ls, mk, now, nx) = if t < 0 then (-t, (ls, mk, now, nx)) else if 40 < (ls.length : Int) + (l - f + 1) then (4, (ls, mk, now, nx)) else (0, (pxIns ls (t + 1) (pxNewR nx (pxSub (pxRs ls) f l)), mk, t + (l - f + 1), nx + (l - f + 1))) := rfl
  rw [eC]
  unfold f_X10_copyLines
  by_cases c0 : t < 0
  · rw [if_pos c0]
    simp (maxSteps := 4000000) (disch := first | assumption | omega | (simp only [jw_t_I, px_cpt]; done) | (simp only [jw_t_I, px_cpt]; omega)) only [pxL0, pxL1, pxL2, pxL3, pxL4, pxL5, pxL6, pxL7, pxL8, pxL9, pxL10, pxL11, pxL12, pxL13, pxL14, pxL15, pxL16, pxL17, pxL18, pxL19, pxL20, pxL21, pxL22, pxL23, pxL24, pxL25, pxL26, pxL27, pxL28, pxL29, pxL30, pxL31, pxL32, pxL33, pxL34, pxL35, pxL36, pxL37, pxL38, pxL39, pxL40, pxL41, pxL42, pxL43, pxL44, pxL45, pxL46, pxL47, pxL48, pxL49, pxL51, pxL57, pxL58, pxL59, pxL60, pxL61, pxL62, pxL63, pxL64, pxL65, pxL66, pxL67, pxL68, pxL69, pxL70, pxL71, pxL72, pxL73, pxL74, pxL75, pxL76, pxL77, pxL78, pxL79, pxL80, pxL81, pxL82, pxL83, pxL84, pxL85, pxL86, pxL87, pxL88, pxL89, pxL90, pxL91, pxL92, pxL93, pxL94, pxL95, pxL96, pxL97, pxL98, pxL99, pxL100, pxL101, pxL102, pxL103, pxL104, pxL105, pxL106, pxL107, pxL108, pxL109, pxL110, pxL111, pxL112, pxL113, pxL114, pxL115, pxL116, pxL117, pxL118, pxL119, pxL120, pxL121, pxL122, pxL123, pxL124, pxL125, pxL126, pxL200, pxL240, pxL287, pxL388, pxL400, pxL429, pxL431, pxL440, pxL1240, pxL1600, pxL1681, pxL12028, pxL13849, pxL14880, pxL25173, pxL26908, pxL49600, pxL65535, pxL65536, ↓reduceIte, reduceCtorEq, pxJ_add, pxJ_sub, pxJ_mul, pxJ_neg, pxD_lt_t, pxD_lt_f, pxD_le_t, pxD_le_f, pxD_eq_t, pxD_eq_f, pxJ_lt, pxJ_le, pxJ_eq, px_gI, px_gR, px_pI, px_rc, px_ai, px_ar, px_si, px_ln, px_cp, pxJ_div, pxJ_b8, pxJ_byte, px_b2, px_bs, px_rb0, px_rb1, px_min, px_max, px_compare, pxW_some, jw_t_I, px_cpt, jw_r_I, px_cpr, jw_l_I, px_cpl, Option.some.injEq]
    exact ⟨pxF.rfl, trivial, H, X⟩
  rw [if_neg c0]
  simp (maxSteps := 4000000) (disch := first | assumption | omega | (simp only [jw_t_I, px_cpt]; done) | (simp only [jw_t_I, px_cpt]; omega)) only [pxL0, pxL1, pxL2, pxL3, pxL4, pxL5, pxL6, pxL7, pxL8, pxL9, pxL10, pxL11, pxL12, pxL13, pxL14, pxL15, pxL16, pxL17, pxL18, pxL19, pxL20, pxL21, pxL22, pxL23, pxL24, pxL25, pxL26, pxL27, pxL28, pxL29, pxL30, pxL31, pxL32, pxL33, pxL34, pxL35, pxL36, pxL37, pxL38, pxL39, pxL40, pxL41, pxL42, pxL43, pxL44, pxL45, pxL46, pxL47, pxL48, pxL49, pxL51, pxL57, pxL58, pxL59, pxL60, pxL61, pxL62, pxL63, pxL64, pxL65, pxL66, pxL67, pxL68, pxL69, pxL70, pxL71, pxL72, pxL73, pxL74, pxL75, pxL76, pxL77, pxL78, pxL79, pxL80, pxL81, pxL82, pxL83, pxL84, pxL85, pxL86, pxL87, pxL88, pxL89, pxL90, pxL91, pxL92, pxL93, pxL94, pxL95, pxL96, pxL97, pxL98, pxL99, pxL100, pxL101, pxL102, pxL103, pxL104, pxL105, pxL106, pxL107, pxL108, pxL109, pxL110, pxL111, pxL112, pxL113, pxL114, pxL115, pxL116, pxL117, pxL118, pxL119, pxL120, pxL121, pxL122, pxL123, pxL124, pxL125, pxL126, pxL200, pxL240, pxL287, pxL388, pxL400, pxL429, pxL431, pxL440, pxL1240, pxL1600, pxL1681, pxL12028, pxL13849, pxL14880, pxL25173, pxL26908, pxL49600, pxL65535, pxL65536, ↓reduceIte, reduceCtorEq, pxJ_add, pxJ_sub, pxJ_mul, pxJ_neg, pxD_lt_t, pxD_lt_f, pxD_le_t, pxD_le_f, pxD_eq_t, pxD_eq_f, pxJ_lt, pxJ_le, pxJ_eq, px_gI, px_gR, px_pI, px_rc, px_ai, px_ar, px_si, px_ln, px_cp, pxJ_div, pxJ_b8, pxJ_byte, px_b2, px_bs, px_rb0, px_rb1, px_min, px_max, px_compare, pxW_some, jw_t_I, px_cpt, jw_r_I, px_cpr, jw_l_I, px_cpl, Option.some.injEq, w0, rf, rl, w1, w8, t9s]
  refine pxW_b2 (s_X9_copy X H (by omega)) fun _ h1 k => ?_
  obtain ⟨F1, H1s⟩ := k
  have H1 := H.fr F1 (fun k f _ _ => by unfold pxC; omega)
  have W1 := W.f9 F1 (fun f => by unfold pxC; omega)
  have w01 := W1.1
  have w11 := W1.2.2.1
  have t91 := H1.1.1
  have F1' : pxF pxQn9 h h1 := F1.mono (fun k f z => by unfold pxC at z; unfold pxQn9; omega)
  simp (maxSteps := 4000000) (disch := first | assumption | omega | (simp only [jw_t_I, px_cpt]; done) | (simp only [jw_t_I, px_cpt]; omega)) only [pxL0, pxL1, pxL2, pxL3, pxL4, pxL5, pxL6, pxL7, pxL8, pxL9, pxL10, pxL11, pxL12, pxL13, pxL14, pxL15, pxL16, pxL17, pxL18, pxL19, pxL20, pxL21, pxL22, pxL23, pxL24, pxL25, pxL26, pxL27, pxL28, pxL29, pxL30, pxL31, pxL32, pxL33, pxL34, pxL35, pxL36, pxL37, pxL38, pxL39, pxL40, pxL41, pxL42, pxL43, pxL44, pxL45, pxL46, pxL47, pxL48, pxL49, pxL51, pxL57, pxL58, pxL59, pxL60, pxL61, pxL62, pxL63, pxL64, pxL65, pxL66, pxL67, pxL68, pxL69, pxL70, pxL71, pxL72, pxL73, pxL74, pxL75, pxL76, pxL77, pxL78, pxL79, pxL80, pxL81, pxL82, pxL83, pxL84, pxL85, pxL86, pxL87, pxL88, pxL89, pxL90, pxL91, pxL92, pxL93, pxL94, pxL95, pxL96, pxL97, pxL98, pxL99, pxL100, pxL101, pxL102, pxL103, pxL104, pxL105, pxL106, pxL107, pxL108, pxL109, pxL110, pxL111, pxL112, pxL113, pxL114, pxL115, pxL116, pxL117, pxL118, pxL119, pxL120, pxL121, pxL122, pxL123, pxL124, pxL125, pxL126, pxL200, pxL240, pxL287, pxL388, pxL400, pxL429, pxL431, pxL440, pxL1240, pxL1600, pxL1681, pxL12028, pxL13849, pxL14880, pxL25173, pxL26908, pxL49600, pxL65535, pxL65536, ↓reduceIte, reduceCtorEq, pxJ_add, pxJ_sub, pxJ_mul, pxJ_neg, pxD_lt_t, pxD_lt_f, pxD_le_t, pxD_le_f, pxD_eq_t, pxD_eq_f, pxJ_lt, pxJ_le, pxJ_eq, px_gI, px_gR, px_pI, px_rc, px_ai, px_ar, px_si, px_ln, px_cp, pxJ_div, pxJ_b8, pxJ_byte, px_b2, px_bs, px_rb0, px_rb1, px_min, px_max, px_compare, pxW_some, jw_t_I, px_cpt, jw_r_I, px_cpr, jw_l_I, px_cpl, Option.some.injEq, w01, w11, t91]
  refine pxW_b2 (s_X9_open H1 (x := t + 1) (n := l - f + 1) (by omega) (by omega) (by omega) (by omega) (by omega) (by omega)) fun q h2 k => ?_
  obtain ⟨F2, rfl, H2⟩ := k
  have F2' : pxF pxQn9 h h2 := F1'.trans (F2.mono (fun k f z => by unfold pxC at z; unfold pxQn9; omega))
  have H2s := H1s.fr F2 (fun k f _ _ => by unfold pxC; omega)
  have W2 := W1.f9 F2 (fun f => by unfold pxC; omega)
  by_cases c1 : 40 < (ls.length : Int) + (l - f + 1)
  · have nc : ¬ (ls.length : Int) + (l - f + 1) ≤ 40 := by omega
    rw [if_neg nc, if_neg nc] at H2
    rw [if_pos c1, if_neg nc]
    simp (maxSteps := 4000000) (disch := first | assumption | omega | (simp only [jw_t_I, px_cpt]; done) | (simp only [jw_t_I, px_cpt]; omega)) only [pxL0, pxL1, pxL2, pxL3, pxL4, pxL5, pxL6, pxL7, pxL8, pxL9, pxL10, pxL11, pxL12, pxL13, pxL14, pxL15, pxL16, pxL17, pxL18, pxL19, pxL20, pxL21, pxL22, pxL23, pxL24, pxL25, pxL26, pxL27, pxL28, pxL29, pxL30, pxL31, pxL32, pxL33, pxL34, pxL35, pxL36, pxL37, pxL38, pxL39, pxL40, pxL41, pxL42, pxL43, pxL44, pxL45, pxL46, pxL47, pxL48, pxL49, pxL51, pxL57, pxL58, pxL59, pxL60, pxL61, pxL62, pxL63, pxL64, pxL65, pxL66, pxL67, pxL68, pxL69, pxL70, pxL71, pxL72, pxL73, pxL74, pxL75, pxL76, pxL77, pxL78, pxL79, pxL80, pxL81, pxL82, pxL83, pxL84, pxL85, pxL86, pxL87, pxL88, pxL89, pxL90, pxL91, pxL92, pxL93, pxL94, pxL95, pxL96, pxL97, pxL98, pxL99, pxL100, pxL101, pxL102, pxL103, pxL104, pxL105, pxL106, pxL107, pxL108, pxL109, pxL110, pxL111, pxL112, pxL113, pxL114, pxL115, pxL116, pxL117, pxL118, pxL119, pxL120, pxL121, pxL122, pxL123, pxL124, pxL125, pxL126, pxL200, pxL240, pxL287, pxL388, pxL400, pxL429, pxL431, pxL440, pxL1240, pxL1600, pxL1681, pxL12028, pxL13849, pxL14880, pxL25173, pxL26908, pxL49600, pxL65535, pxL65536, ↓reduceIte, reduceCtorEq, pxJ_add, pxJ_sub, pxJ_mul, pxJ_neg, pxD_lt_t, pxD_lt_f, pxD_le_t, pxD_le_f, pxD_eq_t, pxD_eq_f, pxJ_lt, pxJ_le, pxJ_eq, px_gI, px_gR, px_pI, px_rc, px_ai, px_ar, px_si, px_ln, px_cp, pxJ_div, pxJ_b8, pxJ_byte, px_b2, px_bs, px_rb0, px_rb1, px_min, px_max, px_compare, pxW_some, jw_t_I, px_cpt, jw_r_I, px_cpr, jw_l_I, px_cpl, Option.some.injEq]
    exact ⟨F2', trivial, H2, H2s.sx⟩
  · have nc : (ls.length : Int) + (l - f + 1) ≤ 40 := by omega
    rw [if_pos nc, if_pos nc] at H2
    rw [if_neg c1, if_pos nc]
    simp (maxSteps := 4000000) (disch := first | assumption | omega | (simp only [jw_t_I, px_cpt]; done) | (simp only [jw_t_I, px_cpt]; omega)) only [pxL0, pxL1, pxL2, pxL3, pxL4, pxL5, pxL6, pxL7, pxL8, pxL9, pxL10, pxL11, pxL12, pxL13, pxL14, pxL15, pxL16, pxL17, pxL18, pxL19, pxL20, pxL21, pxL22, pxL23, pxL24, pxL25, pxL26, pxL27, pxL28, pxL29, pxL30, pxL31, pxL32, pxL33, pxL34, pxL35, pxL36, pxL37, pxL38, pxL39, pxL40, pxL41, pxL42, pxL43, pxL44, pxL45, pxL46, pxL47, pxL48, pxL49, pxL51, pxL57, pxL58, pxL59, pxL60, pxL61, pxL62, pxL63, pxL64, pxL65, pxL66, pxL67, pxL68, pxL69, pxL70, pxL71, pxL72, pxL73, pxL74, pxL75, pxL76, pxL77, pxL78, pxL79, pxL80, pxL81, pxL82, pxL83, pxL84, pxL85, pxL86, pxL87, pxL88, pxL89, pxL90, pxL91, pxL92, pxL93, pxL94, pxL95, pxL96, pxL97, pxL98, pxL99, pxL100, pxL101, pxL102, pxL103, pxL104, pxL105, pxL106, pxL107, pxL108, pxL109, pxL110, pxL111, pxL112, pxL113, pxL114, pxL115, pxL116, pxL117, pxL118, pxL119, pxL120, pxL121, pxL122, pxL123, pxL124, pxL125, pxL126, pxL200, pxL240, pxL287, pxL388, pxL400, pxL429, pxL431, pxL440, pxL1240, pxL1600, pxL1681, pxL12028, pxL13849, pxL14880, pxL25173, pxL26908, pxL49600, pxL65535, pxL65536, ↓reduceIte, reduceCtorEq, pxJ_add, pxJ_sub, pxJ_mul, pxJ_neg, pxD_lt_t, pxD_lt_f, pxD_le_t, pxD_le_f, pxD_eq_t, pxD_eq_f, pxJ_lt, pxJ_le, pxJ_eq, px_gI, px_gR, px_pI, px_rc, px_ai, px_ar, px_si, px_ln, px_cp, pxJ_div, pxJ_b8, pxJ_byte, px_b2, px_bs, px_rb0, px_rb1, px_min, px_max, px_compare, pxW_some, jw_t_I, px_cpt, jw_r_I, px_cpr, jw_l_I, px_cpl, Option.some.injEq]
    refine (s_X10_copyLines_b48 (nx := nx) (n := l - f + 1) (by omega) t1 f1 rfl fl l1 nc (l - f + 1).toNat jw_FU h2 1 (by omega) (by unfold jw_FU; omega) (by omega) W2 (by rw [F2.m (by unfold pxC; omega), F1.m (by unfold pxC; omega)]; exact rf) H2s (by simpa using H2)).mono fun q h' k => ⟨F2'.trans (k.1.mono (fun k f z => by unfold pxC at z; unfold pxQn9; omega)), k.2.1, k.2.2, H2s.sx.fr k.1 (fun k f _ _ => by unfold pxC; omega)⟩
theorem pxCmp_b : ∀ (a b : List Int), -1 ≤ pxCmp a b ∧ pxCmp a b ≤ 1
  | [], [] => ⟨by show -1 ≤ (0 : Int); omega, by show (0 : Int) ≤ 1; omega⟩
  | [], _ :: _ => ⟨by show -1 ≤ (-1 : Int); omega, by show (-1 : Int) ≤ 1; omega⟩
  | _ :: _, [] => ⟨by show -1 ≤ (1 : Int); omega, by show (1 : Int) ≤ 1; omega⟩
  | x :: l, y :: m => by
    have := pxCmp_b l m
    show -1 ≤ (if x < y then (-1 : Int) else if x = y then pxCmp l m else 1) ∧ (if x < y then (-1 : Int) else if x = y then pxCmp l m else 1) ≤ 1
    by_cases c : x < y
    · rw [if_pos c]; omega
    · rw [if_neg c]
      by_cases d : x = y
      · rw [if_pos d]; exact this
      · rw [if_neg d]; omega
theorem pxSwap_map {num : List Int} {x : Int} (x1 : 2 ≤ x) (x2 : x ≤ num.length) : (pxSwap 0 num x).map (pxAt ls) = pxSwap (0, []) (num.map (pxAt ls)) x := by
  unfold pxSwap
  have e : ∀ (l : List Int) (y v : Int), (pxSet l y v).map (pxAt ls) = pxSet (l.map (pxAt ls)) y (pxAt ls v) := fun l y v => by unfold pxSet; exact List.map_set
  rw [e, e, pxG_mapi (d := (0 : Int)) (by omega) (by omega), pxG_mapi (d := (0 : Int)) (by omega) x2]
def pxNb (num : List Int) (n : Int) : Prop := ∀ x : Int, 1 ≤ x → x ≤ num.length → 1 ≤ pxG 0 num x ∧ pxG 0 num x ≤ n
theorem pxSwap_len {num : List Int} {x : Int} : (pxSwap 0 num x).length = num.length := by unfold pxSwap; rw [pxSet_len, pxSet_len]
theorem pxSwap_nb {num : List Int} {n x : Int} (H : pxNb num n) (x1 : 2 ≤ x) (x2 : x ≤ num.length) : pxNb (pxSwap 0 num x) n := by
  intro y y1 y2
  rw [pxSwap_len] at y2
  unfold pxSwap
  by_cases e : y = x - 1
  · subst e
    rw [pxG_setE y1 (by rw [pxSet_len]; omega)]
    exact H x (by omega) x2
  · rw [pxG_setN (by omega) y1 e]
    by_cases e2 : y = x
    · subst e2
      rw [pxG_setE y1 (by omega)]
      exact H (y - 1) (by omega) (by omega)
    · rw [pxG_setN (by omega) y1 e2]
      exact H y y1 y2
theorem s_X10_sort_b44 {k24 : jw_H → Nat → Int32 → Int32 → Int32 → Option (Int32 × jw_H)} {f place : Int} {fall : Bool} {x3 : Int32} (f1 : 1 ≤ f) (p0 : 0 ≤ place) (p1 : place ≤ 99) (n40 : ls.length ≤ 40) : ∀ (m N : Nat) (h : jw_H) (x : Int) (num : List Int), x - f = m → m < N → x ≤ ls.length → num.length = ls.length → pxNb num ls.length → pxWF h → pxM h 559 12 = f → pxIT h 255 ls mk now nx → pxNumA h num →
    ∃ h' num', f_X10_sort_b44 k24 N h 559 (pxJ place) (pxJ (if fall = true then 1 else 0)) x3 (pxJ x) = k24 h' 559 (pxJ place) (pxJ (if fall = true then 1 else 0)) (x3 + 1) ∧ pxF pxQ9 h h' ∧ pxNumA h' num' ∧ num'.length = ls.length ∧ pxNb num' ls.length ∧ num'.map (pxAt ls) = pxSift place fall m x (num.map (pxAt ls)) := by
  intro m
  induction m with
  | zero =>
    intro N h x num em hN xl nl nb W rf H A
    obtain ⟨N, rfl, hN⟩ := px_fu hN
    have w0 := W.1
    refine ⟨h, num, ?_, pxF.rfl, A, nl, nb, rfl⟩
    rw [u_X10_sort_b44]
    unfold g_X10_sort_b44 g_X10_sort_b146
    simp (maxSteps := 4000000) (disch := first | assumption | omega | (simp only [jw_t_I, px_cpt]; done) | (simp only [jw_t_I, px_cpt]; omega)) only [pxL0, pxL1, pxL2, pxL3, pxL4, pxL5, pxL6, pxL7, pxL8, pxL9, pxL10, pxL11, pxL12, pxL13, pxL14, pxL15, pxL16, pxL17, pxL18, pxL19, pxL20, pxL21, pxL22, pxL23, pxL24, pxL25, pxL26, pxL27, pxL28, pxL29, pxL30, pxL31, pxL32, pxL33, pxL34, pxL35, pxL36, pxL37, pxL38, pxL39, pxL40, pxL41, pxL42, pxL43, pxL44, pxL45, pxL46, pxL47, pxL48, pxL49, pxL51, pxL57, pxL58, pxL59, pxL60, pxL61, pxL62, pxL63, pxL64, pxL65, pxL66, pxL67, pxL68, pxL69, pxL70, pxL71, pxL72, pxL73, pxL74, pxL75, pxL76, pxL77, pxL78, pxL79, pxL80, pxL81, pxL82, pxL83, pxL84, pxL85, pxL86, pxL87, pxL88, pxL89, pxL90, pxL91, pxL92, pxL93, pxL94, pxL95, pxL96, pxL97, pxL98, pxL99, pxL100, pxL101, pxL102, pxL103, pxL104, pxL105, pxL106, pxL107, pxL108, pxL109, pxL110, pxL111, pxL112, pxL113, pxL114, pxL115, pxL116, pxL117, pxL118, pxL119, pxL120, pxL121, pxL122, pxL123, pxL124, pxL125, pxL126, pxL200, pxL240, pxL287, pxL388, pxL400, pxL429, pxL431, pxL440, pxL1240, pxL1600, pxL1681, pxL12028, pxL13849, pxL14880, pxL25173, pxL26908, pxL49600, pxL65535, pxL65536, ↓reduceIte, reduceCtorEq, pxJ_add, pxJ_sub, pxJ_mul, pxJ_neg, pxD_lt_t, pxD_lt_f, pxD_le_t, pxD_le_f, pxD_eq_t, pxD_eq_f, pxJ_lt, pxJ_le, pxJ_eq, px_gI, px_gR, px_pI, px_rc, px_ai, px_ar, px_si, px_ln, px_cp, pxJ_div, pxJ_b8, pxJ_byte, px_b2, px_bs, px_rb0, px_rb1, px_min, px_max, px_compare, pxW_some, jw_t_I, px_cpt, jw_r_I, px_cpr, jw_l_I, px_cpl, Option.some.injEq, w0, rf]
  | succ m ih =>
    intro N h x num em hN xl nl nb W rf H A
    obtain ⟨N, rfl, hN⟩ := px_fu hN
    have w0 := W.1
    have w1 := W.2.2.1
    have w9 := W.2.2.2.2.2.2.2.2.2.2.1
    have t20 := W.2.2.2.2.2.2.2.2.2.2.2.2.1
    have t9 := H.1.1
    have r0 := H.1.2.1
    have t7 := H.2.1.1.1
    have rl : ((pxRs ls).length : Int) = ls.length := by rw [pxRs_len]
    obtain ⟨a1, a2⟩ := nb x (by omega) (by omega)
    obtain ⟨b1, b2⟩ := nb (x - 1) (by omega) (by omega)
    have ai1 : jw_ai h 20 (some 569) (pxJ (x - 1)) = some (pxJ (pxG 0 num x)) := by rw [px_ai (by rw [t20]) (by omega) (by rw [t20]; show x - 1 < ((40 : Nat) : Int); omega) (by omega), A.2 x (by omega) (by omega)]
    have ai2 : jw_ai h 20 (some 569) (pxJ (x - 2)) = some (pxJ (pxG 0 num (x - 1))) := by
      have := A.2 (x - 1) (by omega) (by omega)
      rw [show (x - 1 - 1).toNat = (x - 2).toNat by omega] at this
      rw [px_ai (by rw [t20]) (by omega) (by rw [t20]; show x - 2 < ((40 : Nat) : Int); omega) (by omega), this]
    have cf := s_X7_compareFrom H.2.1 (x := pxG 0 num (x - 1)) (y := pxG 0 num x) (z := place) b1 (by omega) a1 (by omega) p0 (by omega)
    generalize hc : pxCmp ((pxRw (pxRs ls) (pxG 0 num (x - 1))).drop place.toNat) ((pxRw (pxRs ls) (pxG 0 num x)).drop place.toNat) = cmp at cf
    have cb : -1 ≤ cmp ∧ cmp ≤ 1 := by rw [← hc]; exact pxCmp_b _ _
    have e1 : (pxAt (num.map (pxAt ls)) (x - 1)).2 = pxRw (pxRs ls) (pxG 0 num (x - 1)) := by
      unfold pxAt; rw [pxG_mapi (d := (0 : Int)) (by omega) (by omega)]; exact (pxRs_at ls _).symm
    have e2 : (pxAt (num.map (pxAt ls)) x).2 = pxRw (pxRs ls) (pxG 0 num x) := by
      unfold pxAt; rw [pxG_mapi (d := (0 : Int)) (by omega) (by omega)]; exact (pxRs_at ls _).symm
    have eS : pxSift place fall (m + 1) x (num.map (pxAt ls)) = if pxWrong place fall (pxRw (pxRs ls) (pxG 0 num (x - 1))) (pxRw (pxRs ls) (pxG 0 num x)) = true then pxSift place fall m (x - 1) (pxSwap (0, []) (num.map (pxAt ls)) x) else num.map (pxAt ls) := by
      rw [← e1, ← e2]; rfl
    have eW : pxWrong place fall (pxRw (pxRs ls) (pxG 0 num (x - 1))) (pxRw (pxRs ls) (pxG 0 num x)) = if fall = true then decide (cmp < 0) else decide (0 < cmp) := by unfold pxWrong; rw [hc]
    rw [eS, eW, u_X10_sort_b44]
    -- a swap
    have e9 : ∀ (h : jw_H) (f : Nat) (v : Int32), pxF pxQ9 h (jw_setI h 569 f v) := fun h f v => pxF.setI rfl
    have F : pxF pxQ9 h (jw_setI (jw_setI h 569 (x - 1).toNat (pxJ (pxG 0 num (x - 1)))) 569 (x - 2).toNat (pxJ (pxG 0 num x))) := (e9 _ _ _).trans (e9 _ _ _)
    have A1 : pxNumA (jw_setI (jw_setI h 569 (x - 1).toNat (pxJ (pxG 0 num (x - 1)))) 569 (x - 2).toNat (pxJ (pxG 0 num x))) (pxSwap 0 num x) := by
      refine ⟨by rw [pxSwap_len]; exact A.1, fun y y1 y2 => ?_⟩
      rw [pxSwap_len] at y2
      unfold pxSwap
      by_cases e : y = x - 1
      · subst e
        rw [pxG_setE y1 (by rw [pxSet_len]; omega), show (x - 1 - 1).toNat = (x - 2).toNat by omega, pxM_eq (by omega) (by omega)]
      · rw [pxG_setN (by omega) y1 e, pxM_ne (by omega)]
        by_cases e2 : y = x
        · subst e2
          rw [pxG_setE y1 (by omega), pxM_eq (by omega) (by omega)]
        · rw [pxG_setN (by omega) y1 e2, pxM_ne (by omega)]
          exact A.2 y y1 y2
    have swp : ∃ h' num', g_X10_sort_b118 (f_X10_sort_b44 k24 N) h 559 (pxJ place) (pxJ (if fall = true then 1 else 0)) x3 (pxJ x) (pxJ (pxG 0 num x)) (pxJ (pxG 0 num (x - 1))) = k24 h' 559 (pxJ place) (pxJ (if fall = true then 1 else 0)) (x3 + 1) ∧ pxF pxQ9 h h' ∧ pxNumA h' num' ∧ num'.length = ls.length ∧ pxNb num' ls.length ∧ num'.map (pxAt ls) = pxSift place fall m (x - 1) (pxSwap (0, []) (num.map (pxAt ls)) x) := by
      obtain ⟨h2, num2, v1, v2, v3, v4, v5, v6⟩ := ih N _ (x - 1) (pxSwap 0 num x) (by omega) (by omega) (by omega) (by rw [pxSwap_len]; exact nl) (pxSwap_nb nb (by omega) (by omega)) (W.f9 F (fun f => by unfold pxQ9; omega)) (by rw [F.m (by unfold pxQ9; omega)]; exact rf) (H.fr F (fun k f _ _ => by unfold pxQ9; omega)) A1
      rw [pxSwap_map (by omega) (by omega)] at v6
      refine ⟨h2, num2, ?_, F.trans v2, v3, v4, v5, v6⟩
      rw [← v1]
      unfold g_X10_sort_b118
      have si1 : jw_si h 20 (some 569) (pxJ (x - 1)) (pxJ (pxG 0 num (x - 1))) = some (jw_setI h 569 (x - 1).toNat (pxJ (pxG 0 num (x - 1)))) := px_si (by rw [t20]) (by omega) (by rw [t20]; show x - 1 < ((40 : Nat) : Int); omega) (by omega)
      have w01 : (jw_t (jw_setI h 569 (x - 1).toNat (pxJ (pxG 0 num (x - 1)))) 559).1 = 10 := w0
      have w91 : jw_r (jw_setI h 569 (x - 1).toNat (pxJ (pxG 0 num (x - 1)))) 559 9 = some 569 := w9
      have si2 : jw_si (jw_setI h 569 (x - 1).toNat (pxJ (pxG 0 num (x - 1)))) 20 (some 569) (pxJ (x - 2)) (pxJ (pxG 0 num x)) = some (jw_setI (jw_setI h 569 (x - 1).toNat (pxJ (pxG 0 num (x - 1)))) 569 (x - 2).toNat (pxJ (pxG 0 num x))) := px_si (by show (jw_t h 569).1 = 20; rw [t20]) (by omega) (by show x - 2 < ((jw_t h 569).2 : Int); rw [t20]; show x - 2 < ((40 : Nat) : Int); omega) (by omega)
      simp (maxSteps := 4000000) (disch := first | assumption | omega | (simp only [jw_t_I, px_cpt]; done) | (simp only [jw_t_I, px_cpt]; omega)) only [pxL0, pxL1, pxL2, pxL3, pxL4, pxL5, pxL6, pxL7, pxL8, pxL9, pxL10, pxL11, pxL12, pxL13, pxL14, pxL15, pxL16, pxL17, pxL18, pxL19, pxL20, pxL21, pxL22, pxL23, pxL24, pxL25, pxL26, pxL27, pxL28, pxL29, pxL30, pxL31, pxL32, pxL33, pxL34, pxL35, pxL36, pxL37, pxL38, pxL39, pxL40, pxL41, pxL42, pxL43, pxL44, pxL45, pxL46, pxL47, pxL48, pxL49, pxL51, pxL57, pxL58, pxL59, pxL60, pxL61, pxL62, pxL63, pxL64, pxL65, pxL66, pxL67, pxL68, pxL69, pxL70, pxL71, pxL72, pxL73, pxL74, pxL75, pxL76, pxL77, pxL78, pxL79, pxL80, pxL81, pxL82, pxL83, pxL84, pxL85, pxL86, pxL87, pxL88, pxL89, pxL90, pxL91, pxL92, pxL93, pxL94, pxL95, pxL96, pxL97, pxL98, pxL99, pxL100, pxL101, pxL102, pxL103, pxL104, pxL105, pxL106, pxL107, pxL108, pxL109, pxL110, pxL111, pxL112, pxL113, pxL114, pxL115, pxL116, pxL117, pxL118, pxL119, pxL120, pxL121, pxL122, pxL123, pxL124, pxL125, pxL126, pxL200, pxL240, pxL287, pxL388, pxL400, pxL429, pxL431, pxL440, pxL1240, pxL1600, pxL1681, pxL12028, pxL13849, pxL14880, pxL25173, pxL26908, pxL49600, pxL65535, pxL65536, ↓reduceIte, reduceCtorEq, pxJ_add, pxJ_sub, pxJ_mul, pxJ_neg, pxD_lt_t, pxD_lt_f, pxD_le_t, pxD_le_f, pxD_eq_t, pxD_eq_f, pxJ_lt, pxJ_le, pxJ_eq, px_gI, px_gR, px_pI, px_rc, px_ai, px_ar, px_si, px_ln, px_cp, pxJ_div, pxJ_b8, pxJ_byte, px_b2, px_bs, px_rb0, px_rb1, px_min, px_max, px_compare, pxW_some, jw_t_I, px_cpt, jw_r_I, px_cpr, jw_l_I, px_cpl, Option.some.injEq, w0, w9, si1, w01, w91, si2]
      rw [show x + -1 = x - 1 by omega]
    have stay : ∃ h' num', g_X10_sort_b146 k24 h 559 (pxJ place) (pxJ (if fall = true then 1 else 0)) x3 = k24 h' 559 (pxJ place) (pxJ (if fall = true then 1 else 0)) (x3 + 1) ∧ pxF pxQ9 h h' ∧ pxNumA h' num' ∧ num'.length = ls.length ∧ pxNb num' ls.length ∧ num'.map (pxAt ls) = num.map (pxAt ls) := ⟨h, num, rfl, pxF.rfl, A, nl, nb, rfl⟩
    unfold g_X10_sort_b44
    cases fall with
    | false =>
      simp only [Bool.false_eq_true, ↓reduceIte] at swp stay ⊢
      by_cases d : 0 < cmp
      · rw [decide_eq_true d, if_pos rfl]
        simp (maxSteps := 4000000) (disch := first | assumption | omega | (simp only [jw_t_I, px_cpt]; done) | (simp only [jw_t_I, px_cpt]; omega)) only [pxL0, pxL1, pxL2, pxL3, pxL4, pxL5, pxL6, pxL7, pxL8, pxL9, pxL10, pxL11, pxL12, pxL13, pxL14, pxL15, pxL16, pxL17, pxL18, pxL19, pxL20, pxL21, pxL22, pxL23, pxL24, pxL25, pxL26, pxL27, pxL28, pxL29, pxL30, pxL31, pxL32, pxL33, pxL34, pxL35, pxL36, pxL37, pxL38, pxL39, pxL40, pxL41, pxL42, pxL43, pxL44, pxL45, pxL46, pxL47, pxL48, pxL49, pxL51, pxL57, pxL58, pxL59, pxL60, pxL61, pxL62, pxL63, pxL64, pxL65, pxL66, pxL67, pxL68, pxL69, pxL70, pxL71, pxL72, pxL73, pxL74, pxL75, pxL76, pxL77, pxL78, pxL79, pxL80, pxL81, pxL82, pxL83, pxL84, pxL85, pxL86, pxL87, pxL88, pxL89, pxL90, pxL91, pxL92, pxL93, pxL94, pxL95, pxL96, pxL97, pxL98, pxL99, pxL100, pxL101, pxL102, pxL103, pxL104, pxL105, pxL106, pxL107, pxL108, pxL109, pxL110, pxL111, pxL112, pxL113, pxL114, pxL115, pxL116, pxL117, pxL118, pxL119, pxL120, pxL121, pxL122, pxL123, pxL124, pxL125, pxL126, pxL200, pxL240, pxL287, pxL388, pxL400, pxL429, pxL431, pxL440, pxL1240, pxL1600, pxL1681, pxL12028, pxL13849, pxL14880, pxL25173, pxL26908, pxL49600, pxL65535, pxL65536, ↓reduceIte, reduceCtorEq, pxJ_add, pxJ_sub, pxJ_mul, pxJ_neg, pxD_lt_t, pxD_lt_f, pxD_le_t, pxD_le_f, pxD_eq_t, pxD_eq_f, pxJ_lt, pxJ_le, pxJ_eq, px_gI, px_gR, px_pI, px_rc, px_ai, px_ar, px_si, px_ln, px_cp, pxJ_div, pxJ_b8, pxJ_byte, px_b2, px_bs, px_rb0, px_rb1, px_min, px_max, px_compare, pxW_some, jw_t_I, px_cpt, jw_r_I, px_cpr, jw_l_I, px_cpl, Option.some.injEq, w0, rf, w9, ai1, ai2, w1, t9, r0, t7, cf]
        exact swp
      · rw [decide_eq_false d, if_neg (show ¬ (false = true) by simp)]
        simp (maxSteps := 4000000) (disch := first | assumption | omega | (simp only [jw_t_I, px_cpt]; done) | (simp only [jw_t_I, px_cpt]; omega)) only [pxL0, pxL1, pxL2, pxL3, pxL4, pxL5, pxL6, pxL7, pxL8, pxL9, pxL10, pxL11, pxL12, pxL13, pxL14, pxL15, pxL16, pxL17, pxL18, pxL19, pxL20, pxL21, pxL22, pxL23, pxL24, pxL25, pxL26, pxL27, pxL28, pxL29, pxL30, pxL31, pxL32, pxL33, pxL34, pxL35, pxL36, pxL37, pxL38, pxL39, pxL40, pxL41, pxL42, pxL43, pxL44, pxL45, pxL46, pxL47, pxL48, pxL49, pxL51, pxL57, pxL58, pxL59, pxL60, pxL61, pxL62, pxL63, pxL64, pxL65, pxL66, pxL67, pxL68, pxL69, pxL70, pxL71, pxL72, pxL73, pxL74, pxL75, pxL76, pxL77, pxL78, pxL79, pxL80, pxL81, pxL82, pxL83, pxL84, pxL85, pxL86, pxL87, pxL88, pxL89, pxL90, pxL91, pxL92, pxL93, pxL94, pxL95, pxL96, pxL97, pxL98, pxL99, pxL100, pxL101, pxL102, pxL103, pxL104, pxL105, pxL106, pxL107, pxL108, pxL109, pxL110, pxL111, pxL112, pxL113, pxL114, pxL115, pxL116, pxL117, pxL118, pxL119, pxL120, pxL121, pxL122, pxL123, pxL124, pxL125, pxL126, pxL200, pxL240, pxL287, pxL388, pxL400, pxL429, pxL431, pxL440, pxL1240, pxL1600, pxL1681, pxL12028, pxL13849, pxL14880, pxL25173, pxL26908, pxL49600, pxL65535, pxL65536, ↓reduceIte, reduceCtorEq, pxJ_add, pxJ_sub, pxJ_mul, pxJ_neg, pxD_lt_t, pxD_lt_f, pxD_le_t, pxD_le_f, pxD_eq_t, pxD_eq_f, pxJ_lt, pxJ_le, pxJ_eq, px_gI, px_gR, px_pI, px_rc, px_ai, px_ar, px_si, px_ln, px_cp, pxJ_div, pxJ_b8, pxJ_byte, px_b2, px_bs, px_rb0, px_rb1, px_min, px_max, px_compare, pxW_some, jw_t_I, px_cpt, jw_r_I, px_cpr, jw_l_I, px_cpl, Option.some.injEq, w0, rf, w9, ai1, ai2, w1, t9, r0, t7, cf]
        exact stay
    | true =>
      simp only [↓reduceIte] at swp stay ⊢
      by_cases d : cmp < 0
      · rw [decide_eq_true d, if_pos rfl]
        simp (maxSteps := 4000000) (disch := first | assumption | omega | (simp only [jw_t_I, px_cpt]; done) | (simp only [jw_t_I, px_cpt]; omega)) only [pxL0, pxL1, pxL2, pxL3, pxL4, pxL5, pxL6, pxL7, pxL8, pxL9, pxL10, pxL11, pxL12, pxL13, pxL14, pxL15, pxL16, pxL17, pxL18, pxL19, pxL20, pxL21, pxL22, pxL23, pxL24, pxL25, pxL26, pxL27, pxL28, pxL29, pxL30, pxL31, pxL32, pxL33, pxL34, pxL35, pxL36, pxL37, pxL38, pxL39, pxL40, pxL41, pxL42, pxL43, pxL44, pxL45, pxL46, pxL47, pxL48, pxL49, pxL51, pxL57, pxL58, pxL59, pxL60, pxL61, pxL62, pxL63, pxL64, pxL65, pxL66, pxL67, pxL68, pxL69, pxL70, pxL71, pxL72, pxL73, pxL74, pxL75, pxL76, pxL77, pxL78, pxL79, pxL80, pxL81, pxL82, pxL83, pxL84, pxL85, pxL86, pxL87, pxL88, pxL89, pxL90, pxL91, pxL92, pxL93, pxL94, pxL95, pxL96, pxL97, pxL98, pxL99, pxL100, pxL101, pxL102, pxL103, pxL104, pxL105, pxL106, pxL107, pxL108, pxL109, pxL110, pxL111, pxL112, pxL113, pxL114, pxL115, pxL116, pxL117, pxL118, pxL119, pxL120, pxL121, pxL122, pxL123, pxL124, pxL125, pxL126, pxL200, pxL240, pxL287, pxL388, pxL400, pxL429, pxL431, pxL440, pxL1240, pxL1600, pxL1681, pxL12028, pxL13849, pxL14880, pxL25173, pxL26908, pxL49600, pxL65535, pxL65536, ↓reduceIte, reduceCtorEq, pxJ_add, pxJ_sub, pxJ_mul, pxJ_neg, pxD_lt_t, pxD_lt_f, pxD_le_t, pxD_le_f, pxD_eq_t, pxD_eq_f, pxJ_lt, pxJ_le, pxJ_eq, px_gI, px_gR, px_pI, px_rc, px_ai, px_ar, px_si, px_ln, px_cp, pxJ_div, pxJ_b8, pxJ_byte, px_b2, px_bs, px_rb0, px_rb1, px_min, px_max, px_compare, pxW_some, jw_t_I, px_cpt, jw_r_I, px_cpr, jw_l_I, px_cpl, Option.some.injEq, w0, rf, w9, ai1, ai2, w1, t9, r0, t7, cf]
        exact swp
      · rw [decide_eq_false d, if_neg (show ¬ (false = true) by simp)]
        simp (maxSteps := 4000000) (disch := first | assumption | omega | (simp only [jw_t_I, px_cpt]; done) | (simp only [jw_t_I, px_cpt]; omega)) only [pxL0, pxL1, pxL2, pxL3, pxL4, pxL5, pxL6, pxL7, pxL8, pxL9, pxL10, pxL11, pxL12, pxL13, pxL14, pxL15, pxL16, pxL17, pxL18, pxL19, pxL20, pxL21, pxL22, pxL23, pxL24, pxL25, pxL26, pxL27, pxL28, pxL29, pxL30, pxL31, pxL32, pxL33, pxL34, pxL35, pxL36, pxL37, pxL38, pxL39, pxL40, pxL41, pxL42, pxL43, pxL44, pxL45, pxL46, pxL47, pxL48, pxL49, pxL51, pxL57, pxL58, pxL59, pxL60, pxL61, pxL62, pxL63, pxL64, pxL65, pxL66, pxL67, pxL68, pxL69, pxL70, pxL71, pxL72, pxL73, pxL74, pxL75, pxL76, pxL77, pxL78, pxL79, pxL80, pxL81, pxL82, pxL83, pxL84, pxL85, pxL86, pxL87, pxL88, pxL89, pxL90, pxL91, pxL92, pxL93, pxL94, pxL95, pxL96, pxL97, pxL98, pxL99, pxL100, pxL101, pxL102, pxL103, pxL104, pxL105, pxL106, pxL107, pxL108, pxL109, pxL110, pxL111, pxL112, pxL113, pxL114, pxL115, pxL116, pxL117, pxL118, pxL119, pxL120, pxL121, pxL122, pxL123, pxL124, pxL125, pxL126, pxL200, pxL240, pxL287, pxL388, pxL400, pxL429, pxL431, pxL440, pxL1240, pxL1600, pxL1681, pxL12028, pxL13849, pxL14880, pxL25173, pxL26908, pxL49600, pxL65535, pxL65536, ↓reduceIte, reduceCtorEq, pxJ_add, pxJ_sub, pxJ_mul, pxJ_neg, pxD_lt_t, pxD_lt_f, pxD_le_t, pxD_le_f, pxD_eq_t, pxD_eq_f, pxJ_lt, pxJ_le, pxJ_eq, px_gI, px_gR, px_pI, px_rc, px_ai, px_ar, px_si, px_ln, px_cp, pxJ_div, pxJ_b8, pxJ_byte, px_b2, px_bs, px_rb0, px_rb1, px_min, px_max, px_compare, pxW_some, jw_t_I, px_cpt, jw_r_I, px_cpr, jw_l_I, px_cpl, Option.some.injEq, w0, rf, w9, ai1, ai2, w1, t9, r0, t7, cf]
        exact stay
theorem s_X10_sort_b24 {f l place : Int} {fall : Bool} (f1 : 1 ≤ f) (l1 : l ≤ ls.length) (p0 : 0 ≤ place) (p1 : place ≤ 99) (n40 : ls.length ≤ 40) : ∀ (m N : Nat) (h : jw_H) (x : Int) (num : List Int), x + m = l + 1 → m < N → f < x → num.length = ls.length → pxNb num ls.length → pxWF h → pxRn h f l → pxIT h 255 ls mk now nx → pxSX h 563 → pxNumA h num →
    pxW (f_X10_sort_b24 N h 559 (pxJ place) (pxJ (if fall = true then 1 else 0)) (pxJ x)) fun q h' => pxF pxQn9 h h' ∧ q = pxJ 0 ∧ pxIT h' 255 (pxSort place fall f m x (num.map (pxAt ls))) mk l nx ∧ pxSX h' 563 := by
  intro m
  induction m with
  | zero =>
    intro N h x num em hN fx nl nb W Rn H X A
    obtain ⟨N, rfl, hN⟩ := px_fu hN
    have w0 := W.1
    have w1 := W.2.2.1
    have w8 := W.2.2.2.2.2.2.2.2.2.1
    have w9 := W.2.2.2.2.2.2.2.2.2.2.1
    have t20 := W.2.2.2.2.2.2.2.2.2.2.2.2.1
    have t9 := H.1.1
    obtain ⟨rf, rl⟩ := Rn
    rw [u_X10_sort_b24]
    unfold g_X10_sort_b24 g_X10_sort_b152
    simp (maxSteps := 4000000) (disch := first | assumption | omega | (simp only [jw_t_I, px_cpt]; done) | (simp only [jw_t_I, px_cpt]; omega)) only [pxL0, pxL1, pxL2, pxL3, pxL4, pxL5, pxL6, pxL7, pxL8, pxL9, pxL10, pxL11, pxL12, pxL13, pxL14, pxL15, pxL16, pxL17, pxL18, pxL19, pxL20, pxL21, pxL22, pxL23, pxL24, pxL25, pxL26, pxL27, pxL28, pxL29, pxL30, pxL31, pxL32, pxL33, pxL34, pxL35, pxL36, pxL37, pxL38, pxL39, pxL40, pxL41, pxL42, pxL43, pxL44, pxL45, pxL46, pxL47, pxL48, pxL49, pxL51, pxL57, pxL58, pxL59, pxL60, pxL61, pxL62, pxL63, pxL64, pxL65, pxL66, pxL67, pxL68, pxL69, pxL70, pxL71, pxL72, pxL73, pxL74, pxL75, pxL76, pxL77, pxL78, pxL79, pxL80, pxL81, pxL82, pxL83, pxL84, pxL85, pxL86, pxL87, pxL88, pxL89, pxL90, pxL91, pxL92, pxL93, pxL94, pxL95, pxL96, pxL97, pxL98, pxL99, pxL100, pxL101, pxL102, pxL103, pxL104, pxL105, pxL106, pxL107, pxL108, pxL109, pxL110, pxL111, pxL112, pxL113, pxL114, pxL115, pxL116, pxL117, pxL118, pxL119, pxL120, pxL121, pxL122, pxL123, pxL124, pxL125, pxL126, pxL200, pxL240, pxL287, pxL388, pxL400, pxL429, pxL431, pxL440, pxL1240, pxL1600, pxL1681, pxL12028, pxL13849, pxL14880, pxL25173, pxL26908, pxL49600, pxL65535, pxL65536, ↓reduceIte, reduceCtorEq, pxJ_add, pxJ_sub, pxJ_mul, pxJ_neg, pxD_lt_t, pxD_lt_f, pxD_le_t, pxD_le_f, pxD_eq_t, pxD_eq_f, pxJ_lt, pxJ_le, pxJ_eq, px_gI, px_gR, px_pI, px_rc, px_ai, px_ar, px_si, px_ln, px_cp, pxJ_div, pxJ_b8, pxJ_byte, px_b2, px_bs, px_rb0, px_rb1, px_min, px_max, px_compare, pxW_some, jw_t_I, px_cpt, jw_r_I, px_cpr, jw_l_I, px_cpl, Option.some.injEq, w0, rl, w1, w9, w8, t9]
    refine pxW_b2 (s_X9_arrange (ν := 569) (sp := 563) (by omega) (by omega) (by omega) nl (fun x x1 x2 => nb x x1 (by omega)) H X t20 (fun y y1 y2 => A.2 y y1 (by omega))) fun _ h2 k => ?_
    obtain ⟨F2, H2, X2⟩ := k
    have W2 := W.f9 F2 (fun f => by unfold pxC; omega)
    have w02 := W2.1
    have w12 := W2.2.2.1
    have t92 := H2.1.1
    have rl2 : pxM h2 559 13 = l := by rw [F2.m (by unfold pxC; omega)]; exact rl
    have F3 : pxF (fun k f => k = 255 ∧ f = 3) h2 (jw_setI h2 255 3 (pxJ l)) := pxF.setI ⟨rfl, rfl⟩
    simp (maxSteps := 4000000) (disch := first | assumption | omega | (simp only [jw_t_I, px_cpt]; done) | (simp only [jw_t_I, px_cpt]; omega)) only [pxL0, pxL1, pxL2, pxL3, pxL4, pxL5, pxL6, pxL7, pxL8, pxL9, pxL10, pxL11, pxL12, pxL13, pxL14, pxL15, pxL16, pxL17, pxL18, pxL19, pxL20, pxL21, pxL22, pxL23, pxL24, pxL25, pxL26, pxL27, pxL28, pxL29, pxL30, pxL31, pxL32, pxL33, pxL34, pxL35, pxL36, pxL37, pxL38, pxL39, pxL40, pxL41, pxL42, pxL43, pxL44, pxL45, pxL46, pxL47, pxL48, pxL49, pxL51, pxL57, pxL58, pxL59, pxL60, pxL61, pxL62, pxL63, pxL64, pxL65, pxL66, pxL67, pxL68, pxL69, pxL70, pxL71, pxL72, pxL73, pxL74, pxL75, pxL76, pxL77, pxL78, pxL79, pxL80, pxL81, pxL82, pxL83, pxL84, pxL85, pxL86, pxL87, pxL88, pxL89, pxL90, pxL91, pxL92, pxL93, pxL94, pxL95, pxL96, pxL97, pxL98, pxL99, pxL100, pxL101, pxL102, pxL103, pxL104, pxL105, pxL106, pxL107, pxL108, pxL109, pxL110, pxL111, pxL112, pxL113, pxL114, pxL115, pxL116, pxL117, pxL118, pxL119, pxL120, pxL121, pxL122, pxL123, pxL124, pxL125, pxL126, pxL200, pxL240, pxL287, pxL388, pxL400, pxL429, pxL431, pxL440, pxL1240, pxL1600, pxL1681, pxL12028, pxL13849, pxL14880, pxL25173, pxL26908, pxL49600, pxL65535, pxL65536, ↓reduceIte, reduceCtorEq, pxJ_add, pxJ_sub, pxJ_mul, pxJ_neg, pxD_lt_t, pxD_lt_f, pxD_le_t, pxD_le_f, pxD_eq_t, pxD_eq_f, pxJ_lt, pxJ_le, pxJ_eq, px_gI, px_gR, px_pI, px_rc, px_ai, px_ar, px_si, px_ln, px_cp, pxJ_div, pxJ_b8, pxJ_byte, px_b2, px_bs, px_rb0, px_rb1, px_min, px_max, px_compare, pxW_some, jw_t_I, px_cpt, jw_r_I, px_cpr, jw_l_I, px_cpl, Option.some.injEq, w02, w12, t92, rl2]
    exact ⟨(F2.mono (fun k f z => by unfold pxC at z; unfold pxQn9; omega)).trans (F3.mono (fun k f z => by unfold pxQn9; omega)), trivial, H2.now3 (by omega) (by omega), X2.fr F3 (fun k f _ _ => by omega)⟩
  | succ m ih =>
    intro N h x num em hN fx nl nb W Rn H X A
    obtain ⟨N, rfl, hN⟩ := px_fu hN
    have w0 := W.1
    have w9 := W.2.2.2.2.2.2.2.2.2.2.1
    have t20 := W.2.2.2.2.2.2.2.2.2.2.2.2.1
    obtain ⟨rf, rl⟩ := id Rn
    have ln : jw_ln h (some 569) = some (pxJ 40) := by rw [px_ln (by rw [t20]; simp), t20]; rfl
    obtain ⟨h1, num1, v1, v2, v3, v4, v5, v6⟩ := s_X10_sort_b44 (k24 := f_X10_sort_b24 N) (fall := fall) (x3 := pxJ x) f1 p0 p1 n40 (x - f).toNat jw_FU h x num (by omega) (by unfold jw_FU; omega) (by omega) nl nb W rf H A
    rw [show (1 : Int32) = pxJ 1 from rfl, pxJ_add] at v1
    have eS : pxSort place fall f (m + 1) x (num.map (pxAt ls)) = pxSort place fall f m (x + 1) (num1.map (pxAt ls)) := by rw [v6]; rfl
    rw [eS, u_X10_sort_b24]
    unfold g_X10_sort_b24
    simp (maxSteps := 4000000) (disch := first | assumption | omega | (simp only [jw_t_I, px_cpt]; done) | (simp only [jw_t_I, px_cpt]; omega)) only [pxL0, pxL1, pxL2, pxL3, pxL4, pxL5, pxL6, pxL7, pxL8, pxL9, pxL10, pxL11, pxL12, pxL13, pxL14, pxL15, pxL16, pxL17, pxL18, pxL19, pxL20, pxL21, pxL22, pxL23, pxL24, pxL25, pxL26, pxL27, pxL28, pxL29, pxL30, pxL31, pxL32, pxL33, pxL34, pxL35, pxL36, pxL37, pxL38, pxL39, pxL40, pxL41, pxL42, pxL43, pxL44, pxL45, pxL46, pxL47, pxL48, pxL49, pxL51, pxL57, pxL58, pxL59, pxL60, pxL61, pxL62, pxL63, pxL64, pxL65, pxL66, pxL67, pxL68, pxL69, pxL70, pxL71, pxL72, pxL73, pxL74, pxL75, pxL76, pxL77, pxL78, pxL79, pxL80, pxL81, pxL82, pxL83, pxL84, pxL85, pxL86, pxL87, pxL88, pxL89, pxL90, pxL91, pxL92, pxL93, pxL94, pxL95, pxL96, pxL97, pxL98, pxL99, pxL100, pxL101, pxL102, pxL103, pxL104, pxL105, pxL106, pxL107, pxL108, pxL109, pxL110, pxL111, pxL112, pxL113, pxL114, pxL115, pxL116, pxL117, pxL118, pxL119, pxL120, pxL121, pxL122, pxL123, pxL124, pxL125, pxL126, pxL200, pxL240, pxL287, pxL388, pxL400, pxL429, pxL431, pxL440, pxL1240, pxL1600, pxL1681, pxL12028, pxL13849, pxL14880, pxL25173, pxL26908, pxL49600, pxL65535, pxL65536, ↓reduceIte, reduceCtorEq, pxJ_add, pxJ_sub, pxJ_mul, pxJ_neg, pxD_lt_t, pxD_lt_f, pxD_le_t, pxD_le_f, pxD_eq_t, pxD_eq_f, pxJ_lt, pxJ_le, pxJ_eq, px_gI, px_gR, px_pI, px_rc, px_ai, px_ar, px_si, px_ln, px_cp, pxJ_div, pxJ_b8, pxJ_byte, px_b2, px_bs, px_rb0, px_rb1, px_min, px_max, px_compare, pxW_some, jw_t_I, px_cpt, jw_r_I, px_cpr, jw_l_I, px_cpl, Option.some.injEq, w0, rl, w9, ln, v1]
    exact (ih N h1 (x + 1) num1 (by omega) (by omega) (by omega) v4 v5 (W.f9 v2 (fun f => by unfold pxQ9; omega)) (Rn.fr v2 (fun f => by unfold pxQ9; omega)) (H.fr v2 (fun k f _ _ => by unfold pxQ9; omega)) (X.fr v2 (fun k f _ _ => by unfold pxQ9; omega)) v3).mono fun q h' k => ⟨(v2.mono (fun k f z => by unfold pxQ9 at z; unfold pxQn9; omega)).trans k.1, k.2⟩
theorem s_X10_sort {h : jw_H} {f l place : Int} {fall : Bool} (W : pxWF h) (Rn : pxRn h f l) (H : pxIT h 255 ls mk now nx) (X : pxSX h 563) (f1 : 1 ≤ f) (fl : f ≤ l) (l1 : l ≤ ls.length) (p0 : 0 ≤ place) (p1 : place ≤ 99) :
    pxW (f_X10_sort h 559 (pxJ place) (pxJ (if fall = true then 1 else 0))) fun q h' => pxF pxQn9 h h' ∧ q = pxJ 0 ∧ pxIX h' (pxSpSort place fall f l (ls, mk, now, nx)) ∧ pxSX h' 563 := by
  have l40 := H.len
  have w0 := W.1
  have w1 := W.2.2.1
  have t9 := H.1.1
  have r0 := H.1.2.1
  have t7 := H.2.1.1.1
  have c2 := H.c2
  have A0 : pxNumA h [] := ⟨by simp, fun y y1 y2 => by simp at y2; omega⟩
  obtain ⟨rf, rl⟩ := id Rn
  obtain ⟨h1, v1, v2, v3⟩ := s_X10_lineUp (a := 1) (b := ls.length) (num := []) (by omega) (by omega) (by omega) (by simp; omega) W A0
  rw [List.nil_append] at v1 v3
  have W1 := W.f9 v2 (fun f => by unfold pxQ9; omega)
  have Rn1 := Rn.fr v2 (fun f => by unfold pxQ9; omega)
  have w01 := W1.1
  have rf1 := Rn1.1
  have v1' : f_X10_lineUp h 559 (pxJ 0) (pxJ 1) (pxJ ls.length) = _ := v1
  have nl : (pxUp 1 (ls.length - 1 + 1 : Int).toNat).length = ls.length := by rw [pxUp_len]; omega
  have y := s_X10_sort_b24 (ls := ls) (mk := mk) (now := now) (nx := nx) (fall := fall) (place := place) f1 l1 p0 p1 l40 (l - f).toNat jw_FU h1 (f + 1) (pxUp 1 (ls.length - 1 + 1 : Int).toNat) (by omega) (by unfold jw_FU; omega) (by omega) nl (fun x x1 x2 => by rw [pxUp_at _ _ _ x1 (by omega)]; omega) W1 Rn1 (H.fr v2 (fun k f _ _ => by unfold pxQ9; omega)) (X.fr v2 (fun k f _ _ => by unfold pxQ9; omega)) v3
  have eI : (pxUp 1 (ls.length - 1 + 1 : Int).toNat).map (pxAt ls) = ls := by
    refine pxG_ext (d := (0, [])) (by rw [List.length_map]; exact nl) (fun y y1 y2 => ?_)
    rw [List.length_map] at y2
    rw [pxG_mapi (d := (0 : Int)) y1 y2, pxUp_at _ _ _ y1 (by omega), show (1 : Int) + y - 1 = y by omega]
    rfl
  rw [eI] at y
  unfold f_X10_sort
  simp (maxSteps := 4000000) (disch := first | assumption | omega | (simp only [jw_t_I, px_cpt]; done) | (simp only [jw_t_I, px_cpt]; omega)) only [pxL0, pxL1, pxL2, pxL3, pxL4, pxL5, pxL6, pxL7, pxL8, pxL9, pxL10, pxL11, pxL12, pxL13, pxL14, pxL15, pxL16, pxL17, pxL18, pxL19, pxL20, pxL21, pxL22, pxL23, pxL24, pxL25, pxL26, pxL27, pxL28, pxL29, pxL30, pxL31, pxL32, pxL33, pxL34, pxL35, pxL36, pxL37, pxL38, pxL39, pxL40, pxL41, pxL42, pxL43, pxL44, pxL45, pxL46, pxL47, pxL48, pxL49, pxL51, pxL57, pxL58, pxL59, pxL60, pxL61, pxL62, pxL63, pxL64, pxL65, pxL66, pxL67, pxL68, pxL69, pxL70, pxL71, pxL72, pxL73, pxL74, pxL75, pxL76, pxL77, pxL78, pxL79, pxL80, pxL81, pxL82, pxL83, pxL84, pxL85, pxL86, pxL87, pxL88, pxL89, pxL90, pxL91, pxL92, pxL93, pxL94, pxL95, pxL96, pxL97, pxL98, pxL99, pxL100, pxL101, pxL102, pxL103, pxL104, pxL105, pxL106, pxL107, pxL108, pxL109, pxL110, pxL111, pxL112, pxL113, pxL114, pxL115, pxL116, pxL117, pxL118, pxL119, pxL120, pxL121, pxL122, pxL123, pxL124, pxL125, pxL126, pxL200, pxL240, pxL287, pxL388, pxL400, pxL429, pxL431, pxL440, pxL1240, pxL1600, pxL1681, pxL12028, pxL13849, pxL14880, pxL25173, pxL26908, pxL49600, pxL65535, pxL65536, ↓reduceIte, reduceCtorEq, pxJ_add, pxJ_sub, pxJ_mul, pxJ_neg, pxD_lt_t, pxD_lt_f, pxD_le_t, pxD_le_f, pxD_eq_t, pxD_eq_f, pxJ_lt, pxJ_le, pxJ_eq, px_gI, px_gR, px_pI, px_rc, px_ai, px_ar, px_si, px_ln, px_cp, pxJ_div, pxJ_b8, pxJ_byte, px_b2, px_bs, px_rb0, px_rb1, px_min, px_max, px_compare, pxW_some, jw_t_I, px_cpt, jw_r_I, px_cpr, jw_l_I, px_cpl, Option.some.injEq, w0, w1, t9, r0, t7, c2, v1', w01, rf1]
  exact y.mono fun q h' k => ⟨(v2.mono (fun k f z => by unfold pxQ9 at z; unfold pxQn9; omega)).trans k.1, k.2⟩
end
