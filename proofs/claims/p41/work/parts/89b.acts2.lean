/-! orders over the whole: lines joined, parted, left out -/
theorem pxDrop_set {α : Type} {l : List α} {x : Int} {a : α} {k : Nat} (x1 : 1 ≤ x) (hk : x ≤ k) : (pxSet l x a).drop k = l.drop k := by
  unfold pxSet; rw [List.drop_set_of_lt (by omega)]
theorem pxIns_set {α : Type} {d : α} {l m : List α} {x y : Int} {a : α} (x1 : 1 ≤ x) (xy : x < y) (y1 : y ≤ l.length + 1) : pxIns (pxSet l x a) y m = pxSet (pxIns l y m) x a := by
  refine pxG_ext (d := d) ?_ (fun z z1 z2 => ?_)
  · rw [pxSet_len, pxIns_len, pxIns_len, pxSet_len]
  · rw [pxIns_len, pxSet_len] at z2
    by_cases e : z = x
    · subst e
      rw [pxIns_lo z1 xy (by rw [pxSet_len]; omega), pxG_setE z1 (by omega), pxG_setE z1 (by rw [pxIns_len]; omega)]
    · rw [pxG_setN x1 z1 e]
      by_cases c1 : z < y
      · rw [pxIns_lo z1 c1 (by rw [pxSet_len]; omega), pxIns_lo z1 c1 y1, pxG_setN x1 z1 e]
      · by_cases c2 : z < y + m.length
        · rw [pxIns_in (by omega) c2 (by rw [pxSet_len]; omega) (by omega), pxIns_in (by omega) c2 y1 (by omega)]
        · rw [pxIns_hi (by omega) (by rw [pxSet_len]; omega) (by omega), pxIns_hi (by omega) y1 (by omega), pxG_setN x1 (by omega) (by omega)]
theorem pxSet_self {ls : pxLs} {x : Int} (h2 : x ≤ ls.length) : pxSet ls x (pxId ls x, pxRw (pxRs ls) x) = ls := by
  rw [pxRs_at]
  unfold pxSet pxId pxAt pxG
  show ls.set (x - 1).toNat (ls.getD (x - 1).toNat (0, [])) = ls
  by_cases c : (x - 1).toNat < ls.length
  · rw [List.getD_eq_getElem?_getD, List.getElem?_eq_getElem c]
    exact List.set_getElem_self c
  · rw [List.set_eq_of_length_le (by omega)]
theorem pxId_set {ls : pxLs} {x y id : Int} {r : List Int} (x1 : 1 ≤ x) (x2 : x ≤ ls.length) (y1 : 1 ≤ y) : pxId (pxSet ls x (id, r)) y = if y = x then id else pxId ls y := by
  unfold pxId pxAt
  by_cases e : y = x
  · subst e; rw [pxG_setE y1 x2, if_pos rfl]
  · rw [pxG_setN x1 y1 e, if_neg e]
theorem pxRw_set {rs : List (List Int)} {x y : Int} {r : List Int} (x1 : 1 ≤ x) (x2 : x ≤ rs.length) (y1 : 1 ≤ y) : pxRw (pxSet rs x r) y = if y = x then r else pxRw rs y := by
  unfold pxRw
  by_cases e : y = x
  · subst e; rw [pxG_setE y1 x2, if_pos rfl]
  · rw [pxG_setN x1 y1 e, if_neg e]
section
variable {ls : pxLs} {mk : Int → Int} {now nx : Int}
theorem s_X10_join_b48 {f e : Int} (f1 : 1 ≤ f) (fe : f < e) (e1 : e ≤ ls.length) (n40 : ls.length ≤ 40) : ∀ (m N : Nat) (h : jw_H) (x : Int) (w : List Int), x + m = e + 1 → m < N → f < x → w.length ≤ 30 → pxWF h → pxM h 559 12 = f → pxIT h 255 (pxSet ls f (pxId ls f, w)) mk now nx →
    (30 < (w ++ pxCat (pxRs ls) m x).length → pxW (f_X10_join_b48 N h 559 (pxJ e) (pxJ x)) fun q h' => pxF (pxC 255 260) h h' ∧ q = pxJ 4 ∧ ∃ ls', pxIT h' 255 ls' mk now nx) ∧
    (¬ 30 < (w ++ pxCat (pxRs ls) m x).length → pxW (f_X10_join_b48 N h 559 (pxJ e) (pxJ x)) fun q h' => pxF (pxC 255 260) h h' ∧ q = pxJ 0 ∧ pxIT h' 255 (pxDel (pxSet ls f (pxId ls f, w ++ pxCat (pxRs ls) m x)) (f + 1) (e - f)) (pxDms mk (pxSub ls (f + 1) e)) f nx) := by
  intro m
  induction m with
  | zero =>
    intro N h x w em hN fx w30 W rf H
    obtain ⟨N, rfl, hN⟩ := px_fu hN
    have w0 := W.1
    have w1 := W.2.2.1
    have t9 := H.1.1
    have ew : w ++ pxCat (pxRs ls) 0 x = w := List.append_nil _
    rw [ew]
    refine ⟨fun z => by omega, fun _ => ?_⟩
    have K := s_X9_cut H (x := f + 1) (n := e - f) (by omega) (by omega) (by rw [pxSet_len]; omega)
    rw [pxDrop_set f1 (by omega)] at K
    rw [u_X10_join_b48]
    unfold g_X10_join_b48
    simp (maxSteps := 4000000) (disch := first | assumption | omega | (simp only [jw_t_I, px_cpt]; done) | (simp only [jw_t_I, px_cpt]; omega)) only [pxL0, pxL1, pxL2, pxL3, pxL4, pxL5, pxL6, pxL7, pxL8, pxL9, pxL10, pxL11, pxL12, pxL13, pxL14, pxL15, pxL16, pxL17, pxL18, pxL19, pxL20, pxL21, pxL22, pxL23, pxL24, pxL25, pxL26, pxL27, pxL28, pxL29, pxL30, pxL31, pxL32, pxL33, pxL34, pxL35, pxL36, pxL37, pxL38, pxL39, pxL40, pxL41, pxL42, pxL43, pxL44, pxL45, pxL46, pxL47, pxL48, pxL49, pxL51, pxL57, pxL58, pxL59, pxL60, pxL61, pxL62, pxL63, pxL64, pxL65, pxL66, pxL67, pxL68, pxL69, pxL70, pxL71, pxL72, pxL73, pxL74, pxL75, pxL76, pxL77, pxL78, pxL79, pxL80, pxL81, pxL82, pxL83, pxL84, pxL85, pxL86, pxL87, pxL88, pxL89, pxL90, pxL91, pxL92, pxL93, pxL94, pxL95, pxL96, pxL97, pxL98, pxL99, pxL100, pxL101, pxL102, pxL103, pxL104, pxL105, pxL106, pxL107, pxL108, pxL109, pxL110, pxL111, pxL112, pxL113, pxL114, pxL115, pxL116, pxL117, pxL118, pxL119, pxL120, pxL121, pxL122, pxL123, pxL124, pxL125, pxL126, pxL200, pxL240, pxL287, pxL388, pxL400, pxL429, pxL431, pxL440, pxL1240, pxL1600, pxL1681, pxL12028, pxL13849, pxL14880, pxL25173, pxL26908, pxL49600, pxL65535, pxL65536, ↓reduceIte, reduceCtorEq, pxJ_add, pxJ_sub, pxJ_mul, pxJ_neg, pxD_lt_t, pxD_lt_f, pxD_le_t, pxD_le_f, pxD_eq_t, pxD_eq_f, pxJ_lt, pxJ_le, pxJ_eq, px_gI, px_gR, px_pI, px_rc, px_ai, px_ar, px_si, px_ln, px_cp, pxJ_div, pxJ_b8, pxJ_byte, px_b2, px_bs, px_rb0, px_rb1, px_min, px_max, px_compare, pxW_some, jw_t_I, px_cpt, jw_r_I, px_cpr, jw_l_I, px_cpl, Option.some.injEq, w0, w1, rf, t9]
    refine pxW_b2 K fun _ h1 k => ?_
    obtain ⟨F1, H1⟩ := k
    have W1 := W.f9 F1 (fun f => by unfold pxC; omega)
    have w01 := W1.1
    have w11 := W1.2.2.1
    have t91 := H1.1.1
    have rf1 : pxM h1 559 12 = f := by rw [F1.m (by unfold pxC; omega)]; exact rf
    have H2 := H1.now3 (v := f) (by omega) (by omega)
    have F2 : pxF (pxC 255 260) h1 (jw_setI h1 255 3 (pxJ f)) := pxF.setI (by unfold pxC; omega)
    simp (maxSteps := 4000000) (disch := first | assumption | omega | (simp only [jw_t_I, px_cpt]; done) | (simp only [jw_t_I, px_cpt]; omega)) only [pxL0, pxL1, pxL2, pxL3, pxL4, pxL5, pxL6, pxL7, pxL8, pxL9, pxL10, pxL11, pxL12, pxL13, pxL14, pxL15, pxL16, pxL17, pxL18, pxL19, pxL20, pxL21, pxL22, pxL23, pxL24, pxL25, pxL26, pxL27, pxL28, pxL29, pxL30, pxL31, pxL32, pxL33, pxL34, pxL35, pxL36, pxL37, pxL38, pxL39, pxL40, pxL41, pxL42, pxL43, pxL44, pxL45, pxL46, pxL47, pxL48, pxL49, pxL51, pxL57, pxL58, pxL59, pxL60, pxL61, pxL62, pxL63, pxL64, pxL65, pxL66, pxL67, pxL68, pxL69, pxL70, pxL71, pxL72, pxL73, pxL74, pxL75, pxL76, pxL77, pxL78, pxL79, pxL80, pxL81, pxL82, pxL83, pxL84, pxL85, pxL86, pxL87, pxL88, pxL89, pxL90, pxL91, pxL92, pxL93, pxL94, pxL95, pxL96, pxL97, pxL98, pxL99, pxL100, pxL101, pxL102, pxL103, pxL104, pxL105, pxL106, pxL107, pxL108, pxL109, pxL110, pxL111, pxL112, pxL113, pxL114, pxL115, pxL116, pxL117, pxL118, pxL119, pxL120, pxL121, pxL122, pxL123, pxL124, pxL125, pxL126, pxL200, pxL240, pxL287, pxL388, pxL400, pxL429, pxL431, pxL440, pxL1240, pxL1600, pxL1681, pxL12028, pxL13849, pxL14880, pxL25173, pxL26908, pxL49600, pxL65535, pxL65536, ↓reduceIte, reduceCtorEq, pxJ_add, pxJ_sub, pxJ_mul, pxJ_neg, pxD_lt_t, pxD_lt_f, pxD_le_t, pxD_le_f, pxD_eq_t, pxD_eq_f, pxJ_lt, pxJ_le, pxJ_eq, px_gI, px_gR, px_pI, px_rc, px_ai, px_ar, px_si, px_ln, px_cp, pxJ_div, pxJ_b8, pxJ_byte, px_b2, px_bs, px_rb0, px_rb1, px_min, px_max, px_compare, pxW_some, jw_t_I, px_cpt, jw_r_I, px_cpr, jw_l_I, px_cpl, Option.some.injEq, w01, w11, t91, rf1]
    refine ⟨F1.trans F2, trivial, ?_⟩
    unfold pxSub
    rw [show e - (f + 1) + 1 = e - f by omega]
    exact H2
  | succ m ih =>
    intro N h x w em hN fx w30 W rf H
    obtain ⟨N, rfl, hN⟩ := px_fu hN
    have w0 := W.1
    have w1 := W.2.2.1
    have t9 := H.1.1
    have r0 := H.1.2.1
    have t7 := H.2.1.1.1
    have eR : pxRs (pxSet ls f (pxId ls f, w)) = pxSet (pxRs ls) f w := pxRs_set
    have rl : ((pxRs ls).length : Int) = ls.length := by rw [pxRs_len]
    have K := s_X7_extend H.2.1 H.2.1 (x := f) (y := x) f1 (by rw [eR, pxSet_len]; omega) (by omega) (by rw [eR, pxSet_len]; omega)
    have e1' : pxRw (pxRs (pxSet ls f (pxId ls f, w))) f = w := by rw [eR, pxRw_set f1 (by omega) f1, if_pos rfl]
    have e2' : pxRw (pxRs (pxSet ls f (pxId ls f, w))) x = pxRw (pxRs ls) x := by rw [eR, pxRw_set f1 (by omega) (by omega), if_neg (by omega)]
    unfold pxLn at K
    rw [e1', e2'] at K
    have cat : pxCat (pxRs ls) (m + 1) x = pxRw (pxRs ls) x ++ pxCat (pxRs ls) m (x + 1) := rfl
    have len : (w ++ pxCat (pxRs ls) (m + 1) x) = (w ++ pxRw (pxRs ls) x) ++ pxCat (pxRs ls) m (x + 1) := by rw [cat, List.append_assoc]
    rw [len, u_X10_join_b48]
    unfold g_X10_join_b48
    simp (maxSteps := 4000000) (disch := first | assumption | omega | (simp only [jw_t_I, px_cpt]; done) | (simp only [jw_t_I, px_cpt]; omega)) only [pxL0, pxL1, pxL2, pxL3, pxL4, pxL5, pxL6, pxL7, pxL8, pxL9, pxL10, pxL11, pxL12, pxL13, pxL14, pxL15, pxL16, pxL17, pxL18, pxL19, pxL20, pxL21, pxL22, pxL23, pxL24, pxL25, pxL26, pxL27, pxL28, pxL29, pxL30, pxL31, pxL32, pxL33, pxL34, pxL35, pxL36, pxL37, pxL38, pxL39, pxL40, pxL41, pxL42, pxL43, pxL44, pxL45, pxL46, pxL47, pxL48, pxL49, pxL51, pxL57, pxL58, pxL59, pxL60, pxL61, pxL62, pxL63, pxL64, pxL65, pxL66, pxL67, pxL68, pxL69, pxL70, pxL71, pxL72, pxL73, pxL74, pxL75, pxL76, pxL77, pxL78, pxL79, pxL80, pxL81, pxL82, pxL83, pxL84, pxL85, pxL86, pxL87, pxL88, pxL89, pxL90, pxL91, pxL92, pxL93, pxL94, pxL95, pxL96, pxL97, pxL98, pxL99, pxL100, pxL101, pxL102, pxL103, pxL104, pxL105, pxL106, pxL107, pxL108, pxL109, pxL110, pxL111, pxL112, pxL113, pxL114, pxL115, pxL116, pxL117, pxL118, pxL119, pxL120, pxL121, pxL122, pxL123, pxL124, pxL125, pxL126, pxL200, pxL240, pxL287, pxL388, pxL400, pxL429, pxL431, pxL440, pxL1240, pxL1600, pxL1681, pxL12028, pxL13849, pxL14880, pxL25173, pxL26908, pxL49600, pxL65535, pxL65536, ↓reduceIte, reduceCtorEq, pxJ_add, pxJ_sub, pxJ_mul, pxJ_neg, pxD_lt_t, pxD_lt_f, pxD_le_t, pxD_le_f, pxD_eq_t, pxD_eq_f, pxJ_lt, pxJ_le, pxJ_eq, px_gI, px_gR, px_pI, px_rc, px_ai, px_ar, px_si, px_ln, px_cp, pxJ_div, pxJ_b8, pxJ_byte, px_b2, px_bs, px_rb0, px_rb1, px_min, px_max, px_compare, pxW_some, jw_t_I, px_cpt, jw_r_I, px_cpr, jw_l_I, px_cpl, Option.some.injEq, w0, w1, rf, t9, r0, t7]
    by_cases c : (w.length : Int) + (pxRw (pxRs ls) x).length ≤ 30
    · rw [if_pos c, if_pos c] at K
      have nxt : ∀ {h1 : jw_H}, pxF (pxC 256 258) h h1 → pxIR h1 256 40 (pxSet (pxRs (pxSet ls f (pxId ls f, w))) f (w ++ pxRw (pxRs ls) x)) → pxF (pxC 255 260) h h1 ∧ pxWF h1 ∧ pxM h1 559 12 = f ∧ pxIT h1 255 (pxSet ls f (pxId ls f, w ++ pxRw (pxRs ls) x)) mk now nx := by
        intro h1 F1 R1
        have H1 := H.row1 F1 (x := f) f1 (by rw [pxSet_len]; omega) R1
        rw [pxId_set f1 (by omega) f1, if_pos rfl, pxSet_set] at H1
        exact ⟨F1.mono (fun k f z => by unfold pxC at *; omega), W.f9 F1 (fun f => by unfold pxC; omega), by rw [F1.m (by unfold pxC; omega)]; exact rf, H1⟩
      have wl : (w ++ pxRw (pxRs ls) x).length ≤ 30 := by rw [List.length_append]; omega
      refine ⟨fun z => ?_, fun z => ?_⟩
      · refine pxW_b2 K fun q h1 k => ?_
        obtain ⟨F1, rfl, R1⟩ := k
        obtain ⟨Fa, Wa, ra, Ha⟩ := nxt F1 R1
        simp (maxSteps := 4000000) (disch := first | assumption | omega | (simp only [jw_t_I, px_cpt]; done) | (simp only [jw_t_I, px_cpt]; omega)) only [pxL0, pxL1, pxL2, pxL3, pxL4, pxL5, pxL6, pxL7, pxL8, pxL9, pxL10, pxL11, pxL12, pxL13, pxL14, pxL15, pxL16, pxL17, pxL18, pxL19, pxL20, pxL21, pxL22, pxL23, pxL24, pxL25, pxL26, pxL27, pxL28, pxL29, pxL30, pxL31, pxL32, pxL33, pxL34, pxL35, pxL36, pxL37, pxL38, pxL39, pxL40, pxL41, pxL42, pxL43, pxL44, pxL45, pxL46, pxL47, pxL48, pxL49, pxL51, pxL57, pxL58, pxL59, pxL60, pxL61, pxL62, pxL63, pxL64, pxL65, pxL66, pxL67, pxL68, pxL69, pxL70, pxL71, pxL72, pxL73, pxL74, pxL75, pxL76, pxL77, pxL78, pxL79, pxL80, pxL81, pxL82, pxL83, pxL84, pxL85, pxL86, pxL87, pxL88, pxL89, pxL90, pxL91, pxL92, pxL93, pxL94, pxL95, pxL96, pxL97, pxL98, pxL99, pxL100, pxL101, pxL102, pxL103, pxL104, pxL105, pxL106, pxL107, pxL108, pxL109, pxL110, pxL111, pxL112, pxL113, pxL114, pxL115, pxL116, pxL117, pxL118, pxL119, pxL120, pxL121, pxL122, pxL123, pxL124, pxL125, pxL126, pxL200, pxL240, pxL287, pxL388, pxL400, pxL429, pxL431, pxL440, pxL1240, pxL1600, pxL1681, pxL12028, pxL13849, pxL14880, pxL25173, pxL26908, pxL49600, pxL65535, pxL65536, ↓reduceIte, reduceCtorEq, pxJ_add, pxJ_sub, pxJ_mul, pxJ_neg, pxD_lt_t, pxD_lt_f, pxD_le_t, pxD_le_f, pxD_eq_t, pxD_eq_f, pxJ_lt, pxJ_le, pxJ_eq, px_gI, px_gR, px_pI, px_rc, px_ai, px_ar, px_si, px_ln, px_cp, pxJ_div, pxJ_b8, pxJ_byte, px_b2, px_bs, px_rb0, px_rb1, px_min, px_max, px_compare, pxW_some, jw_t_I, px_cpt, jw_r_I, px_cpr, jw_l_I, px_cpl, Option.some.injEq]
        exact ((ih N h1 (x + 1) _ (by omega) (by omega) (by omega) wl Wa ra Ha).1 z).mono fun q h' k => ⟨Fa.trans k.1, k.2⟩
      · refine pxW_b2 K fun q h1 k => ?_
        obtain ⟨F1, rfl, R1⟩ := k
        obtain ⟨Fa, Wa, ra, Ha⟩ := nxt F1 R1
        simp (maxSteps := 4000000) (disch := first | assumption | omega | (simp only [jw_t_I, px_cpt]; done) | (simp only [jw_t_I, px_cpt]; omega)) only [pxL0, pxL1, pxL2, pxL3, pxL4, pxL5, pxL6, pxL7, pxL8, pxL9, pxL10, pxL11, pxL12, pxL13, pxL14, pxL15, pxL16, pxL17, pxL18, pxL19, pxL20, pxL21, pxL22, pxL23, pxL24, pxL25, pxL26, pxL27, pxL28, pxL29, pxL30, pxL31, pxL32, pxL33, pxL34, pxL35, pxL36, pxL37, pxL38, pxL39, pxL40, pxL41, pxL42, pxL43, pxL44, pxL45, pxL46, pxL47, pxL48, pxL49, pxL51, pxL57, pxL58, pxL59, pxL60, pxL61, pxL62, pxL63, pxL64, pxL65, pxL66, pxL67, pxL68, pxL69, pxL70, pxL71, pxL72, pxL73, pxL74, pxL75, pxL76, pxL77, pxL78, pxL79, pxL80, pxL81, pxL82, pxL83, pxL84, pxL85, pxL86, pxL87, pxL88, pxL89, pxL90, pxL91, pxL92, pxL93, pxL94, pxL95, pxL96, pxL97, pxL98, pxL99, pxL100, pxL101, pxL102, pxL103, pxL104, pxL105, pxL106, pxL107, pxL108, pxL109, pxL110, pxL111, pxL112, pxL113, pxL114, pxL115, pxL116, pxL117, pxL118, pxL119, pxL120, pxL121, pxL122, pxL123, pxL124, pxL125, pxL126, pxL200, pxL240, pxL287, pxL388, pxL400, pxL429, pxL431, pxL440, pxL1240, pxL1600, pxL1681, pxL12028, pxL13849, pxL14880, pxL25173, pxL26908, pxL49600, pxL65535, pxL65536, ↓reduceIte, reduceCtorEq, pxJ_add, pxJ_sub, pxJ_mul, pxJ_neg, pxD_lt_t, pxD_lt_f, pxD_le_t, pxD_le_f, pxD_eq_t, pxD_eq_f, pxJ_lt, pxJ_le, pxJ_eq, px_gI, px_gR, px_pI, px_rc, px_ai, px_ar, px_si, px_ln, px_cp, pxJ_div, pxJ_b8, pxJ_byte, px_b2, px_bs, px_rb0, px_rb1, px_min, px_max, px_compare, pxW_some, jw_t_I, px_cpt, jw_r_I, px_cpr, jw_l_I, px_cpl, Option.some.injEq]
        exact ((ih N h1 (x + 1) _ (by omega) (by omega) (by omega) wl Wa ra Ha).2 z).mono fun q h' k => ⟨Fa.trans k.1, k.2⟩
    · rw [if_neg c, if_neg c] at K
      refine ⟨fun z => ?_, fun z => ?_⟩
      · refine pxW_b2 K fun q h1 k => ?_
        obtain ⟨F1, rfl, R1⟩ := k
        simp (maxSteps := 4000000) (disch := first | assumption | omega | (simp only [jw_t_I, px_cpt]; done) | (simp only [jw_t_I, px_cpt]; omega)) only [pxL0, pxL1, pxL2, pxL3, pxL4, pxL5, pxL6, pxL7, pxL8, pxL9, pxL10, pxL11, pxL12, pxL13, pxL14, pxL15, pxL16, pxL17, pxL18, pxL19, pxL20, pxL21, pxL22, pxL23, pxL24, pxL25, pxL26, pxL27, pxL28, pxL29, pxL30, pxL31, pxL32, pxL33, pxL34, pxL35, pxL36, pxL37, pxL38, pxL39, pxL40, pxL41, pxL42, pxL43, pxL44, pxL45, pxL46, pxL47, pxL48, pxL49, pxL51, pxL57, pxL58, pxL59, pxL60, pxL61, pxL62, pxL63, pxL64, pxL65, pxL66, pxL67, pxL68, pxL69, pxL70, pxL71, pxL72, pxL73, pxL74, pxL75, pxL76, pxL77, pxL78, pxL79, pxL80, pxL81, pxL82, pxL83, pxL84, pxL85, pxL86, pxL87, pxL88, pxL89, pxL90, pxL91, pxL92, pxL93, pxL94, pxL95, pxL96, pxL97, pxL98, pxL99, pxL100, pxL101, pxL102, pxL103, pxL104, pxL105, pxL106, pxL107, pxL108, pxL109, pxL110, pxL111, pxL112, pxL113, pxL114, pxL115, pxL116, pxL117, pxL118, pxL119, pxL120, pxL121, pxL122, pxL123, pxL124, pxL125, pxL126, pxL200, pxL240, pxL287, pxL388, pxL400, pxL429, pxL431, pxL440, pxL1240, pxL1600, pxL1681, pxL12028, pxL13849, pxL14880, pxL25173, pxL26908, pxL49600, pxL65535, pxL65536, ↓reduceIte, reduceCtorEq, pxJ_add, pxJ_sub, pxJ_mul, pxJ_neg, pxD_lt_t, pxD_lt_f, pxD_le_t, pxD_le_f, pxD_eq_t, pxD_eq_f, pxJ_lt, pxJ_le, pxJ_eq, px_gI, px_gR, px_pI, px_rc, px_ai, px_ar, px_si, px_ln, px_cp, pxJ_div, pxJ_b8, pxJ_byte, px_b2, px_bs, px_rb0, px_rb1, px_min, px_max, px_compare, pxW_some, jw_t_I, px_cpt, jw_r_I, px_cpr, jw_l_I, px_cpl, Option.some.injEq]
        have F1' : pxF (pxC 255 260) h h1 := F1.mono (fun k f z => by unfold pxC at *; omega)
        exact ⟨F1', trivial, _, H.rows F1 (fun k f z => by unfold pxC; omega) R1 rfl (fun _ _ _ => rfl)⟩
      · exfalso
        rw [List.length_append, List.length_append] at z
        omega
theorem s_X10_join {h : jw_H} {f l : Int} (W : pxWF h) (Rn : pxRn h f l) (H : pxIT h 255 ls mk now nx) (f1 : 1 ≤ f) (fl : f ≤ l) (l1 : l ≤ ls.length) :
    pxW (f_X10_join h 559) fun q h' => pxF (pxC 255 260) h h' ∧ q = pxJ (pxSpJoin f l (ls, mk, now, nx)).1 ∧ ((pxSpJoin f l (ls, mk, now, nx)).1 = 0 → pxIX h' (pxSpJoin f l (ls, mk, now, nx)).2) ∧ ∃ T, pxIX h' T := by
  have n40 := H.len
  have w0 := W.1
  have w1 := W.2.2.1
  have t9 := H.1.1
  have r0 := H.1.2.1
  have t7 := H.2.1.1.1
  have c2 := H.c2
  obtain ⟨rf, rl⟩ := Rn
  have st : f_X10_join h 559 = if (ls.length : Int) < pxJoE f l then some (pxJ 1, h) else f_X10_join_b48 jw_FU h 559 (pxJ (pxJoE f l)) (pxJ (f + 1)) := by
    unfold f_X10_join g_X10_join_b24 pxJoE
    by_cases c : f = l
    · rw [if_pos c]
      by_cases d : (ls.length : Int) < l + 1
      · rw [if_pos d]
        simp (maxSteps := 4000000) (disch := first | assumption | omega | (simp only [jw_t_I, px_cpt]; done) | (simp only [jw_t_I, px_cpt]; omega)) only [pxL0, pxL1, pxL2, pxL3, pxL4, pxL5, pxL6, pxL7, pxL8, pxL9, pxL10, pxL11, pxL12, pxL13, pxL14, pxL15, pxL16, pxL17, pxL18, pxL19, pxL20, pxL21, pxL22, pxL23, pxL24, pxL25, pxL26, pxL27, pxL28, pxL29, pxL30, pxL31, pxL32, pxL33, pxL34, pxL35, pxL36, pxL37, pxL38, pxL39, pxL40, pxL41, pxL42, pxL43, pxL44, pxL45, pxL46, pxL47, pxL48, pxL49, pxL51, pxL57, pxL58, pxL59, pxL60, pxL61, pxL62, pxL63, pxL64, pxL65, pxL66, pxL67, pxL68, pxL69, pxL70, pxL71, pxL72, pxL73, pxL74, pxL75, pxL76, pxL77, pxL78, pxL79, pxL80, pxL81, pxL82, pxL83, pxL84, pxL85, pxL86, pxL87, pxL88, pxL89, pxL90, pxL91, pxL92, pxL93, pxL94, pxL95, pxL96, pxL97, pxL98, pxL99, pxL100, pxL101, pxL102, pxL103, pxL104, pxL105, pxL106, pxL107, pxL108, pxL109, pxL110, pxL111, pxL112, pxL113, pxL114, pxL115, pxL116, pxL117, pxL118, pxL119, pxL120, pxL121, pxL122, pxL123, pxL124, pxL125, pxL126, pxL200, pxL240, pxL287, pxL388, pxL400, pxL429, pxL431, pxL440, pxL1240, pxL1600, pxL1681, pxL12028, pxL13849, pxL14880, pxL25173, pxL26908, pxL49600, pxL65535, pxL65536, ↓reduceIte, reduceCtorEq, pxJ_add, pxJ_sub, pxJ_mul, pxJ_neg, pxD_lt_t, pxD_lt_f, pxD_le_t, pxD_le_f, pxD_eq_t, pxD_eq_f, pxJ_lt, pxJ_le, pxJ_eq, px_gI, px_gR, px_pI, px_rc, px_ai, px_ar, px_si, px_ln, px_cp, pxJ_div, pxJ_b8, pxJ_byte, px_b2, px_bs, px_rb0, px_rb1, px_min, px_max, px_compare, pxW_some, jw_t_I, px_cpt, jw_r_I, px_cpr, jw_l_I, px_cpl, Option.some.injEq, w0, rf, rl, c, w1, t9, r0, t7, c2]
      · rw [if_neg d]
        simp (maxSteps := 4000000) (disch := first | assumption | omega | (simp only [jw_t_I, px_cpt]; done) | (simp only [jw_t_I, px_cpt]; omega)) only [pxL0, pxL1, pxL2, pxL3, pxL4, pxL5, pxL6, pxL7, pxL8, pxL9, pxL10, pxL11, pxL12, pxL13, pxL14, pxL15, pxL16, pxL17, pxL18, pxL19, pxL20, pxL21, pxL22, pxL23, pxL24, pxL25, pxL26, pxL27, pxL28, pxL29, pxL30, pxL31, pxL32, pxL33, pxL34, pxL35, pxL36, pxL37, pxL38, pxL39, pxL40, pxL41, pxL42, pxL43, pxL44, pxL45, pxL46, pxL47, pxL48, pxL49, pxL51, pxL57, pxL58, pxL59, pxL60, pxL61, pxL62, pxL63, pxL64, pxL65, pxL66, pxL67, pxL68, pxL69, pxL70, pxL71, pxL72, pxL73, pxL74, pxL75, pxL76, pxL77, pxL78, pxL79, pxL80, pxL81, pxL82, pxL83, pxL84, pxL85, pxL86, pxL87, pxL88, pxL89, pxL90, pxL91, pxL92, pxL93, pxL94, pxL95, pxL96, pxL97, pxL98, pxL99, pxL100, pxL101, pxL102, pxL103, pxL104, pxL105, pxL106, pxL107, pxL108, pxL109, pxL110, pxL111, pxL112, pxL113, pxL114, pxL115, pxL116, pxL117, pxL118, pxL119, pxL120, pxL121, pxL122, pxL123, pxL124, pxL125, pxL126, pxL200, pxL240, pxL287, pxL388, pxL400, pxL429, pxL431, pxL440, pxL1240, pxL1600, pxL1681, pxL12028, pxL13849, pxL14880, pxL25173, pxL26908, pxL49600, pxL65535, pxL65536, ↓reduceIte, reduceCtorEq, pxJ_add, pxJ_sub, pxJ_mul, pxJ_neg, pxD_lt_t, pxD_lt_f, pxD_le_t, pxD_le_f, pxD_eq_t, pxD_eq_f, pxJ_lt, pxJ_le, pxJ_eq, px_gI, px_gR, px_pI, px_rc, px_ai, px_ar, px_si, px_ln, px_cp, pxJ_div, pxJ_b8, pxJ_byte, px_b2, px_bs, px_rb0, px_rb1, px_min, px_max, px_compare, pxW_some, jw_t_I, px_cpt, jw_r_I, px_cpr, jw_l_I, px_cpl, Option.some.injEq, w0, rf, rl, c, w1, t9, r0, t7, c2]
    · rw [if_neg c, if_neg (show ¬ (ls.length : Int) < l by omega)]
      simp (maxSteps := 4000000) (disch := first | assumption | omega | (simp only [jw_t_I, px_cpt]; done) | (simp only [jw_t_I, px_cpt]; omega)) only [pxL0, pxL1, pxL2, pxL3, pxL4, pxL5, pxL6, pxL7, pxL8, pxL9, pxL10, pxL11, pxL12, pxL13, pxL14, pxL15, pxL16, pxL17, pxL18, pxL19, pxL20, pxL21, pxL22, pxL23, pxL24, pxL25, pxL26, pxL27, pxL28, pxL29, pxL30, pxL31, pxL32, pxL33, pxL34, pxL35, pxL36, pxL37, pxL38, pxL39, pxL40, pxL41, pxL42, pxL43, pxL44, pxL45, pxL46, pxL47, pxL48, pxL49, pxL51, pxL57, pxL58, pxL59, pxL60, pxL61, pxL62, pxL63, pxL64, pxL65, pxL66, pxL67, pxL68, pxL69, pxL70, pxL71, pxL72, pxL73, pxL74, pxL75, pxL76, pxL77, pxL78, pxL79, pxL80, pxL81, pxL82, pxL83, pxL84, pxL85, pxL86, pxL87, pxL88, pxL89, pxL90, pxL91, pxL92, pxL93, pxL94, pxL95, pxL96, pxL97, pxL98, pxL99, pxL100, pxL101, pxL102, pxL103, pxL104, pxL105, pxL106, pxL107, pxL108, pxL109, pxL110, pxL111, pxL112, pxL113, pxL114, pxL115, pxL116, pxL117, pxL118, pxL119, pxL120, pxL121, pxL122, pxL123, pxL124, pxL125, pxL126, pxL200, pxL240, pxL287, pxL388, pxL400, pxL429, pxL431, pxL440, pxL1240, pxL1600, pxL1681, pxL12028, pxL13849, pxL14880, pxL25173, pxL26908, pxL49600, pxL65535, pxL65536, ↓reduceIte, reduceCtorEq, pxJ_add, pxJ_sub, pxJ_mul, pxJ_neg, pxD_lt_t, pxD_lt_f, pxD_le_t, pxD_le_f, pxD_eq_t, pxD_eq_f, pxJ_lt, pxJ_le, pxJ_eq, px_gI, px_gR, px_pI, px_rc, px_ai, px_ar, px_si, px_ln, px_cp, pxJ_div, pxJ_b8, pxJ_byte, px_b2, px_bs, px_rb0, px_rb1, px_min, px_max, px_compare, pxW_some, jw_t_I, px_cpt, jw_r_I, px_cpr, jw_l_I, px_cpl, Option.some.injEq, w0, rf, rl, w1, t9, r0, t7, c2]
  have eJ : pxSpJoin f l (ls, mk, now, nx) = if (ls.length : Int) < pxJoE f l then (1, (ls, mk, now, nx)) else if 30 < (pxJoW f l ls).length then (4, (ls, mk, now, nx)) else (0, (pxDel (pxSet ls f (pxId ls f, pxJoW f l ls)) (f + 1) (pxJoE f l - f), pxDms mk (pxSub ls (f + 1) (pxJoE f l)), f, nx)) := rfl
  rw [st, eJ]
  have je : f < pxJoE f l := by
    unfold pxJoE
    by_cases c : f = l
    · rw [if_pos c]; omega
    · rw [if_neg c]; omega
  by_cases c : (ls.length : Int) < pxJoE f l
  · rw [if_pos c, if_pos c]
    exact pxW_some.mpr ⟨pxF.rfl, rfl, fun z => absurd z (by show ¬ (1 : Int) = 0; omega), (ls, mk, now, nx), H⟩
  · rw [if_neg c, if_neg c]
    have ok := H.2.1.2.2.1
    have hw : (pxRw (pxRs ls) f).length ≤ 30 := (pxRw_or ok f).1
    have eW : pxJoW f l ls = pxRw (pxRs ls) f ++ pxCat (pxRs ls) (pxJoE f l - f).toNat (f + 1) := by
      unfold pxJoW
      rw [show (pxJoE f l - f + 1).toNat = (pxJoE f l - f).toNat + 1 by omega]
      rfl
    have H' : pxIT h 255 (pxSet ls f (pxId ls f, pxRw (pxRs ls) f)) mk now nx := by rw [pxSet_self (by omega)]; exact H
    obtain ⟨y1, y2⟩ := s_X10_join_b48 f1 je (by omega) n40 (pxJoE f l - f).toNat jw_FU h (f + 1) (pxRw (pxRs ls) f) (by omega) (by unfold jw_FU; omega) (by omega) hw W rf H'
    rw [← eW] at y1 y2
    by_cases d : 30 < (pxJoW f l ls).length
    · rw [if_pos d]
      exact (y1 d).mono fun q h' k => ⟨k.1, k.2.1, fun z => absurd z (by show ¬ (4 : Int) = 0; omega), by obtain ⟨ls', z⟩ := k.2.2; exact ⟨(ls', mk, now, nx), z⟩⟩
    · rw [if_neg d]
      exact (y2 d).mono fun q h' k => ⟨k.1, k.2.1, fun _ => k.2.2, (_, _, f, nx), k.2.2⟩
theorem s_X10_part_b17 {n : Int} (n0 : 0 ≤ n) (n1 : n ≤ 99) : ∀ (m N : Nat) (h : jw_H) (x : Int) (ls : pxLs) (nx now : Int), x + m ≤ ls.length + 1 → m < N → 1 ≤ x → 0 ≤ nx → nx + m ≤ 2147480000 → pxWF h → pxIT h 255 ls mk now nx →
    (pxPart n m x ls nx = none → pxW (f_X10_part_b17 N h 559 (pxJ n) (pxJ x) (pxJ m)) fun q h' => pxF (pxC 255 260) h h' ∧ q = pxJ 4 ∧ ∃ T, pxIX h' T) ∧
    (∀ v, pxPart n m x ls nx = some v → pxW (f_X10_part_b17 N h 559 (pxJ n) (pxJ x) (pxJ m)) fun q h' => pxF (pxC 255 260) h h' ∧ q = pxJ 0 ∧ pxIT h' 255 v.1 mk (v.2.2 - 1) v.2.1) := by
  intro m
  induction m with
  | zero =>
    intro N h x ls nx now em hN x1 nx0 nx1 W H
    obtain ⟨N, rfl, hN⟩ := px_fu hN
    have n40 := H.len
    have w0 := W.1
    have w1 := W.2.2.1
    have t9 := H.1.1
    have H2 := H.now3 (v := x - 1) (by omega) (by omega)
    have F2 : pxF (pxC 255 260) h (jw_setI h 255 3 (pxJ (x - 1))) := pxF.setI (by unfold pxC; omega)
    rw [u_X10_part_b17]
    unfold g_X10_part_b17
    refine ⟨fun z => (by cases z), fun v z => ?_⟩
    have z' : (ls, nx, x) = v := Option.some.inj z
    subst z'
    rw [show pxJ ((0 : Nat) : Int) = pxJ 0 from rfl]
    simp (maxSteps := 4000000) (disch := first | assumption | omega | (simp only [jw_t_I, px_cpt]; done) | (simp only [jw_t_I, px_cpt]; omega)) only [pxL0, pxL1, pxL2, pxL3, pxL4, pxL5, pxL6, pxL7, pxL8, pxL9, pxL10, pxL11, pxL12, pxL13, pxL14, pxL15, pxL16, pxL17, pxL18, pxL19, pxL20, pxL21, pxL22, pxL23, pxL24, pxL25, pxL26, pxL27, pxL28, pxL29, pxL30, pxL31, pxL32, pxL33, pxL34, pxL35, pxL36, pxL37, pxL38, pxL39, pxL40, pxL41, pxL42, pxL43, pxL44, pxL45, pxL46, pxL47, pxL48, pxL49, pxL51, pxL57, pxL58, pxL59, pxL60, pxL61, pxL62, pxL63, pxL64, pxL65, pxL66, pxL67, pxL68, pxL69, pxL70, pxL71, pxL72, pxL73, pxL74, pxL75, pxL76, pxL77, pxL78, pxL79, pxL80, pxL81, pxL82, pxL83, pxL84, pxL85, pxL86, pxL87, pxL88, pxL89, pxL90, pxL91, pxL92, pxL93, pxL94, pxL95, pxL96, pxL97, pxL98, pxL99, pxL100, pxL101, pxL102, pxL103, pxL104, pxL105, pxL106, pxL107, pxL108, pxL109, pxL110, pxL111, pxL112, pxL113, pxL114, pxL115, pxL116, pxL117, pxL118, pxL119, pxL120, pxL121, pxL122, pxL123, pxL124, pxL125, pxL126, pxL200, pxL240, pxL287, pxL388, pxL400, pxL429, pxL431, pxL440, pxL1240, pxL1600, pxL1681, pxL12028, pxL13849, pxL14880, pxL25173, pxL26908, pxL49600, pxL65535, pxL65536, ↓reduceIte, reduceCtorEq, pxJ_add, pxJ_sub, pxJ_mul, pxJ_neg, pxD_lt_t, pxD_lt_f, pxD_le_t, pxD_le_f, pxD_eq_t, pxD_eq_f, pxJ_lt, pxJ_le, pxJ_eq, px_gI, px_gR, px_pI, px_rc, px_ai, px_ar, px_si, px_ln, px_cp, pxJ_div, pxJ_b8, pxJ_byte, px_b2, px_bs, px_rb0, px_rb1, px_min, px_max, px_compare, pxW_some, jw_t_I, px_cpt, jw_r_I, px_cpr, jw_l_I, px_cpl, Option.some.injEq, w0, w1, t9]
    exact ⟨F2, trivial, H2⟩
  | succ m ih =>
    intro N h x ls nx now em hN x1 nx0 nx1 W H
    obtain ⟨N, rfl, hN⟩ := px_fu hN
    have n40 := H.len
    have w0 := W.1
    have w1 := W.2.2.1
    have t9 := H.1.1
    have r0 := H.1.2.1
    have t7 := H.2.1.1.1
    have rl : ((pxRs ls).length : Int) = ls.length := by rw [pxRs_len]
    have lo := s_X7_lengthOf H.2.1 (x := x) (by omega) (by omega)
    rw [pxLnA_t ⟨x1, by omega⟩] at lo
    have ll := pxLn_le H.2.1.2.2.1 x
    have l0 := pxLn_0 (pxRs ls) x
    have eP : pxPart n (m + 1) x ls nx = if pxLn (pxRs ls) x ≤ n then pxPart n m (x + 1) ls nx else if 40 ≤ ls.length then none else pxPart n m (x + 2) (pxIns (pxSet ls x (pxId ls x, (pxRw (pxRs ls) x).take n.toNat)) (x + 1) [(nx, (pxRw (pxRs ls) x).drop n.toNat)]) (nx + 1) := rfl
    have em1 : ((m + 1 : Nat) : Int) = (m : Int) + 1 := by omega
    have em2 : (m : Int) + 1 + -1 = m := by omega
    rw [eP, u_X10_part_b17, em1]
    by_cases c : pxLn (pxRs ls) x ≤ n
    · rw [if_pos c]
      have st : g_X10_part_b17 (f_X10_part_b17 N) h 559 (pxJ n) (pxJ x) (pxJ ((m : Int) + 1)) = f_X10_part_b17 N h 559 (pxJ n) (pxJ (x + 1)) (pxJ m) := by
        unfold g_X10_part_b17 g_X10_part_b67
        simp (maxSteps := 4000000) (disch := first | assumption | omega | (simp only [jw_t_I, px_cpt]; done) | (simp only [jw_t_I, px_cpt]; omega)) only [pxL0, pxL1, pxL2, pxL3, pxL4, pxL5, pxL6, pxL7, pxL8, pxL9, pxL10, pxL11, pxL12, pxL13, pxL14, pxL15, pxL16, pxL17, pxL18, pxL19, pxL20, pxL21, pxL22, pxL23, pxL24, pxL25, pxL26, pxL27, pxL28, pxL29, pxL30, pxL31, pxL32, pxL33, pxL34, pxL35, pxL36, pxL37, pxL38, pxL39, pxL40, pxL41, pxL42, pxL43, pxL44, pxL45, pxL46, pxL47, pxL48, pxL49, pxL51, pxL57, pxL58, pxL59, pxL60, pxL61, pxL62, pxL63, pxL64, pxL65, pxL66, pxL67, pxL68, pxL69, pxL70, pxL71, pxL72, pxL73, pxL74, pxL75, pxL76, pxL77, pxL78, pxL79, pxL80, pxL81, pxL82, pxL83, pxL84, pxL85, pxL86, pxL87, pxL88, pxL89, pxL90, pxL91, pxL92, pxL93, pxL94, pxL95, pxL96, pxL97, pxL98, pxL99, pxL100, pxL101, pxL102, pxL103, pxL104, pxL105, pxL106, pxL107, pxL108, pxL109, pxL110, pxL111, pxL112, pxL113, pxL114, pxL115, pxL116, pxL117, pxL118, pxL119, pxL120, pxL121, pxL122, pxL123, pxL124, pxL125, pxL126, pxL200, pxL240, pxL287, pxL388, pxL400, pxL429, pxL431, pxL440, pxL1240, pxL1600, pxL1681, pxL12028, pxL13849, pxL14880, pxL25173, pxL26908, pxL49600, pxL65535, pxL65536, ↓reduceIte, reduceCtorEq, pxJ_add, pxJ_sub, pxJ_mul, pxJ_neg, pxD_lt_t, pxD_lt_f, pxD_le_t, pxD_le_f, pxD_eq_t, pxD_eq_f, pxJ_lt, pxJ_le, pxJ_eq, px_gI, px_gR, px_pI, px_rc, px_ai, px_ar, px_si, px_ln, px_cp, pxJ_div, pxJ_b8, pxJ_byte, px_b2, px_bs, px_rb0, px_rb1, px_min, px_max, px_compare, pxW_some, jw_t_I, px_cpt, jw_r_I, px_cpr, jw_l_I, px_cpl, Option.some.injEq, w0, w1, t9, r0, t7, lo, em2]
      rw [st]
      exact ih N h (x + 1) ls nx now (by omega) (by omega) (by omega) nx0 (by omega) W H
    · rw [if_neg c]
      have K := s_X9_open H (x := x + 1) (n := 1) (by omega) (by omega) (by omega) (by omega) (by omega) (by omega)
      unfold g_X10_part_b17 g_X10_part_b67
      simp (maxSteps := 4000000) (disch := first | assumption | omega | (simp only [jw_t_I, px_cpt]; done) | (simp only [jw_t_I, px_cpt]; omega)) only [pxL0, pxL1, pxL2, pxL3, pxL4, pxL5, pxL6, pxL7, pxL8, pxL9, pxL10, pxL11, pxL12, pxL13, pxL14, pxL15, pxL16, pxL17, pxL18, pxL19, pxL20, pxL21, pxL22, pxL23, pxL24, pxL25, pxL26, pxL27, pxL28, pxL29, pxL30, pxL31, pxL32, pxL33, pxL34, pxL35, pxL36, pxL37, pxL38, pxL39, pxL40, pxL41, pxL42, pxL43, pxL44, pxL45, pxL46, pxL47, pxL48, pxL49, pxL51, pxL57, pxL58, pxL59, pxL60, pxL61, pxL62, pxL63, pxL64, pxL65, pxL66, pxL67, pxL68, pxL69, pxL70, pxL71, pxL72, pxL73, pxL74, pxL75, pxL76, pxL77, pxL78, pxL79, pxL80, pxL81, pxL82, pxL83, pxL84, pxL85, pxL86, pxL87, pxL88, pxL89, pxL90, pxL91, pxL92, pxL93, pxL94, pxL95, pxL96, pxL97, pxL98, pxL99, pxL100, pxL101, pxL102, pxL103, pxL104, pxL105, pxL106, pxL107, pxL108, pxL109, pxL110, pxL111, pxL112, pxL113, pxL114, pxL115, pxL116, pxL117, pxL118, pxL119, pxL120, pxL121, pxL122, pxL123, pxL124, pxL125, pxL126, pxL200, pxL240, pxL287, pxL388, pxL400, pxL429, pxL431, pxL440, pxL1240, pxL1600, pxL1681, pxL12028, pxL13849, pxL14880, pxL25173, pxL26908, pxL49600, pxL65535, pxL65536, ↓reduceIte, reduceCtorEq, pxJ_add, pxJ_sub, pxJ_mul, pxJ_neg, pxD_lt_t, pxD_lt_f, pxD_le_t, pxD_le_f, pxD_eq_t, pxD_eq_f, pxJ_lt, pxJ_le, pxJ_eq, px_gI, px_gR, px_pI, px_rc, px_ai, px_ar, px_si, px_ln, px_cp, pxJ_div, pxJ_b8, pxJ_byte, px_b2, px_bs, px_rb0, px_rb1, px_min, px_max, px_compare, pxW_some, jw_t_I, px_cpt, jw_r_I, px_cpr, jw_l_I, px_cpl, Option.some.injEq, w0, w1, t9, r0, t7, lo, em2]
      by_cases d : 40 ≤ ls.length
      · rw [if_pos d]
        have dn : ¬ (ls.length : Int) + 1 ≤ 40 := by omega
        rw [if_neg dn, if_neg dn, if_neg dn] at K
        refine ⟨fun _ => ?_, fun v z => (by cases z)⟩
        refine pxW_b2 K fun q h1 k => ?_
        obtain ⟨F1, rfl, H1⟩ := k
        simp (maxSteps := 4000000) (disch := first | assumption | omega | (simp only [jw_t_I, px_cpt]; done) | (simp only [jw_t_I, px_cpt]; omega)) only [pxL0, pxL1, pxL2, pxL3, pxL4, pxL5, pxL6, pxL7, pxL8, pxL9, pxL10, pxL11, pxL12, pxL13, pxL14, pxL15, pxL16, pxL17, pxL18, pxL19, pxL20, pxL21, pxL22, pxL23, pxL24, pxL25, pxL26, pxL27, pxL28, pxL29, pxL30, pxL31, pxL32, pxL33, pxL34, pxL35, pxL36, pxL37, pxL38, pxL39, pxL40, pxL41, pxL42, pxL43, pxL44, pxL45, pxL46, pxL47, pxL48, pxL49, pxL51, pxL57, pxL58, pxL59, pxL60, pxL61, pxL62, pxL63, pxL64, pxL65, pxL66, pxL67, pxL68, pxL69, pxL70, pxL71, pxL72, pxL73, pxL74, pxL75, pxL76, pxL77, pxL78, pxL79, pxL80, pxL81, pxL82, pxL83, pxL84, pxL85, pxL86, pxL87, pxL88, pxL89, pxL90, pxL91, pxL92, pxL93, pxL94, pxL95, pxL96, pxL97, pxL98, pxL99, pxL100, pxL101, pxL102, pxL103, pxL104, pxL105, pxL106, pxL107, pxL108, pxL109, pxL110, pxL111, pxL112, pxL113, pxL114, pxL115, pxL116, pxL117, pxL118, pxL119, pxL120, pxL121, pxL122, pxL123, pxL124, pxL125, pxL126, pxL200, pxL240, pxL287, pxL388, pxL400, pxL429, pxL431, pxL440, pxL1240, pxL1600, pxL1681, pxL12028, pxL13849, pxL14880, pxL25173, pxL26908, pxL49600, pxL65535, pxL65536, ↓reduceIte, reduceCtorEq, pxJ_add, pxJ_sub, pxJ_mul, pxJ_neg, pxD_lt_t, pxD_lt_f, pxD_le_t, pxD_le_f, pxD_eq_t, pxD_eq_f, pxJ_lt, pxJ_le, pxJ_eq, px_gI, px_gR, px_pI, px_rc, px_ai, px_ar, px_si, px_ln, px_cp, pxJ_div, pxJ_b8, pxJ_byte, px_b2, px_bs, px_rb0, px_rb1, px_min, px_max, px_compare, pxW_some, jw_t_I, px_cpt, jw_r_I, px_cpr, jw_l_I, px_cpl, Option.some.injEq]
        exact ⟨F1, trivial, (ls, mk, now, nx), H1⟩
      · rw [if_neg d]
        have dp : (ls.length : Int) + 1 ≤ 40 := by omega
        rw [if_pos dp, if_pos dp, if_pos dp] at K
        have eN : pxNew nx 1 = [(nx, [])] := by
          unfold pxNew
          rw [show ((1 : Int)).toNat = 1 from rfl]
          show [(nx + ((0 : Nat) : Int), ([] : List Int))] = [(nx, [])]
          rw [show nx + ((0 : Nat) : Int) = nx by omega]
        rw [eN] at K
        -- both cases go on alike
        have go : ∀ {Q : Int32 → jw_H → Prop}, (∀ h1, pxF (pxC 255 260) h h1 → pxWF h1 → pxIT h1 255 (pxIns (pxSet ls x (pxId ls x, (pxRw (pxRs ls) x).take n.toNat)) (x + 1) [(nx, (pxRw (pxRs ls) x).drop n.toNat)]) mk now (nx + 1) → pxW (f_X10_part_b17 N h1 559 (pxJ n) (pxJ (x + 2)) (pxJ m)) Q) → pxW (jw_b2 (f_X9_open h 255 (pxJ (x + 1)) (pxJ 1)) fun w13 h12 => if w13 = pxJ 0 then some (pxJ 4, h12) else (jw_gR h12 10 (some 559) 1).bind fun v15 => (jw_gR h12 9 v15 0).bind fun v16 => (jw_rc h12 7 v16).bind fun a17 => jw_b2 (f_X7_moveRest h12 a17 (pxJ x) (pxJ n)) fun w19 h18 => f_X10_part_b17 N h18 559 (pxJ n) (pxJ (x + 1 + 1)) (pxJ m)) Q := by
          intro Q hQ
          refine pxW_b2 K fun q h1 k => ?_
          obtain ⟨F1, rfl, H1⟩ := k
          have W1 := W.f9 F1 (fun f => by unfold pxC; omega)
          have w01 := W1.1
          have w11 := W1.2.2.1
          have t91 := H1.1.1
          have r01 := H1.1.2.1
          have t71 := H1.2.1.1.1
          have eRI : pxRs (pxIns ls (x + 1) [(nx, [])]) = pxIns (pxRs ls) (x + 1) [[]] := pxRs_ins
          have eRw : pxRw (pxRs (pxIns ls (x + 1) [(nx, [])])) x = pxRw (pxRs ls) x := by rw [eRI]; unfold pxRw; exact pxIns_lo x1 (by omega) (by omega)
          have cl : ((pxIns ls (x + 1) [(nx, ([] : List Int))]).length : Int) = ls.length + 1 := by rw [pxIns_len]; simp
          have eL : pxLn (pxRs (pxIns ls (x + 1) [(nx, [])])) x = pxLn (pxRs ls) x := by unfold pxLn; rw [eRw]
          have K2 := s_X7_moveRest H1.2.1 (x := x) (n := n) x1 (by rw [pxRs_len]; omega) n0 (by rw [eL]; omega)
          rw [eRw] at K2
          simp (maxSteps := 4000000) (disch := first | assumption | omega | (simp only [jw_t_I, px_cpt]; done) | (simp only [jw_t_I, px_cpt]; omega)) only [pxL0, pxL1, pxL2, pxL3, pxL4, pxL5, pxL6, pxL7, pxL8, pxL9, pxL10, pxL11, pxL12, pxL13, pxL14, pxL15, pxL16, pxL17, pxL18, pxL19, pxL20, pxL21, pxL22, pxL23, pxL24, pxL25, pxL26, pxL27, pxL28, pxL29, pxL30, pxL31, pxL32, pxL33, pxL34, pxL35, pxL36, pxL37, pxL38, pxL39, pxL40, pxL41, pxL42, pxL43, pxL44, pxL45, pxL46, pxL47, pxL48, pxL49, pxL51, pxL57, pxL58, pxL59, pxL60, pxL61, pxL62, pxL63, pxL64, pxL65, pxL66, pxL67, pxL68, pxL69, pxL70, pxL71, pxL72, pxL73, pxL74, pxL75, pxL76, pxL77, pxL78, pxL79, pxL80, pxL81, pxL82, pxL83, pxL84, pxL85, pxL86, pxL87, pxL88, pxL89, pxL90, pxL91, pxL92, pxL93, pxL94, pxL95, pxL96, pxL97, pxL98, pxL99, pxL100, pxL101, pxL102, pxL103, pxL104, pxL105, pxL106, pxL107, pxL108, pxL109, pxL110, pxL111, pxL112, pxL113, pxL114, pxL115, pxL116, pxL117, pxL118, pxL119, pxL120, pxL121, pxL122, pxL123, pxL124, pxL125, pxL126, pxL200, pxL240, pxL287, pxL388, pxL400, pxL429, pxL431, pxL440, pxL1240, pxL1600, pxL1681, pxL12028, pxL13849, pxL14880, pxL25173, pxL26908, pxL49600, pxL65535, pxL65536, ↓reduceIte, reduceCtorEq, pxJ_add, pxJ_sub, pxJ_mul, pxJ_neg, pxD_lt_t, pxD_lt_f, pxD_le_t, pxD_le_f, pxD_eq_t, pxD_eq_f, pxJ_lt, pxJ_le, pxJ_eq, px_gI, px_gR, px_pI, px_rc, px_ai, px_ar, px_si, px_ln, px_cp, pxJ_div, pxJ_b8, pxJ_byte, px_b2, px_bs, px_rb0, px_rb1, px_min, px_max, px_compare, pxW_some, jw_t_I, px_cpt, jw_r_I, px_cpr, jw_l_I, px_cpl, Option.some.injEq, w01, w11, t91, r01, t71]
          refine pxW_b2 K2 fun _ h2 k => ?_
          have F2 : pxF (pxC 256 258) h1 h2 := k.1
          have H2 : pxIT h2 255 (pxSet (pxSet (pxIns ls (x + 1) [(nx, [])]) (x + 1) (nx, (pxRw (pxRs ls) x).drop n.toNat)) x (pxId ls x, (pxRw (pxRs ls) x).take n.toNat)) mk now (nx + 1) := by
            refine H1.rows F2 (fun k f z => by unfold pxC; omega) ?_ (by rw [pxSet_len, pxSet_len]) (fun y y1 y2 => ?_)
            · rw [pxRs_set, pxRs_set]; exact k.2
            · unfold pxId pxAt
              by_cases ey : y = x
              · subst ey
                rw [pxG_setE y1 (by rw [pxSet_len]; omega), pxIns_lo y1 (by omega) (by omega)]
              · rw [pxG_setN x1 y1 ey]
                by_cases ey2 : y = x + 1
                · subst ey2
                  rw [pxG_setE y1 (by omega), pxIns_in (by omega) (by show x + 1 < x + 1 + ((1 : Nat) : Int); omega) (by omega) (by omega), show x + 1 - (x + 1) + 1 = 1 by omega]
                  rfl
                · rw [pxG_setN (by omega) y1 ey2]
          have e3 := pxSet_ins (d := ((0 : Int), ([] : List Int))) (l := ls) (m := [(nx, [])]) (x := x + 1) (j := 1) (a := (nx, (pxRw (pxRs ls) x).drop n.toNat)) (by omega) (by omega) (by omega) (by simp)
          rw [show x + 1 + 1 - 1 = x + 1 by omega] at e3
          have e4 : pxSet [(nx, ([] : List Int))] 1 (nx, (pxRw (pxRs ls) x).drop n.toNat) = [(nx, (pxRw (pxRs ls) x).drop n.toNat)] := rfl
          rw [e3, e4, ← pxIns_set (d := ((0 : Int), ([] : List Int))) x1 (by omega) (by omega)] at H2
          have F12 : pxF (pxC 255 260) h h2 := F1.trans (F2.mono (fun k f z => by unfold pxC at *; omega))
          rw [show x + 1 + 1 = x + 2 by omega]
          exact hQ h2 F12 (W.f9 F12 (fun f => by unfold pxC; omega)) H2
        have ln2 : ((pxIns (pxSet ls x (pxId ls x, (pxRw (pxRs ls) x).take n.toNat)) (x + 1) [(nx, (pxRw (pxRs ls) x).drop n.toNat)]).length : Int) = ls.length + 1 := by rw [pxIns_len, pxSet_len]; simp
        refine ⟨fun z => ?_, fun v z => ?_⟩
        · exact go fun h1 F1 W1 H1 => ((ih N h1 (x + 2) _ (nx + 1) now (by omega) (by omega) (by omega) (by omega) (by omega) W1 H1).1 z).mono fun q h' k => ⟨F1.trans k.1, k.2⟩
        · exact go fun h1 F1 W1 H1 => ((ih N h1 (x + 2) _ (nx + 1) now (by omega) (by omega) (by omega) (by omega) (by omega) W1 H1).2 v z).mono fun q h' k => ⟨F1.trans k.1, k.2⟩
theorem s_X10_part {h : jw_H} {n f l : Int} (n0 : 0 ≤ n) (n1 : n ≤ 99) (W : pxWF h) (Rn : pxRn h f l) (H : pxIT h 255 ls mk now nx) (f1 : 1 ≤ f) (fl : f ≤ l) (l1 : l ≤ ls.length) (nx0 : 0 ≤ nx) (nx1 : nx ≤ 2000000) :
    pxW (f_X10_part h 559 (pxJ n)) fun q h' => pxF (pxC 255 260) h h' ∧ q = pxJ (pxSpPart n f l (ls, mk, now, nx)).1 ∧ ((pxSpPart n f l (ls, mk, now, nx)).1 = 0 → pxIX h' (pxSpPart n f l (ls, mk, now, nx)).2) ∧ ∃ T, pxIX h' T := by
  have n40 := H.len
  have w0 := W.1
  obtain ⟨rf, rl⟩ := Rn
  obtain ⟨y1, y2⟩ := s_X10_part_b17 (mk := mk) n0 n1 (l - f + 1).toNat jw_FU h f ls nx now (by omega) (by unfold jw_FU; omega) f1 nx0 (by omega) W H
  have et : (((l - f + 1).toNat : Nat) : Int) = l - f + 1 := by omega
  rw [et] at y1 y2
  unfold f_X10_part pxSpPart
  simp (maxSteps := 4000000) (disch := first | assumption | omega | (simp only [jw_t_I, px_cpt]; done) | (simp only [jw_t_I, px_cpt]; omega)) only [pxL0, pxL1, pxL2, pxL3, pxL4, pxL5, pxL6, pxL7, pxL8, pxL9, pxL10, pxL11, pxL12, pxL13, pxL14, pxL15, pxL16, pxL17, pxL18, pxL19, pxL20, pxL21, pxL22, pxL23, pxL24, pxL25, pxL26, pxL27, pxL28, pxL29, pxL30, pxL31, pxL32, pxL33, pxL34, pxL35, pxL36, pxL37, pxL38, pxL39, pxL40, pxL41, pxL42, pxL43, pxL44, pxL45, pxL46, pxL47, pxL48, pxL49, pxL51, pxL57, pxL58, pxL59, pxL60, pxL61, pxL62, pxL63, pxL64, pxL65, pxL66, pxL67, pxL68, pxL69, pxL70, pxL71, pxL72, pxL73, pxL74, pxL75, pxL76, pxL77, pxL78, pxL79, pxL80, pxL81, pxL82, pxL83, pxL84, pxL85, pxL86, pxL87, pxL88, pxL89, pxL90, pxL91, pxL92, pxL93, pxL94, pxL95, pxL96, pxL97, pxL98, pxL99, pxL100, pxL101, pxL102, pxL103, pxL104, pxL105, pxL106, pxL107, pxL108, pxL109, pxL110, pxL111, pxL112, pxL113, pxL114, pxL115, pxL116, pxL117, pxL118, pxL119, pxL120, pxL121, pxL122, pxL123, pxL124, pxL125, pxL126, pxL200, pxL240, pxL287, pxL388, pxL400, pxL429, pxL431, pxL440, pxL1240, pxL1600, pxL1681, pxL12028, pxL13849, pxL14880, pxL25173, pxL26908, pxL49600, pxL65535, pxL65536, ↓reduceIte, reduceCtorEq, pxJ_add, pxJ_sub, pxJ_mul, pxJ_neg, pxD_lt_t, pxD_lt_f, pxD_le_t, pxD_le_f, pxD_eq_t, pxD_eq_f, pxJ_lt, pxJ_le, pxJ_eq, px_gI, px_gR, px_pI, px_rc, px_ai, px_ar, px_si, px_ln, px_cp, pxJ_div, pxJ_b8, pxJ_byte, px_b2, px_bs, px_rb0, px_rb1, px_min, px_max, px_compare, pxW_some, jw_t_I, px_cpt, jw_r_I, px_cpr, jw_l_I, px_cpl, Option.some.injEq, w0, rf, rl]
  cases hp : pxPart n (l - f + 1).toNat f ls nx with
  | none =>
    exact (y1 hp).mono fun q h' k => ⟨k.1, k.2.1, fun z => absurd z (by show ¬ (4 : Int) = 0; omega), k.2.2⟩
  | some v => exact (y2 v hp).mono fun q h' k => ⟨k.1, k.2.1, fun _ => k.2.2, (v.1, mk, v.2.2 - 1, v.2.1), k.2.2⟩
theorem s_X10_leaveOutSame_b17 : ∀ (m N : Nat) (h : jw_H) (x : Int) (ls : pxLs) (mk : Int → Int) (now : Int), x + m ≤ ls.length + 1 → m < N → 2 ≤ x → pxWF h → pxIT h 255 ls mk now nx →
    pxW (f_X10_leaveOutSame_b17 N h 559 (pxJ x) (pxJ m)) fun q h' => pxF (pxC 255 260) h h' ∧ q = pxJ 0 ∧ pxIT h' 255 (pxUniq m x ls mk).1 (pxUniq m x ls mk).2.1 ((pxUniq m x ls mk).2.2 - 1) nx := by
  intro m
  induction m with
  | zero =>
    intro N h x ls mk now em hN x1 W H
    obtain ⟨N, rfl, hN⟩ := px_fu hN
    have n40 := H.len
    have w0 := W.1
    have w1 := W.2.2.1
    have t9 := H.1.1
    have H2 := H.now3 (v := x - 1) (by omega) (by omega)
    have F2 : pxF (pxC 255 260) h (jw_setI h 255 3 (pxJ (x - 1))) := pxF.setI (by unfold pxC; omega)
    rw [u_X10_leaveOutSame_b17]
    unfold g_X10_leaveOutSame_b17
    rw [show pxJ ((0 : Nat) : Int) = pxJ 0 from rfl]
    simp (maxSteps := 4000000) (disch := first | assumption | omega | (simp only [jw_t_I, px_cpt]; done) | (simp only [jw_t_I, px_cpt]; omega)) only [pxL0, pxL1, pxL2, pxL3, pxL4, pxL5, pxL6, pxL7, pxL8, pxL9, pxL10, pxL11, pxL12, pxL13, pxL14, pxL15, pxL16, pxL17, pxL18, pxL19, pxL20, pxL21, pxL22, pxL23, pxL24, pxL25, pxL26, pxL27, pxL28, pxL29, pxL30, pxL31, pxL32, pxL33, pxL34, pxL35, pxL36, pxL37, pxL38, pxL39, pxL40, pxL41, pxL42, pxL43, pxL44, pxL45, pxL46, pxL47, pxL48, pxL49, pxL51, pxL57, pxL58, pxL59, pxL60, pxL61, pxL62, pxL63, pxL64, pxL65, pxL66, pxL67, pxL68, pxL69, pxL70, pxL71, pxL72, pxL73, pxL74, pxL75, pxL76, pxL77, pxL78, pxL79, pxL80, pxL81, pxL82, pxL83, pxL84, pxL85, pxL86, pxL87, pxL88, pxL89, pxL90, pxL91, pxL92, pxL93, pxL94, pxL95, pxL96, pxL97, pxL98, pxL99, pxL100, pxL101, pxL102, pxL103, pxL104, pxL105, pxL106, pxL107, pxL108, pxL109, pxL110, pxL111, pxL112, pxL113, pxL114, pxL115, pxL116, pxL117, pxL118, pxL119, pxL120, pxL121, pxL122, pxL123, pxL124, pxL125, pxL126, pxL200, pxL240, pxL287, pxL388, pxL400, pxL429, pxL431, pxL440, pxL1240, pxL1600, pxL1681, pxL12028, pxL13849, pxL14880, pxL25173, pxL26908, pxL49600, pxL65535, pxL65536, ↓reduceIte, reduceCtorEq, pxJ_add, pxJ_sub, pxJ_mul, pxJ_neg, pxD_lt_t, pxD_lt_f, pxD_le_t, pxD_le_f, pxD_eq_t, pxD_eq_f, pxJ_lt, pxJ_le, pxJ_eq, px_gI, px_gR, px_pI, px_rc, px_ai, px_ar, px_si, px_ln, px_cp, pxJ_div, pxJ_b8, pxJ_byte, px_b2, px_bs, px_rb0, px_rb1, px_min, px_max, px_compare, pxW_some, jw_t_I, px_cpt, jw_r_I, px_cpr, jw_l_I, px_cpl, Option.some.injEq, w0, w1, t9]
    exact ⟨F2, trivial, H2⟩
  | succ m ih =>
    intro N h x ls mk now em hN x1 W H
    obtain ⟨N, rfl, hN⟩ := px_fu hN
    have n40 := H.len
    have w0 := W.1
    have w1 := W.2.2.1
    have t9 := H.1.1
    have r0 := H.1.2.1
    have t7 := H.2.1.1.1
    have rl : ((pxRs ls).length : Int) = ls.length := by rw [pxRs_len]
    have sm := s_X7_same H.2.1 H.2.1 (x := x) (y := x - 1) (by omega) (by omega) (by omega) (by omega)
    have eU : pxUniq (m + 1) x ls mk = if pxRw (pxRs ls) x = pxRw (pxRs ls) (x - 1) then pxUniq m x (pxDel ls x 1) (pxDm mk (pxId ls x)) else pxUniq m (x + 1) ls mk := rfl
    have em1 : ((m + 1 : Nat) : Int) = (m : Int) + 1 := by omega
    have em2 : (m : Int) + 1 + -1 = m := by omega
    rw [eU, u_X10_leaveOutSame_b17, em1]
    unfold g_X10_leaveOutSame_b17 g_X10_leaveOutSame_b60
    by_cases c : pxRw (pxRs ls) x = pxRw (pxRs ls) (x - 1)
    · rw [if_pos c] at sm ⊢
      have K := s_X9_cut H (x := x) (n := 1) (by omega) (by omega) (by omega)
      have ed : pxDms mk ((ls.drop (x - 1).toNat).take ((1 : Int)).toNat) = pxDm mk (pxId ls x) := by
        rw [pxAt_drop (by omega) (by omega)]
        rfl
      rw [ed] at K
      simp (maxSteps := 4000000) (disch := first | assumption | omega | (simp only [jw_t_I, px_cpt]; done) | (simp only [jw_t_I, px_cpt]; omega)) only [pxL0, pxL1, pxL2, pxL3, pxL4, pxL5, pxL6, pxL7, pxL8, pxL9, pxL10, pxL11, pxL12, pxL13, pxL14, pxL15, pxL16, pxL17, pxL18, pxL19, pxL20, pxL21, pxL22, pxL23, pxL24, pxL25, pxL26, pxL27, pxL28, pxL29, pxL30, pxL31, pxL32, pxL33, pxL34, pxL35, pxL36, pxL37, pxL38, pxL39, pxL40, pxL41, pxL42, pxL43, pxL44, pxL45, pxL46, pxL47, pxL48, pxL49, pxL51, pxL57, pxL58, pxL59, pxL60, pxL61, pxL62, pxL63, pxL64, pxL65, pxL66, pxL67, pxL68, pxL69, pxL70, pxL71, pxL72, pxL73, pxL74, pxL75, pxL76, pxL77, pxL78, pxL79, pxL80, pxL81, pxL82, pxL83, pxL84, pxL85, pxL86, pxL87, pxL88, pxL89, pxL90, pxL91, pxL92, pxL93, pxL94, pxL95, pxL96, pxL97, pxL98, pxL99, pxL100, pxL101, pxL102, pxL103, pxL104, pxL105, pxL106, pxL107, pxL108, pxL109, pxL110, pxL111, pxL112, pxL113, pxL114, pxL115, pxL116, pxL117, pxL118, pxL119, pxL120, pxL121, pxL122, pxL123, pxL124, pxL125, pxL126, pxL200, pxL240, pxL287, pxL388, pxL400, pxL429, pxL431, pxL440, pxL1240, pxL1600, pxL1681, pxL12028, pxL13849, pxL14880, pxL25173, pxL26908, pxL49600, pxL65535, pxL65536, ↓reduceIte, reduceCtorEq, pxJ_add, pxJ_sub, pxJ_mul, pxJ_neg, pxD_lt_t, pxD_lt_f, pxD_le_t, pxD_le_f, pxD_eq_t, pxD_eq_f, pxJ_lt, pxJ_le, pxJ_eq, px_gI, px_gR, px_pI, px_rc, px_ai, px_ar, px_si, px_ln, px_cp, pxJ_div, pxJ_b8, pxJ_byte, px_b2, px_bs, px_rb0, px_rb1, px_min, px_max, px_compare, pxW_some, jw_t_I, px_cpt, jw_r_I, px_cpr, jw_l_I, px_cpl, Option.some.injEq, w0, w1, t9, r0, t7, sm]
      refine pxW_b2 K fun _ h1 k => ?_
      obtain ⟨F1, H1⟩ := k
      have dl := pxDel_len (l := ls) (x := x) (n := 1) (by omega) (by omega) (by omega)
      rw [em2]
      exact (ih N h1 x _ _ now (by omega) (by omega) x1 (W.f9 F1 (fun f => by unfold pxC; omega)) H1).mono fun q h' k => ⟨F1.trans k.1, k.2⟩
    · rw [if_neg c] at sm ⊢
      simp (maxSteps := 4000000) (disch := first | assumption | omega | (simp only [jw_t_I, px_cpt]; done) | (simp only [jw_t_I, px_cpt]; omega)) only [pxL0, pxL1, pxL2, pxL3, pxL4, pxL5, pxL6, pxL7, pxL8, pxL9, pxL10, pxL11, pxL12, pxL13, pxL14, pxL15, pxL16, pxL17, pxL18, pxL19, pxL20, pxL21, pxL22, pxL23, pxL24, pxL25, pxL26, pxL27, pxL28, pxL29, pxL30, pxL31, pxL32, pxL33, pxL34, pxL35, pxL36, pxL37, pxL38, pxL39, pxL40, pxL41, pxL42, pxL43, pxL44, pxL45, pxL46, pxL47, pxL48, pxL49, pxL51, pxL57, pxL58, pxL59, pxL60, pxL61, pxL62, pxL63, pxL64, pxL65, pxL66, pxL67, pxL68, pxL69, pxL70, pxL71, pxL72, pxL73, pxL74, pxL75, pxL76, pxL77, pxL78, pxL79, pxL80, pxL81, pxL82, pxL83, pxL84, pxL85, pxL86, pxL87, pxL88, pxL89, pxL90, pxL91, pxL92, pxL93, pxL94, pxL95, pxL96, pxL97, pxL98, pxL99, pxL100, pxL101, pxL102, pxL103, pxL104, pxL105, pxL106, pxL107, pxL108, pxL109, pxL110, pxL111, pxL112, pxL113, pxL114, pxL115, pxL116, pxL117, pxL118, pxL119, pxL120, pxL121, pxL122, pxL123, pxL124, pxL125, pxL126, pxL200, pxL240, pxL287, pxL388, pxL400, pxL429, pxL431, pxL440, pxL1240, pxL1600, pxL1681, pxL12028, pxL13849, pxL14880, pxL25173, pxL26908, pxL49600, pxL65535, pxL65536, ↓reduceIte, reduceCtorEq, pxJ_add, pxJ_sub, pxJ_mul, pxJ_neg, pxD_lt_t, pxD_lt_f, pxD_le_t, pxD_le_f, pxD_eq_t, pxD_eq_f, pxJ_lt, pxJ_le, pxJ_eq, px_gI, px_gR, px_pI, px_rc, px_ai, px_ar, px_si, px_ln, px_cp, pxJ_div, pxJ_b8, pxJ_byte, px_b2, px_bs, px_rb0, px_rb1, px_min, px_max, px_compare, pxW_some, jw_t_I, px_cpt, jw_r_I, px_cpr, jw_l_I, px_cpl, Option.some.injEq, w0, w1, t9, r0, t7, sm, em2]
      exact ih N h (x + 1) ls mk now (by omega) (by omega) (by omega) W H
theorem s_X10_leaveOutSame {h : jw_H} {f l : Int} (W : pxWF h) (Rn : pxRn h f l) (H : pxIT h 255 ls mk now nx) (f1 : 1 ≤ f) (fl : f ≤ l) (l1 : l ≤ ls.length) :
    pxW (f_X10_leaveOutSame h 559) fun q h' => pxF (pxC 255 260) h h' ∧ q = pxJ 0 ∧ pxIX h' (pxSpUniq f l (ls, mk, now, nx)) := by
  have n40 := H.len
  have w0 := W.1
  obtain ⟨rf, rl⟩ := Rn
  have y := s_X10_leaveOutSame_b17 (l - f).toNat jw_FU h (f + 1) ls mk now (by omega) (by unfold jw_FU; omega) (by omega) W H
  have et : (((l - f).toNat : Nat) : Int) = l - f := by omega
  rw [et] at y
  unfold f_X10_leaveOutSame
  simp (maxSteps := 4000000) (disch := first | assumption | omega | (simp only [jw_t_I, px_cpt]; done) | (simp only [jw_t_I, px_cpt]; omega)) only [pxL0, pxL1, pxL2, pxL3, pxL4, pxL5, pxL6, pxL7, pxL8, pxL9, pxL10, pxL11, pxL12, pxL13, pxL14, pxL15, pxL16, pxL17, pxL18, pxL19, pxL20, pxL21, pxL22, pxL23, pxL24, pxL25, pxL26, pxL27, pxL28, pxL29, pxL30, pxL31, pxL32, pxL33, pxL34, pxL35, pxL36, pxL37, pxL38, pxL39, pxL40, pxL41, pxL42, pxL43, pxL44, pxL45, pxL46, pxL47, pxL48, pxL49, pxL51, pxL57, pxL58, pxL59, pxL60, pxL61, pxL62, pxL63, pxL64, pxL65, pxL66, pxL67, pxL68, pxL69, pxL70, pxL71, pxL72, pxL73, pxL74, pxL75, pxL76, pxL77, pxL78, pxL79, pxL80, pxL81, pxL82, pxL83, pxL84, pxL85, pxL86, pxL87, pxL88, pxL89, pxL90, pxL91, pxL92, pxL93, pxL94, pxL95, pxL96, pxL97, pxL98, pxL99, pxL100, pxL101, pxL102, pxL103, pxL104, pxL105, pxL106, pxL107, pxL108, pxL109, pxL110, pxL111, pxL112, pxL113, pxL114, pxL115, pxL116, pxL117, pxL118, pxL119, pxL120, pxL121, pxL122, pxL123, pxL124, pxL125, pxL126, pxL200, pxL240, pxL287, pxL388, pxL400, pxL429, pxL431, pxL440, pxL1240, pxL1600, pxL1681, pxL12028, pxL13849, pxL14880, pxL25173, pxL26908, pxL49600, pxL65535, pxL65536, ↓reduceIte, reduceCtorEq, pxJ_add, pxJ_sub, pxJ_mul, pxJ_neg, pxD_lt_t, pxD_lt_f, pxD_le_t, pxD_le_f, pxD_eq_t, pxD_eq_f, pxJ_lt, pxJ_le, pxJ_eq, px_gI, px_gR, px_pI, px_rc, px_ai, px_ar, px_si, px_ln, px_cp, pxJ_div, pxJ_b8, pxJ_byte, px_b2, px_bs, px_rb0, px_rb1, px_min, px_max, px_compare, pxW_some, jw_t_I, px_cpt, jw_r_I, px_cpr, jw_l_I, px_cpl, Option.some.injEq, w0, rf, rl]
  exact y
end
