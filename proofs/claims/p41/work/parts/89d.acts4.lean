/-! orders over the whole: lines moved, copied, sorted, all of it -/
section
variable {ls : pxLs} {mk : Int → Int} {now nx : Int}
theorem px_move_a {h h1 h2 h3 : jw_H} {f l t a1 a2 a3 : Int} (w0 : (jw_t h 559).1 = 10) (w01 : (jw_t h1 559).1 = 10) (w02 : (jw_t h2 559).1 = 10) (rf : pxM h 559 12 = f) (rl : pxM h 559 13 = l) (ra1 : pxM h1 559 12 = f) (rb1 : pxM h1 559 13 = l) (ra2 : pxM h2 559 12 = f) (t0 : 0 ≤ t) (tf : t < f) (fl : f ≤ l) (l1 : l ≤ 40) (v1 : f_X10_lineUp h 559 (pxJ 0) (pxJ 1) (pxJ t) = some (pxJ a1, h1)) (y1 : f_X10_lineUp h1 559 (pxJ a1) (pxJ f) (pxJ l) = some (pxJ a2, h2)) (z1 : f_X10_lineUp h2 559 (pxJ a2) (pxJ (t + 1)) (pxJ (f - 1)) = some (pxJ a3, h3)) :
    f_X10_move h 559 (pxJ t) = g_X10_move_b150 h3 559 (pxJ t) (pxJ (l - f + 1)) (pxJ (t + 1)) (pxJ a3) := by
  have mn : min t (f - 1) = t := by omega
  unfold f_X10_move g_X10_move_b25 g_X10_move_b56
  simp (maxSteps := 4000000) (disch := first | assumption | omega | (simp only [jw_t_I, px_cpt]; done) | (simp only [jw_t_I, px_cpt]; omega)) only [pxL0, pxL1, pxL2, pxL3, pxL4, pxL5, pxL6, pxL7, pxL8, pxL9, pxL10, pxL11, pxL12, pxL13, pxL14, pxL15, pxL16, pxL17, pxL18, pxL19, pxL20, pxL21, pxL22, pxL23, pxL24, pxL25, pxL26, pxL27, pxL28, pxL29, pxL30, pxL31, pxL32, pxL33, pxL34, pxL35, pxL36, pxL37, pxL38, pxL39, pxL40, pxL41, pxL42, pxL43, pxL44, pxL45, pxL46, pxL47, pxL48, pxL49, pxL51, pxL57, pxL58, pxL59, pxL60, pxL61, pxL62, pxL63, pxL64, pxL65, pxL66, pxL67, pxL68, pxL69, pxL70, pxL71, pxL72, pxL73, pxL74, pxL75, pxL76, pxL77, pxL78, pxL79, pxL80, pxL81, pxL82, pxL83, pxL84, pxL85, pxL86, pxL87, pxL88, pxL89, pxL90, pxL91, pxL92, pxL93, pxL94, pxL95, pxL96, pxL97, pxL98, pxL99, pxL100, pxL101, pxL102, pxL103, pxL104, pxL105, pxL106, pxL107, pxL108, pxL109, pxL110, pxL111, pxL112, pxL113, pxL114, pxL115, pxL116, pxL117, pxL118, pxL119, pxL120, pxL121, pxL122, pxL123, pxL124, pxL125, pxL126, pxL200, pxL240, pxL287, pxL388, pxL400, pxL429, pxL431, pxL440, pxL1240, pxL1600, pxL1681, pxL12028, pxL13849, pxL14880, pxL25173, pxL26908, pxL49600, pxL65535, pxL65536, ↓reduceIte, reduceCtorEq, pxJ_add, pxJ_sub, pxJ_mul, pxJ_neg, pxD_lt_t, pxD_lt_f, pxD_le_t, pxD_le_f, pxD_eq_t, pxD_eq_f, pxJ_lt, pxJ_le, pxJ_eq, px_gI, px_gR, px_pI, px_rc, px_ai, px_ar, px_si, px_ln, px_cp, pxJ_div, pxJ_b8, pxJ_byte, px_b2, px_bs, px_rb0, px_rb1, px_min, px_max, px_compare, pxW_some, jw_t_I, px_cpt, jw_r_I, px_cpr, jw_l_I, px_cpl, Option.some.injEq, w0, rf, rl, mn, v1, w01, ra1, rb1, y1, w02, ra2, z1]
theorem px_move_b {h h1 h2 h3 : jw_H} {f l t a1 a2 a3 : Int} (w0 : (jw_t h 559).1 = 10) (w01 : (jw_t h1 559).1 = 10) (w02 : (jw_t h2 559).1 = 10) (rf : pxM h 559 12 = f) (rl : pxM h 559 13 = l) (ra1 : pxM h1 559 12 = f) (rb1 : pxM h1 559 13 = l) (ra2 : pxM h2 559 12 = f) (rb2 : pxM h2 559 13 = l) (f1 : 1 ≤ f) (lt : l ≤ t) (fl : f ≤ l) (t1 : t ≤ 40) (v1 : f_X10_lineUp h 559 (pxJ 0) (pxJ 1) (pxJ (f - 1)) = some (pxJ a1, h1)) (y1 : f_X10_lineUp h1 559 (pxJ a1) (pxJ (l + 1)) (pxJ t) = some (pxJ a2, h2)) (z1 : f_X10_lineUp h2 559 (pxJ a2) (pxJ f) (pxJ l) = some (pxJ a3, h3)) :
    f_X10_move h 559 (pxJ t) = g_X10_move_b150 h3 559 (pxJ t) (pxJ (l - f + 1)) (pxJ (t - (l - f + 1) + 1)) (pxJ a3) := by
  have mn : min t (f - 1) = f - 1 := by omega
  unfold f_X10_move g_X10_move_b25 g_X10_move_b56
  simp (maxSteps := 4000000) (disch := first | assumption | omega | (simp only [jw_t_I, px_cpt]; done) | (simp only [jw_t_I, px_cpt]; omega)) only [pxL0, pxL1, pxL2, pxL3, pxL4, pxL5, pxL6, pxL7, pxL8, pxL9, pxL10, pxL11, pxL12, pxL13, pxL14, pxL15, pxL16, pxL17, pxL18, pxL19, pxL20, pxL21, pxL22, pxL23, pxL24, pxL25, pxL26, pxL27, pxL28, pxL29, pxL30, pxL31, pxL32, pxL33, pxL34, pxL35, pxL36, pxL37, pxL38, pxL39, pxL40, pxL41, pxL42, pxL43, pxL44, pxL45, pxL46, pxL47, pxL48, pxL49, pxL51, pxL57, pxL58, pxL59, pxL60, pxL61, pxL62, pxL63, pxL64, pxL65, pxL66, pxL67, pxL68, pxL69, pxL70, pxL71, pxL72, pxL73, pxL74, pxL75, pxL76, pxL77, pxL78, pxL79, pxL80, pxL81, pxL82, pxL83, pxL84, pxL85, pxL86, pxL87, pxL88, pxL89, pxL90, pxL91, pxL92, pxL93, pxL94, pxL95, pxL96, pxL97, pxL98, pxL99, pxL100, pxL101, pxL102, pxL103, pxL104, pxL105, pxL106, pxL107, pxL108, pxL109, pxL110, pxL111, pxL112, pxL113, pxL114, pxL115, pxL116, pxL117, pxL118, pxL119, pxL120, pxL121, pxL122, pxL123, pxL124, pxL125, pxL126, pxL200, pxL240, pxL287, pxL388, pxL400, pxL429, pxL431, pxL440, pxL1240, pxL1600, pxL1681, pxL12028, pxL13849, pxL14880, pxL25173, pxL26908, pxL49600, pxL65535, pxL65536, ↓reduceIte, reduceCtorEq, pxJ_add, pxJ_sub, pxJ_mul, pxJ_neg, pxD_lt_t, pxD_lt_f, pxD_le_t, pxD_le_f, pxD_eq_t, pxD_eq_f, pxJ_lt, pxJ_le, pxJ_eq, px_gI, px_gR, px_pI, px_rc, px_ai, px_ar, px_si, px_ln, px_cp, pxJ_div, pxJ_b8, pxJ_byte, px_b2, px_bs, px_rb0, px_rb1, px_min, px_max, px_compare, pxW_some, jw_t_I, px_cpt, jw_r_I, px_cpr, jw_l_I, px_cpl, Option.some.injEq, w0, rf, rl, mn, v1, w01, ra1, rb1, y1, w02, ra2, rb2, z1]
set_option maxHeartbeats 4000000 in
theorem s_X10_move {h : jw_H} {f l t : Int} (W : pxWF h) (Rn : pxRn h f l) (H : pxIT h 255 ls mk now nx) (X : pxSX h 563) (f1 : 1 ≤ f) (fl : f ≤ l) (l1 : l ≤ ls.length) (t0 : -1000 ≤ t) (t1 : t ≤ ls.length) :
    pxW (f_X10_move h 559 (pxJ t)) fun q h' => pxF pxQn9 h h' ∧ q = pxJ (pxSpMove f l t (ls, mk, now, nx)).1 ∧ pxIX h' (pxSpMove f l t (ls, mk, now, nx)).2 ∧ pxSX h' 563 := by
  have l40 := H.len
  have w0 := W.1
  obtain ⟨rf, rl⟩ := id Rn
  have eM : pxSpMove f l t (ls, mk, now, nx) = if t < 0 then (-t, (ls, mk, now, nx)) else if f ≤ t ∧ t < l then (1, (ls, mk, now, nx)) else (0, (pxIns (pxDel ls f (l - f + 1)) (pxMoA f l t) (pxSub ls f l), mk, pxMoA f l t + (l - f + 1) - 1, nx)) := rfl
  rw [eM]
  by_cases c0 : t < 0
  · rw [if_pos c0]
    unfold f_X10_move
    simp (maxSteps := 4000000) (disch := first | assumption | omega | (simp only [jw_t_I, px_cpt]; done) | (simp only [jw_t_I, px_cpt]; omega)) only [pxL0, pxL1, pxL2, pxL3, pxL4, pxL5, pxL6, pxL7, pxL8, pxL9, pxL10, pxL11, pxL12, pxL13, pxL14, pxL15, pxL16, pxL17, pxL18, pxL19, pxL20, pxL21, pxL22, pxL23, pxL24, pxL25, pxL26, pxL27, pxL28, pxL29, pxL30, pxL31, pxL32, pxL33, pxL34, pxL35, pxL36, pxL37, pxL38, pxL39, pxL40, pxL41, pxL42, pxL43, pxL44, pxL45, pxL46, pxL47, pxL48, pxL49, pxL51, pxL57, pxL58, pxL59, pxL60, pxL61, pxL62, pxL63, pxL64, pxL65, pxL66, pxL67, pxL68, pxL69, pxL70, pxL71, pxL72, pxL73, pxL74, pxL75, pxL76, pxL77, pxL78, pxL79, pxL80, pxL81, pxL82, pxL83, pxL84, pxL85, pxL86, pxL87, pxL88, pxL89, pxL90, pxL91, pxL92, pxL93, pxL94, pxL95, pxL96, pxL97, pxL98, pxL99, pxL100, pxL101, pxL102, pxL103, pxL104, pxL105, pxL106, pxL107, pxL108, pxL109, pxL110, pxL111, pxL112, pxL113, pxL114, pxL115, pxL116, pxL117, pxL118, pxL119, pxL120, pxL121, pxL122, pxL123, pxL124, pxL125, pxL126, pxL200, pxL240, pxL287, pxL388, pxL400, pxL429, pxL431, pxL440, pxL1240, pxL1600, pxL1681, pxL12028, pxL13849, pxL14880, pxL25173, pxL26908, pxL49600, pxL65535, pxL65536, ↓reduceIte, reduceCtorEq, pxJ_add, pxJ_sub, pxJ_mul, pxJ_neg, pxD_lt_t, pxD_lt_f, pxD_le_t, pxD_le_f, pxD_eq_t, pxD_eq_f, pxJ_lt, pxJ_le, pxJ_eq, px_gI, px_gR, px_pI, px_rc, px_ai, px_ar, px_si, px_ln, px_cp, pxJ_div, pxJ_b8, pxJ_byte, px_b2, px_bs, px_rb0, px_rb1, px_min, px_max, px_compare, pxW_some, jw_t_I, px_cpt, jw_r_I, px_cpr, jw_l_I, px_cpl, Option.some.injEq]
    exact ⟨pxF.rfl, trivial, H, X⟩
  rw [if_neg c0]
  by_cases c1 : f ≤ t ∧ t < l
  · rw [if_pos c1]
    unfold f_X10_move
    obtain ⟨c1, c2⟩ := c1
    simp (maxSteps := 4000000) (disch := first | assumption | omega | (simp only [jw_t_I, px_cpt]; done) | (simp only [jw_t_I, px_cpt]; omega)) only [pxL0, pxL1, pxL2, pxL3, pxL4, pxL5, pxL6, pxL7, pxL8, pxL9, pxL10, pxL11, pxL12, pxL13, pxL14, pxL15, pxL16, pxL17, pxL18, pxL19, pxL20, pxL21, pxL22, pxL23, pxL24, pxL25, pxL26, pxL27, pxL28, pxL29, pxL30, pxL31, pxL32, pxL33, pxL34, pxL35, pxL36, pxL37, pxL38, pxL39, pxL40, pxL41, pxL42, pxL43, pxL44, pxL45, pxL46, pxL47, pxL48, pxL49, pxL51, pxL57, pxL58, pxL59, pxL60, pxL61, pxL62, pxL63, pxL64, pxL65, pxL66, pxL67, pxL68, pxL69, pxL70, pxL71, pxL72, pxL73, pxL74, pxL75, pxL76, pxL77, pxL78, pxL79, pxL80, pxL81, pxL82, pxL83, pxL84, pxL85, pxL86, pxL87, pxL88, pxL89, pxL90, pxL91, pxL92, pxL93, pxL94, pxL95, pxL96, pxL97, pxL98, pxL99, pxL100, pxL101, pxL102, pxL103, pxL104, pxL105, pxL106, pxL107, pxL108, pxL109, pxL110, pxL111, pxL112, pxL113, pxL114, pxL115, pxL116, pxL117, pxL118, pxL119, pxL120, pxL121, pxL122, pxL123, pxL124, pxL125, pxL126, pxL200, pxL240, pxL287, pxL388, pxL400, pxL429, pxL431, pxL440, pxL1240, pxL1600, pxL1681, pxL12028, pxL13849, pxL14880, pxL25173, pxL26908, pxL49600, pxL65535, pxL65536, ↓reduceIte, reduceCtorEq, pxJ_add, pxJ_sub, pxJ_mul, pxJ_neg, pxD_lt_t, pxD_lt_f, pxD_le_t, pxD_le_f, pxD_eq_t, pxD_eq_f, pxJ_lt, pxJ_le, pxJ_eq, px_gI, px_gR, px_pI, px_rc, px_ai, px_ar, px_si, px_ln, px_cp, pxJ_div, pxJ_b8, pxJ_byte, px_b2, px_bs, px_rb0, px_rb1, px_min, px_max, px_compare, pxW_some, jw_t_I, px_cpt, jw_r_I, px_cpr, jw_l_I, px_cpl, Option.some.injEq, w0, rf, rl]
    exact ⟨pxF.rfl, trivial, H, X⟩
  rw [if_neg c1]
  have ht : t < f ∨ l ≤ t := by omega
  have A0 : pxNumA h [] := ⟨by simp, fun y y1 y2 => by simp at y2; omega⟩
  have e0 : pxJ (([] : List Int).length : Int) = pxJ 0 := rfl
  have mvE := pxMove_e (d := ((0 : Int), ([] : List Int))) f1 fl l1 (by omega) t1 ht
  have mapA : ∀ (a b : List Int), (a ++ b).map (pxAt ls) = a.map (pxAt ls) ++ b.map (pxAt ls) := fun a b => List.map_append
  have ub : ∀ {a : Int} {m : Nat} {x : Int}, 1 ≤ a → a + m ≤ ls.length + 1 → 1 ≤ x → x ≤ m → 1 ≤ pxG 0 (pxUp a m) x ∧ pxG 0 (pxUp a m) x ≤ ls.length := fun q1 q2 q3 q4 => by rw [pxUp_at _ _ _ q3 q4]; omega
  by_cases c2 : t < f
  · -- ahead
    have mn : min t (f - 1) = t := by omega
    have mx : max t l = l := by omega
    rw [if_pos c2] at mvE
    have mA : pxMoA f l t = t + 1 := if_pos c2
    obtain ⟨h1, v1, v2, v3⟩ := s_X10_lineUp (a := 1) (b := t) (num := []) (by omega) (by omega) (by omega) (by simp; omega) W A0
    rw [List.nil_append] at v1 v3
    have W1 := W.f9 v2 (fun f => by unfold pxQ9; omega)
    have l1' : (pxUp 1 (t - 1 + 1).toNat).length = t := by rw [pxUp_len]; omega
    obtain ⟨h2, y1, y2, y3⟩ := s_X10_lineUp (a := f) (b := l) (num := pxUp 1 (t - 1 + 1).toNat) (by omega) (by omega) (by omega) (by omega) W1 v3
    have W2 := W1.f9 y2 (fun f => by unfold pxQ9; omega)
    have l2' : ((pxUp 1 (t - 1 + 1).toNat ++ pxUp f (l - f + 1).toNat).length : Int) = t + (l - f + 1) := by rw [List.length_append, pxUp_len, pxUp_len]; omega
    obtain ⟨h3, z1, z2, z3⟩ := s_X10_lineUp (a := t + 1) (b := f - 1) (num := pxUp 1 (t - 1 + 1).toNat ++ pxUp f (l - f + 1).toNat) (by omega) (by omega) (by omega) (by omega) W2 y3
    have l3' : ((pxUp 1 (t - 1 + 1).toNat ++ pxUp f (l - f + 1).toNat ++ pxUp (t + 1) (f - 1 - (t + 1) + 1).toNat).length : Int) = l := by rw [List.length_append, List.length_append, pxUp_len, pxUp_len, pxUp_len]; omega
    have F3 : pxF pxQ9 h h3 := (v2.trans y2).trans z2
    have W3 := W2.f9 z2 (fun f => by unfold pxQ9; omega)
    have Rn1 := Rn.fr v2 (fun f => by unfold pxQ9; omega)
    have Rn2 := Rn1.fr y2 (fun f => by unfold pxQ9; omega)
    have Rn3 := Rn2.fr z2 (fun f => by unfold pxQ9; omega)
    have last := s_X10_move_b150 (x2 := l - f + 1) (x3 := t + 1) (t := t) W3 Rn3 (H.fr F3 (fun k f _ _ => by unfold pxQ9; omega)) (X.fr F3 (fun k f _ _ => by unfold pxQ9; omega)) z3 (by omega) l1 (by omega) t1 (by omega) (by omega) (by omega) (by omega) (by omega) (fun x x1 x2 => by
      by_cases d1 : x ≤ (pxUp 1 (t - 1 + 1).toNat ++ pxUp f (l - f + 1).toNat).length
      · rw [pxG_appL x1 d1]
        by_cases d2 : x ≤ (pxUp 1 (t - 1 + 1).toNat).length
        · rw [pxG_appL x1 d2]; exact ub (by omega) (by omega) x1 (by omega)
        · rw [pxG_appR (by omega)]; exact ub (by omega) (by omega) (by omega) (by omega)
      · rw [pxG_appR (by omega)]; exact ub (by omega) (by omega) (by omega) (by omega))
    have eq : (pxUp 1 (t - 1 + 1).toNat ++ pxUp f (l - f + 1).toNat ++ pxUp (t + 1) (f - 1 - (t + 1) + 1).toNat ++ pxUp (max t l + 1) (ls.length - (max t l + 1) + 1 : Int).toNat).map (pxAt ls) = pxIns (pxDel ls f (l - f + 1)) (pxMoA f l t) (pxSub ls f l) := by
      rw [mvE, mapA, mapA, mapA, pxUp_map (by omega) (by omega), pxUp_map f1 (by omega), pxUp_map (by omega) (by omega), pxUp_map (by omega) (by omega)]
      simp only [List.append_assoc]
      rw [show (1 : Int) + ((t - 1 + 1).toNat : Int) - 1 = t by omega, show f + ((l - f + 1).toNat : Int) - 1 = l by omega, show t + 1 + ((f - 1 - (t + 1) + 1).toNat : Int) - 1 = f - 1 by omega, mx, show l + 1 + (((ls.length - (l + 1) + 1 : Int).toNat : Nat) : Int) - 1 = ls.length by omega]
    rw [eq] at last
    rw [l1'] at v1 y1
    rw [l2'] at y1 z1
    rw [l3'] at z1 last
    rw [e0] at v1
    have w01 := W1.1
    have w02 := W2.1
    have pk : pxW (g_X10_move_b150 h3 559 (pxJ t) (pxJ (l - f + 1)) (pxJ (t + 1)) (pxJ l)) fun q h' => pxF pxQn9 h h' ∧ q = pxJ 0 ∧ pxIX h' (pxIns (pxDel ls f (l - f + 1)) (pxMoA f l t) (pxSub ls f l), mk, pxMoA f l t + (l - f + 1) - 1, nx) ∧ pxSX h' 563 := by
      refine last.mono fun q h' k => ⟨(F3.mono (fun k f z => by unfold pxQ9 at z; unfold pxQn9; omega)).trans k.1, k.2.1, ?_, k.2.2.2⟩
      rw [mA]; exact mA ▸ k.2.2.1
    obtain ⟨ra1, rb1⟩ := Rn1
    obtain ⟨ra2, rb2⟩ := Rn2
    rw [px_move_a w0 w01 w02 rf rl ra1 rb1 ra2 (by omega) c2 fl (by omega) v1 y1 z1]
    exact pk
  · -- behind
    have mn : min t (f - 1) = f - 1 := by omega
    have mx : max t l = t := by omega
    rw [if_neg c2] at mvE
    have mA : pxMoA f l t = t - (l - f + 1) + 1 := if_neg c2
    obtain ⟨h1, v1, v2, v3⟩ := s_X10_lineUp (a := 1) (b := f - 1) (num := []) (by omega) (by omega) (by omega) (by simp; omega) W A0
    rw [List.nil_append] at v1 v3
    have W1 := W.f9 v2 (fun f => by unfold pxQ9; omega)
    have l1' : ((pxUp 1 (f - 1 - 1 + 1).toNat).length : Int) = f - 1 := by rw [pxUp_len]; omega
    obtain ⟨h2, y1, y2, y3⟩ := s_X10_lineUp (a := l + 1) (b := t) (num := pxUp 1 (f - 1 - 1 + 1).toNat) (by omega) (by omega) (by omega) (by omega) W1 v3
    have W2 := W1.f9 y2 (fun f => by unfold pxQ9; omega)
    have l2' : ((pxUp 1 (f - 1 - 1 + 1).toNat ++ pxUp (l + 1) (t - (l + 1) + 1).toNat).length : Int) = f - 1 + (t - l) := by rw [List.length_append, pxUp_len, pxUp_len]; omega
    obtain ⟨h3, z1, z2, z3⟩ := s_X10_lineUp (a := f) (b := l) (num := pxUp 1 (f - 1 - 1 + 1).toNat ++ pxUp (l + 1) (t - (l + 1) + 1).toNat) (by omega) (by omega) (by omega) (by omega) W2 y3
    have l3' : ((pxUp 1 (f - 1 - 1 + 1).toNat ++ pxUp (l + 1) (t - (l + 1) + 1).toNat ++ pxUp f (l - f + 1).toNat).length : Int) = t := by rw [List.length_append, List.length_append, pxUp_len, pxUp_len, pxUp_len]; omega
    have F3 : pxF pxQ9 h h3 := (v2.trans y2).trans z2
    have W3 := W2.f9 z2 (fun f => by unfold pxQ9; omega)
    have Rn1 := Rn.fr v2 (fun f => by unfold pxQ9; omega)
    have Rn2 := Rn1.fr y2 (fun f => by unfold pxQ9; omega)
    have Rn3 := Rn2.fr z2 (fun f => by unfold pxQ9; omega)
    have last := s_X10_move_b150 (x2 := l - f + 1) (x3 := t - (l - f + 1) + 1) (t := t) W3 Rn3 (H.fr F3 (fun k f _ _ => by unfold pxQ9; omega)) (X.fr F3 (fun k f _ _ => by unfold pxQ9; omega)) z3 (by omega) l1 (by omega) t1 (by omega) (by omega) (by omega) (by omega) (by omega) (fun x x1 x2 => by
      by_cases d1 : x ≤ (pxUp 1 (f - 1 - 1 + 1).toNat ++ pxUp (l + 1) (t - (l + 1) + 1).toNat).length
      · rw [pxG_appL x1 d1]
        by_cases d2 : x ≤ (pxUp 1 (f - 1 - 1 + 1).toNat).length
        · rw [pxG_appL x1 d2]; exact ub (by omega) (by omega) x1 (by omega)
        · rw [pxG_appR (by omega)]; exact ub (by omega) (by omega) (by omega) (by omega)
      · rw [pxG_appR (by omega)]; exact ub (by omega) (by omega) (by omega) (by omega))
    have eq : (pxUp 1 (f - 1 - 1 + 1).toNat ++ pxUp (l + 1) (t - (l + 1) + 1).toNat ++ pxUp f (l - f + 1).toNat ++ pxUp (max t l + 1) (ls.length - (max t l + 1) + 1 : Int).toNat).map (pxAt ls) = pxIns (pxDel ls f (l - f + 1)) (pxMoA f l t) (pxSub ls f l) := by
      rw [mvE, mapA, mapA, mapA, pxUp_map (by omega) (by omega), pxUp_map (by omega) (by omega), pxUp_map f1 (by omega), pxUp_map (by omega) (by omega)]
      simp only [List.append_assoc]
      rw [show (1 : Int) + ((f - 1 - 1 + 1).toNat : Int) - 1 = f - 1 by omega, show l + 1 + ((t - (l + 1) + 1).toNat : Int) - 1 = t by omega, show f + ((l - f + 1).toNat : Int) - 1 = l by omega, mx, show t + 1 + (((ls.length - (t + 1) + 1 : Int).toNat : Nat) : Int) - 1 = ls.length by omega]
    rw [eq] at last
    rw [l1'] at v1 y1
    rw [l2'] at y1 z1
    rw [l3'] at z1 last
    rw [e0] at v1
    have w01 := W1.1
    have w02 := W2.1
    have pk : pxW (g_X10_move_b150 h3 559 (pxJ t) (pxJ (l - f + 1)) (pxJ (t - (l - f + 1) + 1)) (pxJ t)) fun q h' => pxF pxQn9 h h' ∧ q = pxJ 0 ∧ pxIX h' (pxIns (pxDel ls f (l - f + 1)) (pxMoA f l t) (pxSub ls f l), mk, pxMoA f l t + (l - f + 1) - 1, nx) ∧ pxSX h' 563 := by
      refine last.mono fun q h' k => ⟨(F3.mono (fun k f z => by unfold pxQ9 at z; unfold pxQn9; omega)).trans k.1, k.2.1, ?_, k.2.2.2⟩
      rw [mA]; exact mA ▸ k.2.2.1
    obtain ⟨ra1, rb1⟩ := Rn1
    obtain ⟨ra2, rb2⟩ := Rn2
    rw [px_move_b w0 w01 w02 rf rl ra1 rb1 ra2 rb2 f1 (by omega) fl (by omega) v1 y1 z1]
    exact pk
end
