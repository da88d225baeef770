/-! orders over the whole: which lines are met -/
def pxMetF (s : List Int) (c pa : Int) (a : Int × List Int) : Bool := decide (c = 123) || (pxHolds s (pxFull s (pa + 2)) a.2 == decide (c = 103))
def pxMetL (s : List Int) (c pa : Int) (ls : pxLs) : List Int := (ls.filter (pxMetF s c pa)).map (·.1)
/-- the lines that were met -/
def pxMetA (h : jw_H) (met : List Int) : Prop := pxM h 559 11 = met.length ∧ met.length ≤ 40 ∧ ∀ y : Int, 1 ≤ y → y ≤ met.length → pxM h 570 (y - 1).toNat = pxG 0 met y
def pxQ11 : Nat → Nat → Prop := fun k f => (k = 559 ∧ f = 11) ∨ k = 570 ∨ pxQx k f
section
variable {s : List Int} {T : pxTx} {f l : Int}
theorem s_X10_meet_b10 {oo : Nat} {c pa : Int} (ho : oo < 252) (f1 : 1 ≤ f) (l1 : l ≤ T.1.length) (cc : c = 103 ∨ c = 71 ∨ c = 123) (okp : c ≠ 123 → (pxPat s (pa + 2)).1 = true) : ∀ (m N : Nat) (h : jw_H) (x : Int) (acc : List Int), x + m = l + 1 → m < N → f ≤ x → (acc.length : Int) ≤ x - f → pxWF h → pxMS h → pxPS h → pxM h 10 7 ≤ 120 → pxRn h f l → pxIX h T → (jw_t h oo).1 = 5 → pxM h oo 3 = c → (c ≠ 123 → 0 ≤ pxM h oo 6 ∧ pxM h oo 6 + (pxFull s (pa + 2)).length ≤ pxM h 10 7 ∧ pxEls h s (pxM h oo 6) (pxFull s (pa + 2))) → pxMetA h acc →
    ∃ h', f_X10_meet_b10 N h 559 (some oo) (pxJ x) = some ((), h') ∧ pxF pxQ11 h h' ∧ pxMetA h' (acc ++ pxMetL s c pa ((T.1.drop (x - 1).toNat).take m)) := by
  intro m
  induction m with
  | zero =>
    intro N h x acc em hN fx al W M PS m7 Rn I t5 f3 pe A
    obtain ⟨N, rfl, hN⟩ := px_fu hN
    have l40 := pxIT.len I
    have w0 := W.1
    obtain ⟨rf, rl⟩ := Rn
    rw [u_X10_meet_b10]
    unfold g_X10_meet_b10
    refine ⟨h, ?_, pxF.rfl, ?_⟩
    · clear pe okp A
      simp (maxSteps := 4000000) (disch := first | assumption | omega | (simp only [jw_t_I, px_cpt]; done) | (simp only [jw_t_I, px_cpt]; omega)) only [pxL0, pxL1, pxL2, pxL3, pxL4, pxL5, pxL6, pxL7, pxL8, pxL9, pxL10, pxL11, pxL12, pxL13, pxL14, pxL15, pxL16, pxL17, pxL18, pxL19, pxL20, pxL21, pxL22, pxL23, pxL24, pxL25, pxL26, pxL27, pxL28, pxL29, pxL30, pxL31, pxL32, pxL33, pxL34, pxL35, pxL36, pxL37, pxL38, pxL39, pxL40, pxL41, pxL42, pxL43, pxL44, pxL45, pxL46, pxL47, pxL48, pxL49, pxL51, pxL57, pxL58, pxL59, pxL60, pxL61, pxL62, pxL63, pxL64, pxL65, pxL66, pxL67, pxL68, pxL69, pxL70, pxL71, pxL72, pxL73, pxL74, pxL75, pxL76, pxL77, pxL78, pxL79, pxL80, pxL81, pxL82, pxL83, pxL84, pxL85, pxL86, pxL87, pxL88, pxL89, pxL90, pxL91, pxL92, pxL93, pxL94, pxL95, pxL96, pxL97, pxL98, pxL99, pxL100, pxL101, pxL102, pxL103, pxL104, pxL105, pxL106, pxL107, pxL108, pxL109, pxL110, pxL111, pxL112, pxL113, pxL114, pxL115, pxL116, pxL117, pxL118, pxL119, pxL120, pxL121, pxL122, pxL123, pxL124, pxL125, pxL126, pxL200, pxL240, pxL287, pxL388, pxL400, pxL429, pxL431, pxL440, pxL1240, pxL1600, pxL1681, pxL12028, pxL13849, pxL14880, pxL25173, pxL26908, pxL49600, pxL65535, pxL65536, ↓reduceIte, reduceCtorEq, pxJ_add, pxJ_sub, pxJ_mul, pxJ_neg, pxD_lt_t, pxD_lt_f, pxD_le_t, pxD_le_f, pxD_eq_t, pxD_eq_f, pxJ_lt, pxJ_le, pxJ_eq, px_gI, px_gR, px_pI, px_rc, px_ai, px_ar, px_si, px_ln, px_cp, pxJ_div, pxJ_b8, pxJ_byte, px_b2, px_bs, px_rb0, px_rb1, px_min, px_max, px_compare, pxW_some, jw_t_I, px_cpt, jw_r_I, px_cpr, jw_l_I, px_cpl, Option.some.injEq, w0, rl]
    · rw [List.take_zero]
      show pxMetA h (acc ++ [])
      rw [List.append_nil]; exact A
  | succ m ih =>
    intro N h x acc em hN fx al W M PS m7 Rn I t5 f3 pe A
    obtain ⟨N, rfl, hN⟩ := px_fu hN
    have l40 := pxIT.len I
    have w0 := W.1
    have w1 := W.2.2.1
    have w4 := W.2.2.2.2.2.1
    have w10 := W.2.2.2.2.2.2.2.2.2.2.2.1
    have t20 := W.2.2.2.2.2.2.2.2.2.2.2.2.2
    have t9 := I.1.1
    have r0 := I.1.2.1
    have m0 := M.1
    obtain ⟨rf, rl⟩ := id Rn
    have rlen : ((pxRs T.1).length : Int) = T.1.length := by rw [pxRs_len]
    have dc : (T.1.drop (x - 1).toNat).take (m + 1) = pxAt T.1 x :: (T.1.drop (x + 1 - 1).toNat).take m := by
      rw [pxAt_drop (by omega) (by omega), List.take_succ_cons, show x + 1 - 1 = x by omega]
    rw [dc]
    -- behind the question whether the line is met
    have go : ∀ {h1 : jw_H} {t : Bool}, pxF pxQx h h1 → (pxMetF s c pa (pxAt T.1 x) = t) → ∃ h', g_X10_meet_b68 (f_X10_meet_b10 N) h1 559 (some oo) (pxJ x) (pxJ (if t = true then 1 else 0)) = some ((), h') ∧ pxF pxQ11 h h' ∧ pxMetA h' (acc ++ pxMetL s c pa (pxAt T.1 x :: (T.1.drop (x + 1 - 1).toNat).take m)) := by
      intro h1 t F1 et
      have F1' : pxF pxQ11 h h1 := F1.mono (fun k f z => by unfold pxQ11; exact Or.inr (Or.inr z))
      have W1 := W.f9 F1 (fun f => by unfold pxQx; omega)
      have Rn1 := Rn.fr F1 (fun f => by unfold pxQx; omega)
      have I1 : pxIX h1 T := pxIT.fr I F1 (fun k f _ _ => by unfold pxQx; omega)
      have A1 : pxMetA h1 acc := ⟨by rw [F1.m (by unfold pxQx; omega)]; exact A.1, A.2.1, fun y y1 y2 => by rw [F1.m (by unfold pxQx; omega)]; exact A.2.2 y y1 y2⟩
      have M1 := M.fx F1
      have P1 := PS.fr F1 (fun k f z => by unfold pxQx; omega)
      have m71 : pxM h1 10 7 = pxM h 10 7 := F1.m (by unfold pxQx; omega)
      have o6 : pxM h1 oo 6 = pxM h oo 6 := F1.m (by unfold pxQx; omega)
      have pe1 : c ≠ 123 → 0 ≤ pxM h1 oo 6 ∧ pxM h1 oo 6 + (pxFull s (pa + 2)).length ≤ pxM h1 10 7 ∧ pxEls h1 s (pxM h1 oo 6) (pxFull s (pa + 2)) := fun z => by
        obtain ⟨b1, b2, b3⟩ := pe z
        rw [o6, m71]; exact ⟨b1, b2, b3.fr F1 _ _ b1 (fun k f _ _ _ => by unfold pxQx; omega)⟩
      have f31 : pxM h1 oo 3 = c := by rw [F1.m (by unfold pxQx; omega)]; exact f3
      have t51 : (jw_t h1 oo).1 = 5 := by rw [F1.t]; exact t5
      cases t with
      | false =>
        obtain ⟨h2, v1, v2, v3⟩ := ih N h1 (x + 1) acc (by omega) (by omega) (by omega) (by omega) W1 M1 P1 (by omega) Rn1 I1 t51 f31 pe1 A1
        have eM : pxMetL s c pa (pxAt T.1 x :: (T.1.drop (x + 1 - 1).toNat).take m) = pxMetL s c pa ((T.1.drop (x + 1 - 1).toNat).take m) := by
          unfold pxMetL
          rw [List.filter_cons_of_neg (by rw [et]; simp)]
        rw [eM]
        refine ⟨h2, ?_, F1'.trans v2, v3⟩
        rw [show (if false = true then (1 : Int) else 0) = 0 from rfl]
        unfold g_X10_meet_b68 g_X10_meet_b112
        clear ih pe pe1 okp A A1 v3
        simp (maxSteps := 4000000) (disch := first | assumption | omega | (simp only [jw_t_I, px_cpt]; done) | (simp only [jw_t_I, px_cpt]; omega)) only [pxL0, pxL1, pxL2, pxL3, pxL4, pxL5, pxL6, pxL7, pxL8, pxL9, pxL10, pxL11, pxL12, pxL13, pxL14, pxL15, pxL16, pxL17, pxL18, pxL19, pxL20, pxL21, pxL22, pxL23, pxL24, pxL25, pxL26, pxL27, pxL28, pxL29, pxL30, pxL31, pxL32, pxL33, pxL34, pxL35, pxL36, pxL37, pxL38, pxL39, pxL40, pxL41, pxL42, pxL43, pxL44, pxL45, pxL46, pxL47, pxL48, pxL49, pxL51, pxL57, pxL58, pxL59, pxL60, pxL61, pxL62, pxL63, pxL64, pxL65, pxL66, pxL67, pxL68, pxL69, pxL70, pxL71, pxL72, pxL73, pxL74, pxL75, pxL76, pxL77, pxL78, pxL79, pxL80, pxL81, pxL82, pxL83, pxL84, pxL85, pxL86, pxL87, pxL88, pxL89, pxL90, pxL91, pxL92, pxL93, pxL94, pxL95, pxL96, pxL97, pxL98, pxL99, pxL100, pxL101, pxL102, pxL103, pxL104, pxL105, pxL106, pxL107, pxL108, pxL109, pxL110, pxL111, pxL112, pxL113, pxL114, pxL115, pxL116, pxL117, pxL118, pxL119, pxL120, pxL121, pxL122, pxL123, pxL124, pxL125, pxL126, pxL200, pxL240, pxL287, pxL388, pxL400, pxL429, pxL431, pxL440, pxL1240, pxL1600, pxL1681, pxL12028, pxL13849, pxL14880, pxL25173, pxL26908, pxL49600, pxL65535, pxL65536, ↓reduceIte, reduceCtorEq, pxJ_add, pxJ_sub, pxJ_mul, pxJ_neg, pxD_lt_t, pxD_lt_f, pxD_le_t, pxD_le_f, pxD_eq_t, pxD_eq_f, pxJ_lt, pxJ_le, pxJ_eq, px_gI, px_gR, px_pI, px_rc, px_ai, px_ar, px_si, px_ln, px_cp, pxJ_div, pxJ_b8, pxJ_byte, px_b2, px_bs, px_rb0, px_rb1, px_min, px_max, px_compare, pxW_some, jw_t_I, px_cpt, jw_r_I, px_cpr, jw_l_I, px_cpl, Option.some.injEq, v1]
      | true =>
        have eM : acc ++ pxMetL s c pa (pxAt T.1 x :: (T.1.drop (x + 1 - 1).toNat).take m) = acc ++ [pxId T.1 x] ++ pxMetL s c pa ((T.1.drop (x + 1 - 1).toNat).take m) := by
          unfold pxMetL
          rw [List.filter_cons_of_pos (by rw [et]), List.map_cons, List.append_assoc]
          rfl
        have io := s_X9_idOf I1 (x := x) (by omega) (by omega)
        rw [if_pos ⟨by omega, by omega⟩] at io
        have ir := pxIT.idr I1 (x := x) (by omega) (by omega)
        have w01 := W1.1
        have w11 := W1.2.2.1
        have w101 := W1.2.2.2.2.2.2.2.2.2.2.2.1
        have t201 := W1.2.2.2.2.2.2.2.2.2.2.2.2.2
        have t91 := I1.1.1
        have a11 := A1.1
        have F2 : pxF (fun k f => (k = 559 ∧ f = 11) ∨ k = 570) h1 (jw_setI (jw_setI h1 570 ((acc.length : Int)).toNat (pxJ (pxId T.1 x))) 559 11 (pxJ (acc.length + 1))) := (pxF.setI (Or.inr rfl)).trans (pxF.setI (Or.inl ⟨rfl, rfl⟩))
        have A2 : pxMetA (jw_setI (jw_setI h1 570 ((acc.length : Int)).toNat (pxJ (pxId T.1 x))) 559 11 (pxJ (acc.length + 1))) (acc ++ [pxId T.1 x]) := by
          refine ⟨by rw [pxM_eq (by omega) (by omega), List.length_append, List.length_singleton]; omega, by rw [List.length_append, List.length_singleton]; omega, fun y y1 y2 => ?_⟩
          rw [List.length_append, List.length_singleton] at y2
          rw [pxM_ne (by omega)]
          by_cases e : y = acc.length + 1
          · rw [pxG_app1 e, e, show ((acc.length : Int) + 1 - 1).toNat = ((acc.length : Int)).toNat by omega, pxM_eq ir.1 ir.2]
          · rw [pxM_ne (by omega), pxG_appL y1 (by omega)]
            exact A1.2.2 y y1 (by omega)
        have m72 : pxM (jw_setI (jw_setI h1 570 ((acc.length : Int)).toNat (pxJ (pxId T.1 x))) 559 11 (pxJ (acc.length + 1))) 10 7 = pxM h1 10 7 := F2.m (by omega)
        have o62 : pxM (jw_setI (jw_setI h1 570 ((acc.length : Int)).toNat (pxJ (pxId T.1 x))) 559 11 (pxJ (acc.length + 1))) oo 6 = pxM h1 oo 6 := F2.m (by omega)
        obtain ⟨h2, v1, v2, v3⟩ := ih N _ (x + 1) (acc ++ [pxId T.1 x]) (by omega) (by omega) (by omega) (by rw [List.length_append, List.length_singleton]; omega) (W1.fr F2 (fun f z => by omega)) (M1.fr F2 (fun f z => by omega)) (P1.fr F2 (fun k f z => by omega)) (by omega) ⟨by rw [F2.m (by omega)]; exact Rn1.1, by rw [F2.m (by omega)]; exact Rn1.2⟩ (pxIT.fr I1 F2 (fun k f _ _ => by omega)) t51 (by rw [F2.m (by omega)]; exact f31) (fun z => by
          obtain ⟨b1, b2, b3⟩ := pe1 z
          rw [o62, m72]; exact ⟨b1, b2, b3.fr F2 _ _ b1 (fun k f _ _ _ => by omega)⟩) A2
        rw [eM]
        refine ⟨h2, ?_, F1'.trans ((F2.mono (fun k f z => by unfold pxQ11; omega)).trans v2), v3⟩
        have ln : jw_ln h1 (some 570) = some (pxJ 40) := by rw [px_ln (by rw [t201]; simp), t201]; rfl
        have si : jw_si h1 20 (some 570) (pxJ acc.length) (pxJ (pxId T.1 x)) = some (jw_setI h1 570 ((acc.length : Int)).toNat (pxJ (pxId T.1 x))) := px_si (by rw [t201]) (by omega) (by rw [t201]; show (acc.length : Int) < ((40 : Nat) : Int); omega) (by omega)
        have w02 : (jw_t (jw_setI h1 570 ((acc.length : Int)).toNat (pxJ (pxId T.1 x))) 559).1 = 10 := w01
        have a12 : pxM (jw_setI h1 570 ((acc.length : Int)).toNat (pxJ (pxId T.1 x))) 559 11 = acc.length := by rw [pxM_ne (by omega)]; exact a11
        rw [show (if true = true then (1 : Int) else 0) = 1 from rfl]
        unfold g_X10_meet_b68 g_X10_meet_b112
        clear ih pe pe1 okp A A1 A2 v3 F2 m72 o62
        simp (maxSteps := 4000000) (disch := first | assumption | omega | (simp only [jw_t_I, px_cpt]; done) | (simp only [jw_t_I, px_cpt]; omega)) only [pxL0, pxL1, pxL2, pxL3, pxL4, pxL5, pxL6, pxL7, pxL8, pxL9, pxL10, pxL11, pxL12, pxL13, pxL14, pxL15, pxL16, pxL17, pxL18, pxL19, pxL20, pxL21, pxL22, pxL23, pxL24, pxL25, pxL26, pxL27, pxL28, pxL29, pxL30, pxL31, pxL32, pxL33, pxL34, pxL35, pxL36, pxL37, pxL38, pxL39, pxL40, pxL41, pxL42, pxL43, pxL44, pxL45, pxL46, pxL47, pxL48, pxL49, pxL51, pxL57, pxL58, pxL59, pxL60, pxL61, pxL62, pxL63, pxL64, pxL65, pxL66, pxL67, pxL68, pxL69, pxL70, pxL71, pxL72, pxL73, pxL74, pxL75, pxL76, pxL77, pxL78, pxL79, pxL80, pxL81, pxL82, pxL83, pxL84, pxL85, pxL86, pxL87, pxL88, pxL89, pxL90, pxL91, pxL92, pxL93, pxL94, pxL95, pxL96, pxL97, pxL98, pxL99, pxL100, pxL101, pxL102, pxL103, pxL104, pxL105, pxL106, pxL107, pxL108, pxL109, pxL110, pxL111, pxL112, pxL113, pxL114, pxL115, pxL116, pxL117, pxL118, pxL119, pxL120, pxL121, pxL122, pxL123, pxL124, pxL125, pxL126, pxL200, pxL240, pxL287, pxL388, pxL400, pxL429, pxL431, pxL440, pxL1240, pxL1600, pxL1681, pxL12028, pxL13849, pxL14880, pxL25173, pxL26908, pxL49600, pxL65535, pxL65536, ↓reduceIte, reduceCtorEq, pxJ_add, pxJ_sub, pxJ_mul, pxJ_neg, pxD_lt_t, pxD_lt_f, pxD_le_t, pxD_le_f, pxD_eq_t, pxD_eq_f, pxJ_lt, pxJ_le, pxJ_eq, px_gI, px_gR, px_pI, px_rc, px_ai, px_ar, px_si, px_ln, px_cp, pxJ_div, pxJ_b8, pxJ_byte, px_b2, px_bs, px_rb0, px_rb1, px_min, px_max, px_compare, pxW_some, jw_t_I, px_cpt, jw_r_I, px_cpr, jw_l_I, px_cpl, Option.some.injEq, w01, a11, w101, ln, w11, t91, io, si, a12, v1]
    rw [u_X10_meet_b10]
    unfold g_X10_meet_b10 g_X10_meet_b60 g_X10_meet_b63
    by_cases c1 : c = 123
    · have et : pxMetF s c pa (pxAt T.1 x) = true := by unfold pxMetF; rw [decide_eq_true c1]; rfl
      obtain ⟨h', e1, e2⟩ := go pxF.rfl et
      refine ⟨h', ?_, e2⟩
      rw [show (if true = true then (1 : Int) else 0) = 1 from rfl] at e1
      rw [← e1]
      clear go ih pe okp A e2
      simp (maxSteps := 4000000) (disch := first | assumption | omega | (simp only [jw_t_I, px_cpt]; done) | (simp only [jw_t_I, px_cpt]; omega)) only [pxL0, pxL1, pxL2, pxL3, pxL4, pxL5, pxL6, pxL7, pxL8, pxL9, pxL10, pxL11, pxL12, pxL13, pxL14, pxL15, pxL16, pxL17, pxL18, pxL19, pxL20, pxL21, pxL22, pxL23, pxL24, pxL25, pxL26, pxL27, pxL28, pxL29, pxL30, pxL31, pxL32, pxL33, pxL34, pxL35, pxL36, pxL37, pxL38, pxL39, pxL40, pxL41, pxL42, pxL43, pxL44, pxL45, pxL46, pxL47, pxL48, pxL49, pxL51, pxL57, pxL58, pxL59, pxL60, pxL61, pxL62, pxL63, pxL64, pxL65, pxL66, pxL67, pxL68, pxL69, pxL70, pxL71, pxL72, pxL73, pxL74, pxL75, pxL76, pxL77, pxL78, pxL79, pxL80, pxL81, pxL82, pxL83, pxL84, pxL85, pxL86, pxL87, pxL88, pxL89, pxL90, pxL91, pxL92, pxL93, pxL94, pxL95, pxL96, pxL97, pxL98, pxL99, pxL100, pxL101, pxL102, pxL103, pxL104, pxL105, pxL106, pxL107, pxL108, pxL109, pxL110, pxL111, pxL112, pxL113, pxL114, pxL115, pxL116, pxL117, pxL118, pxL119, pxL120, pxL121, pxL122, pxL123, pxL124, pxL125, pxL126, pxL200, pxL240, pxL287, pxL388, pxL400, pxL429, pxL431, pxL440, pxL1240, pxL1600, pxL1681, pxL12028, pxL13849, pxL14880, pxL25173, pxL26908, pxL49600, pxL65535, pxL65536, ↓reduceIte, reduceCtorEq, pxJ_add, pxJ_sub, pxJ_mul, pxJ_neg, pxD_lt_t, pxD_lt_f, pxD_le_t, pxD_le_f, pxD_eq_t, pxD_eq_f, pxJ_lt, pxJ_le, pxJ_eq, px_gI, px_gR, px_pI, px_rc, px_ai, px_ar, px_si, px_ln, px_cp, pxJ_div, pxJ_b8, pxJ_byte, px_b2, px_bs, px_rb0, px_rb1, px_min, px_max, px_compare, pxW_some, jw_t_I, px_cpt, jw_r_I, px_cpr, jw_l_I, px_cpl, Option.some.injEq, w0, rl, f3, c1]
    · obtain ⟨b1, b2, b3⟩ := pe c1
      have wf := pxFull_w (okp c1)
      obtain ⟨h1, v1, v2, -⟩ := s_X4_holds (ρ := 256) (x := x) (by omega) (by omega) M I.2.1 (by omega) (by omega) wf.1 (⟨PS, rfl, m7, b1, b2, b3⟩ : pxPE h s (pxM h oo 6) (pxM h 10 7) (pxFull s (pa + 2)))
      have e6 : jw_i h oo 6 = pxJ (pxM h oo 6) := pxM_J h oo 6
      have f31 : pxM h1 oo 3 = c := by rw [v2.m (by unfold pxQx; omega)]; exact f3
      have t51 : (jw_t h1 oo).1 = 5 := by rw [v2.t]; exact t5
      have er : (pxAt T.1 x).2 = pxRw (pxRs T.1) x := (pxRs_at T.1 x).symm
      generalize hq : pxHolds s (pxFull s (pa + 2)) (pxRw (pxRs T.1) x) = q at v1
      have et : pxMetF s c pa (pxAt T.1 x) = (q == decide (c = 103)) := by
        unfold pxMetF
        rw [decide_eq_false c1, er, hq, Bool.false_or]
      obtain ⟨h', e1, e2⟩ := go v2 et
      refine ⟨h', ?_, e2⟩
      rw [← e1]
      clear go ih pe okp A e2 b3 et
      by_cases c2 : c = 103
      · rw [decide_eq_true c2]
        cases q with
        | true =>
          rw [show (if (true == true) = true then (1 : Int) else 0) = 1 from rfl]
          rw [show (if true = true then (1 : Int) else 0) = 1 from rfl] at v1
          simp (maxSteps := 4000000) (disch := first | assumption | omega | (simp only [jw_t_I, px_cpt]; done) | (simp only [jw_t_I, px_cpt]; omega)) only [pxL0, pxL1, pxL2, pxL3, pxL4, pxL5, pxL6, pxL7, pxL8, pxL9, pxL10, pxL11, pxL12, pxL13, pxL14, pxL15, pxL16, pxL17, pxL18, pxL19, pxL20, pxL21, pxL22, pxL23, pxL24, pxL25, pxL26, pxL27, pxL28, pxL29, pxL30, pxL31, pxL32, pxL33, pxL34, pxL35, pxL36, pxL37, pxL38, pxL39, pxL40, pxL41, pxL42, pxL43, pxL44, pxL45, pxL46, pxL47, pxL48, pxL49, pxL51, pxL57, pxL58, pxL59, pxL60, pxL61, pxL62, pxL63, pxL64, pxL65, pxL66, pxL67, pxL68, pxL69, pxL70, pxL71, pxL72, pxL73, pxL74, pxL75, pxL76, pxL77, pxL78, pxL79, pxL80, pxL81, pxL82, pxL83, pxL84, pxL85, pxL86, pxL87, pxL88, pxL89, pxL90, pxL91, pxL92, pxL93, pxL94, pxL95, pxL96, pxL97, pxL98, pxL99, pxL100, pxL101, pxL102, pxL103, pxL104, pxL105, pxL106, pxL107, pxL108, pxL109, pxL110, pxL111, pxL112, pxL113, pxL114, pxL115, pxL116, pxL117, pxL118, pxL119, pxL120, pxL121, pxL122, pxL123, pxL124, pxL125, pxL126, pxL200, pxL240, pxL287, pxL388, pxL400, pxL429, pxL431, pxL440, pxL1240, pxL1600, pxL1681, pxL12028, pxL13849, pxL14880, pxL25173, pxL26908, pxL49600, pxL65535, pxL65536, ↓reduceIte, reduceCtorEq, pxJ_add, pxJ_sub, pxJ_mul, pxJ_neg, pxD_lt_t, pxD_lt_f, pxD_le_t, pxD_le_f, pxD_eq_t, pxD_eq_f, pxJ_lt, pxJ_le, pxJ_eq, px_gI, px_gR, px_pI, px_rc, px_ai, px_ar, px_si, px_ln, px_cp, pxJ_div, pxJ_b8, pxJ_byte, px_b2, px_bs, px_rb0, px_rb1, px_min, px_max, px_compare, pxW_some, jw_t_I, px_cpt, jw_r_I, px_cpr, jw_l_I, px_cpl, Option.some.injEq, w0, rl, f3, c2, w4, w1, t9, r0, m0, v1, f31]
        | false =>
          rw [show (if (false == true) = true then (1 : Int) else 0) = 0 from rfl]
          rw [show (if false = true then (1 : Int) else 0) = 0 from rfl] at v1
          simp (maxSteps := 4000000) (disch := first | assumption | omega | (simp only [jw_t_I, px_cpt]; done) | (simp only [jw_t_I, px_cpt]; omega)) only [pxL0, pxL1, pxL2, pxL3, pxL4, pxL5, pxL6, pxL7, pxL8, pxL9, pxL10, pxL11, pxL12, pxL13, pxL14, pxL15, pxL16, pxL17, pxL18, pxL19, pxL20, pxL21, pxL22, pxL23, pxL24, pxL25, pxL26, pxL27, pxL28, pxL29, pxL30, pxL31, pxL32, pxL33, pxL34, pxL35, pxL36, pxL37, pxL38, pxL39, pxL40, pxL41, pxL42, pxL43, pxL44, pxL45, pxL46, pxL47, pxL48, pxL49, pxL51, pxL57, pxL58, pxL59, pxL60, pxL61, pxL62, pxL63, pxL64, pxL65, pxL66, pxL67, pxL68, pxL69, pxL70, pxL71, pxL72, pxL73, pxL74, pxL75, pxL76, pxL77, pxL78, pxL79, pxL80, pxL81, pxL82, pxL83, pxL84, pxL85, pxL86, pxL87, pxL88, pxL89, pxL90, pxL91, pxL92, pxL93, pxL94, pxL95, pxL96, pxL97, pxL98, pxL99, pxL100, pxL101, pxL102, pxL103, pxL104, pxL105, pxL106, pxL107, pxL108, pxL109, pxL110, pxL111, pxL112, pxL113, pxL114, pxL115, pxL116, pxL117, pxL118, pxL119, pxL120, pxL121, pxL122, pxL123, pxL124, pxL125, pxL126, pxL200, pxL240, pxL287, pxL388, pxL400, pxL429, pxL431, pxL440, pxL1240, pxL1600, pxL1681, pxL12028, pxL13849, pxL14880, pxL25173, pxL26908, pxL49600, pxL65535, pxL65536, ↓reduceIte, reduceCtorEq, pxJ_add, pxJ_sub, pxJ_mul, pxJ_neg, pxD_lt_t, pxD_lt_f, pxD_le_t, pxD_le_f, pxD_eq_t, pxD_eq_f, pxJ_lt, pxJ_le, pxJ_eq, px_gI, px_gR, px_pI, px_rc, px_ai, px_ar, px_si, px_ln, px_cp, pxJ_div, pxJ_b8, pxJ_byte, px_b2, px_bs, px_rb0, px_rb1, px_min, px_max, px_compare, pxW_some, jw_t_I, px_cpt, jw_r_I, px_cpr, jw_l_I, px_cpl, Option.some.injEq, w0, rl, f3, c2, w4, w1, t9, r0, m0, v1, f31]
      · rw [decide_eq_false c2]
        cases q with
        | true =>
          rw [show (if (true == false) = true then (1 : Int) else 0) = 0 from rfl]
          rw [show (if true = true then (1 : Int) else 0) = 1 from rfl] at v1
          simp (maxSteps := 4000000) (disch := first | assumption | omega | (simp only [jw_t_I, px_cpt]; done) | (simp only [jw_t_I, px_cpt]; omega)) only [pxL0, pxL1, pxL2, pxL3, pxL4, pxL5, pxL6, pxL7, pxL8, pxL9, pxL10, pxL11, pxL12, pxL13, pxL14, pxL15, pxL16, pxL17, pxL18, pxL19, pxL20, pxL21, pxL22, pxL23, pxL24, pxL25, pxL26, pxL27, pxL28, pxL29, pxL30, pxL31, pxL32, pxL33, pxL34, pxL35, pxL36, pxL37, pxL38, pxL39, pxL40, pxL41, pxL42, pxL43, pxL44, pxL45, pxL46, pxL47, pxL48, pxL49, pxL51, pxL57, pxL58, pxL59, pxL60, pxL61, pxL62, pxL63, pxL64, pxL65, pxL66, pxL67, pxL68, pxL69, pxL70, pxL71, pxL72, pxL73, pxL74, pxL75, pxL76, pxL77, pxL78, pxL79, pxL80, pxL81, pxL82, pxL83, pxL84, pxL85, pxL86, pxL87, pxL88, pxL89, pxL90, pxL91, pxL92, pxL93, pxL94, pxL95, pxL96, pxL97, pxL98, pxL99, pxL100, pxL101, pxL102, pxL103, pxL104, pxL105, pxL106, pxL107, pxL108, pxL109, pxL110, pxL111, pxL112, pxL113, pxL114, pxL115, pxL116, pxL117, pxL118, pxL119, pxL120, pxL121, pxL122, pxL123, pxL124, pxL125, pxL126, pxL200, pxL240, pxL287, pxL388, pxL400, pxL429, pxL431, pxL440, pxL1240, pxL1600, pxL1681, pxL12028, pxL13849, pxL14880, pxL25173, pxL26908, pxL49600, pxL65535, pxL65536, ↓reduceIte, reduceCtorEq, pxJ_add, pxJ_sub, pxJ_mul, pxJ_neg, pxD_lt_t, pxD_lt_f, pxD_le_t, pxD_le_f, pxD_eq_t, pxD_eq_f, pxJ_lt, pxJ_le, pxJ_eq, px_gI, px_gR, px_pI, px_rc, px_ai, px_ar, px_si, px_ln, px_cp, pxJ_div, pxJ_b8, pxJ_byte, px_b2, px_bs, px_rb0, px_rb1, px_min, px_max, px_compare, pxW_some, jw_t_I, px_cpt, jw_r_I, px_cpr, jw_l_I, px_cpl, Option.some.injEq, w0, rl, f3, w4, w1, t9, r0, m0, v1, f31]
        | false =>
          rw [show (if (false == false) = true then (1 : Int) else 0) = 1 from rfl]
          rw [show (if false = true then (1 : Int) else 0) = 0 from rfl] at v1
          simp (maxSteps := 4000000) (disch := first | assumption | omega | (simp only [jw_t_I, px_cpt]; done) | (simp only [jw_t_I, px_cpt]; omega)) only [pxL0, pxL1, pxL2, pxL3, pxL4, pxL5, pxL6, pxL7, pxL8, pxL9, pxL10, pxL11, pxL12, pxL13, pxL14, pxL15, pxL16, pxL17, pxL18, pxL19, pxL20, pxL21, pxL22, pxL23, pxL24, pxL25, pxL26, pxL27, pxL28, pxL29, pxL30, pxL31, pxL32, pxL33, pxL34, pxL35, pxL36, pxL37, pxL38, pxL39, pxL40, pxL41, pxL42, pxL43, pxL44, pxL45, pxL46, pxL47, pxL48, pxL49, pxL51, pxL57, pxL58, pxL59, pxL60, pxL61, pxL62, pxL63, pxL64, pxL65, pxL66, pxL67, pxL68, pxL69, pxL70, pxL71, pxL72, pxL73, pxL74, pxL75, pxL76, pxL77, pxL78, pxL79, pxL80, pxL81, pxL82, pxL83, pxL84, pxL85, pxL86, pxL87, pxL88, pxL89, pxL90, pxL91, pxL92, pxL93, pxL94, pxL95, pxL96, pxL97, pxL98, pxL99, pxL100, pxL101, pxL102, pxL103, pxL104, pxL105, pxL106, pxL107, pxL108, pxL109, pxL110, pxL111, pxL112, pxL113, pxL114, pxL115, pxL116, pxL117, pxL118, pxL119, pxL120, pxL121, pxL122, pxL123, pxL124, pxL125, pxL126, pxL200, pxL240, pxL287, pxL388, pxL400, pxL429, pxL431, pxL440, pxL1240, pxL1600, pxL1681, pxL12028, pxL13849, pxL14880, pxL25173, pxL26908, pxL49600, pxL65535, pxL65536, ↓reduceIte, reduceCtorEq, pxJ_add, pxJ_sub, pxJ_mul, pxJ_neg, pxD_lt_t, pxD_lt_f, pxD_le_t, pxD_le_f, pxD_eq_t, pxD_eq_f, pxJ_lt, pxJ_le, pxJ_eq, px_gI, px_gR, px_pI, px_rc, px_ai, px_ar, px_si, px_ln, px_cp, pxJ_div, pxJ_b8, pxJ_byte, px_b2, px_bs, px_rb0, px_rb1, px_min, px_max, px_compare, pxW_some, jw_t_I, px_cpt, jw_r_I, px_cpr, jw_l_I, px_cpl, Option.some.injEq, w0, rl, f3, w4, w1, t9, r0, m0, v1, f31]
theorem s_X10_meet {h : jw_H} {oo : Nat} {c pa : Int} (ho : oo < 252) (f1 : 1 ≤ f) (fl : f ≤ l + 1) (l1 : l ≤ T.1.length) (cc : c = 103 ∨ c = 71 ∨ c = 123) (okp : c ≠ 123 → (pxPat s (pa + 2)).1 = true) (W : pxWF h) (M : pxMS h) (PS : pxPS h) (m7 : pxM h 10 7 ≤ 120) (Rn : pxRn h f l) (I : pxIX h T) (t5 : (jw_t h oo).1 = 5) (f3 : pxM h oo 3 = c) (pe : c ≠ 123 → 0 ≤ pxM h oo 6 ∧ pxM h oo 6 + (pxFull s (pa + 2)).length ≤ pxM h 10 7 ∧ pxEls h s (pxM h oo 6) (pxFull s (pa + 2))) :
    ∃ h', f_X10_meet h 559 (some oo) = some ((), h') ∧ pxF pxQ11 h h' ∧ pxMetA h' (pxMetL s c pa (pxSub T.1 f l)) := by
  have l40 := pxIT.len I
  have w0 := W.1
  have F : pxF (fun k f => k = 559 ∧ f = 11) h (jw_setI h 559 11 (pxJ 0)) := pxF.setI ⟨rfl, rfl⟩
  have m72 : pxM (jw_setI h 559 11 (pxJ 0)) 10 7 = pxM h 10 7 := F.m (by omega)
  have o62 : pxM (jw_setI h 559 11 (pxJ 0)) oo 6 = pxM h oo 6 := F.m (by omega)
  have Rn1 : pxRn (jw_setI h 559 11 (pxJ 0)) f l := ⟨by rw [F.m (by omega)]; exact Rn.1, by rw [F.m (by omega)]; exact Rn.2⟩
  obtain ⟨h1, v1, v2, v3⟩ := s_X10_meet_b10 (c := c) (pa := pa) ho f1 l1 cc okp (l - f + 1).toNat jw_FU _ f [] (by omega) (by unfold jw_FU; omega) (Int.le_refl _) (by simp) (W.fr F (fun f z => by omega)) (M.fr F (fun f z => by omega)) (PS.fr F (fun k f z => by omega)) (by omega) Rn1 (pxIT.fr I F (fun k f _ _ => by omega)) t5 (by rw [F.m (by omega)]; exact f3) (fun z => by
    obtain ⟨b1, b2, b3⟩ := pe z
    rw [o62, m72]; exact ⟨b1, b2, b3.fr F _ _ b1 (fun k f _ _ _ => by omega)⟩) ⟨pxM_eq (by omega) (by omega), by simp, fun y y1 y2 => by simp at y2; omega⟩
  refine ⟨h1, ?_, (F.mono (fun k f z => by unfold pxQ11; omega)).trans v2, ?_⟩
  · have rf1 := Rn1.1
    unfold f_X10_meet
    clear pe okp v3
    simp (maxSteps := 4000000) (disch := first | assumption | omega | (simp only [jw_t_I, px_cpt]; done) | (simp only [jw_t_I, px_cpt]; omega)) only [pxL0, pxL1, pxL2, pxL3, pxL4, pxL5, pxL6, pxL7, pxL8, pxL9, pxL10, pxL11, pxL12, pxL13, pxL14, pxL15, pxL16, pxL17, pxL18, pxL19, pxL20, pxL21, pxL22, pxL23, pxL24, pxL25, pxL26, pxL27, pxL28, pxL29, pxL30, pxL31, pxL32, pxL33, pxL34, pxL35, pxL36, pxL37, pxL38, pxL39, pxL40, pxL41, pxL42, pxL43, pxL44, pxL45, pxL46, pxL47, pxL48, pxL49, pxL51, pxL57, pxL58, pxL59, pxL60, pxL61, pxL62, pxL63, pxL64, pxL65, pxL66, pxL67, pxL68, pxL69, pxL70, pxL71, pxL72, pxL73, pxL74, pxL75, pxL76, pxL77, pxL78, pxL79, pxL80, pxL81, pxL82, pxL83, pxL84, pxL85, pxL86, pxL87, pxL88, pxL89, pxL90, pxL91, pxL92, pxL93, pxL94, pxL95, pxL96, pxL97, pxL98, pxL99, pxL100, pxL101, pxL102, pxL103, pxL104, pxL105, pxL106, pxL107, pxL108, pxL109, pxL110, pxL111, pxL112, pxL113, pxL114, pxL115, pxL116, pxL117, pxL118, pxL119, pxL120, pxL121, pxL122, pxL123, pxL124, pxL125, pxL126, pxL200, pxL240, pxL287, pxL388, pxL400, pxL429, pxL431, pxL440, pxL1240, pxL1600, pxL1681, pxL12028, pxL13849, pxL14880, pxL25173, pxL26908, pxL49600, pxL65535, pxL65536, ↓reduceIte, reduceCtorEq, pxJ_add, pxJ_sub, pxJ_mul, pxJ_neg, pxD_lt_t, pxD_lt_f, pxD_le_t, pxD_le_f, pxD_eq_t, pxD_eq_f, pxJ_lt, pxJ_le, pxJ_eq, px_gI, px_gR, px_pI, px_rc, px_ai, px_ar, px_si, px_ln, px_cp, pxJ_div, pxJ_b8, pxJ_byte, px_b2, px_bs, px_rb0, px_rb1, px_min, px_max, px_compare, pxW_some, jw_t_I, px_cpt, jw_r_I, px_cpr, jw_l_I, px_cpl, Option.some.injEq, w0, rf1, v1]
  · rw [List.nil_append] at v3
    exact v3
end
