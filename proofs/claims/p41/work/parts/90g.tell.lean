/-! orders line by line: acts on the stores, and on the row -/
theorem pxBR.mk {T : pxTx} {h h' : jw_H} {r : Int × pxBe} {β' : pxBe} (F : pxF pxQB h h') (m : pxM h' 571 15 = r.1) (H : pxBS h' T β') (e : r.1 = 0 → β' = r.2) : pxBR T h r h' := ⟨F, m, β', H, e⟩
section
variable {T : pxTx} {W : pxWk} {Fr : pxFh} {S : pxSto} {rep : Bool} {h : jw_H} {s : List Int} {oo : Nat} {p : Int}
/-- a reason is set -/
theorem pxBS.s15 {h1 : jw_H} {r : Int × pxBe} {β' : pxBe} {q : Int} (F : pxF pxQB h h1) (H : pxBS h1 T β') (q0 : -1000 ≤ q) (q1 : q ≤ 1000) (e1 : r.1 = q) (e : r.1 = 0 → β' = r.2) : pxBR T h r (jw_setI h1 571 15 (pxJ q)) := by
  have F2 : pxF (fun k f => k = 571 ∧ f = 15) h1 (jw_setI h1 571 15 (pxJ q)) := pxF.setI ⟨rfl, rfl⟩
  exact ⟨F.trans (F2.mono (fun k f z => by unfold pxQB; omega)), by rw [e1]; exact pxM_eq (by omega) (by omega), β', H.fr F2 (fun k f z => by omega), e⟩
theorem pxPrint1 {pre : List Int} {r : List Int} {ou : List (List Int)} : pxPrint (fun _ => pre) [r] 1 1 ou = if (pre ++ r).length ≤ 30 ∧ ou.length < 100 then some (ou ++ [pre ++ r]) else none := rfl
theorem s_X1_tell (H : pxBS h T (W, Fr, S, rep)) (m15 : pxM h 571 15 = 0) (t5 : (jw_t h oo).1 = 5) (f3 : pxM h oo 3 = pxP s p) (ho : oo < 252)
    (c : pxP s p = 112 ∨ pxP s p = 110 ∨ pxP s p = 61 ∨ pxP s p = 104 ∨ pxP s p = 72 ∨ (pxP s p = 107 ∧ pxM h oo 5 = pxP s (p + 1) - 97 ∧ 97 ≤ pxP s (p + 1) ∧ pxP s (p + 1) ≤ 101) ∨ (pxP s p = 119 ∧ pxM h oo 5 = pxP s (p + 1) - 48 ∧ 48 ≤ pxP s (p + 1) ∧ pxP s (p + 1) ≤ 51)) :
    pxW (f_X1_tell h 571 (some oo)) fun _ h' => pxBR T h (pxBTell s p W Fr S rep) h' := by
  obtain ⟨a1, a2, a3, a4, ⟨now, a5⟩, a6, ⟨b1, b2, b3, b4, b5, b6, b7, b8, -⟩, -, a9, a10, a11, a12⟩ := pxBS_i.mp H
  obtain ⟨t1, r0, r1, r2, r3, r4, r5, r6, r7, r8, r9⟩ := a1
  have l40 := pxIT.len a4
  have t8 := a6.1.1
  have rw1 : pxRw [W.2.2.2.2.2.1] 1 = W.2.2.2.2.2.1 := rfl
  have sub1 : pxSub [W.2.2.2.2.2.1] 1 1 = [W.2.2.2.2.2.1] := rfl
  have l1 : (1 : Int) ≤ ([W.2.2.2.2.2.1].length : Int) := by show (1 : Int) ≤ ((1 : Nat) : Int); omega
  have Fs : ∀ {h' : jw_H}, pxF (pxC 261 (261 + 20)) h h' → pxF pxQB h h' := fun F => F.mono (fun k f z => by unfold pxC at z; unfold pxQB; omega)
  unfold pxBTell f_X1_tell
  by_cases c61 : pxP s p = 61
  · rw [if_pos c61]
    obtain ⟨q, h1, e1, F1, eq, Y1⟩ := s_X8_printNumber a6 (n := W.2.1) (by omega) (by omega)
    have t11 : (jw_t h1 571).1 = 1 := by rw [F1.t]; exact t1
    rw [eq] at e1
    refine ⟨(), jw_setI h1 571 15 (pxJ (if S.2.1.length < 100 then 0 else 4)), ?_, ?_⟩
    · clear H a2 a3 a4 a5 a6 b6 b7 Y1 F1 Fs eq
      simp (maxSteps := 4000000) (disch := first | assumption | omega | (simp only [jw_t_I, px_cpt]; done) | (simp only [jw_t_I, px_cpt]; omega)) only [pxL0, pxL1, pxL2, pxL3, pxL4, pxL5, pxL6, pxL7, pxL8, pxL9, pxL10, pxL11, pxL12, pxL13, pxL14, pxL15, pxL16, pxL17, pxL18, pxL19, pxL20, pxL21, pxL22, pxL23, pxL24, pxL25, pxL26, pxL27, pxL28, pxL29, pxL30, pxL31, pxL32, pxL33, pxL34, pxL35, pxL36, pxL37, pxL38, pxL39, pxL40, pxL41, pxL42, pxL43, pxL44, pxL45, pxL46, pxL47, pxL48, pxL49, pxL51, pxL57, pxL58, pxL59, pxL60, pxL61, pxL62, pxL63, pxL64, pxL65, pxL66, pxL67, pxL68, pxL69, pxL70, pxL71, pxL72, pxL73, pxL74, pxL75, pxL76, pxL77, pxL78, pxL79, pxL80, pxL81, pxL82, pxL83, pxL84, pxL85, pxL86, pxL87, pxL88, pxL89, pxL90, pxL91, pxL92, pxL93, pxL94, pxL95, pxL96, pxL97, pxL98, pxL99, pxL100, pxL101, pxL102, pxL103, pxL104, pxL105, pxL106, pxL107, pxL108, pxL109, pxL110, pxL111, pxL112, pxL113, pxL114, pxL115, pxL116, pxL117, pxL118, pxL119, pxL120, pxL121, pxL122, pxL123, pxL124, pxL125, pxL126, pxL200, pxL240, pxL287, pxL388, pxL400, pxL429, pxL431, pxL440, pxL1240, pxL1600, pxL1681, pxL12028, pxL13849, pxL14880, pxL25173, pxL26908, pxL49600, pxL65535, pxL65536, ↓reduceIte, reduceCtorEq, pxJ_add, pxJ_sub, pxJ_mul, pxJ_neg, pxD_lt_t, pxD_lt_f, pxD_le_t, pxD_le_f, pxD_eq_t, pxD_eq_f, pxJ_lt, pxJ_le, pxJ_eq, px_gI, px_gR, px_pI, px_rc, px_ai, px_ar, px_si, px_ln, px_cp, pxJ_div, pxJ_b8, pxJ_byte, px_b2, px_bs, px_rb0, px_rb1, px_min, px_max, px_compare, pxW_some, jw_t_I, px_cpt, jw_r_I, px_cpr, jw_l_I, px_cpl, Option.some.injEq, t5, f3, c61, t1, r2, b2, t8, e1, t11]
    · have H1 := H.setS F1 (fun k f z => by unfold pxC at z; omega) (S' := (S.1, (if S.2.1.length < 100 then S.2.1 ++ [pxDig W.2.1] else S.2.1), S.2.2)) Y1
      by_cases d : S.2.1.length < 100
      · rw [if_pos d] at H1 ⊢
        rw [if_pos d]
        exact pxBS.s15 (Fs F1) H1 (by omega) (by omega) rfl (fun _ => rfl)
      · rw [if_neg d] at H1 ⊢
        rw [if_neg d]
        exact pxBS.s15 (Fs F1) H1 (by omega) (by omega) rfl (fun z => absurd z (by show ¬ (4 : Int) = 0; omega))
  rw [if_neg c61]
  by_cases c72 : pxP s p = 72
  · rw [if_pos c72]
    obtain ⟨q, h1, e1, F1, eq, Y1⟩ := s_X8_holdMore a6 b6 (x := 1) (y := 1) (by omega) (by omega) (by omega) l1
    have t11 : (jw_t h1 571).1 = 1 := by rw [F1.t]; exact t1
    rw [eq] at e1
    rw [sub1] at Y1
    refine ⟨(), jw_setI h1 571 15 (pxJ (if (S.1.length : Int) + (1 - 1 + 1) ≤ 40 then 0 else 4)), ?_, ?_⟩
    · clear H a2 a3 a4 a5 a6 b6 b7 Y1 F1 Fs eq
      simp (maxSteps := 4000000) (disch := first | assumption | omega | (simp only [jw_t_I, px_cpt]; done) | (simp only [jw_t_I, px_cpt]; omega)) only [pxL0, pxL1, pxL2, pxL3, pxL4, pxL5, pxL6, pxL7, pxL8, pxL9, pxL10, pxL11, pxL12, pxL13, pxL14, pxL15, pxL16, pxL17, pxL18, pxL19, pxL20, pxL21, pxL22, pxL23, pxL24, pxL25, pxL26, pxL27, pxL28, pxL29, pxL30, pxL31, pxL32, pxL33, pxL34, pxL35, pxL36, pxL37, pxL38, pxL39, pxL40, pxL41, pxL42, pxL43, pxL44, pxL45, pxL46, pxL47, pxL48, pxL49, pxL51, pxL57, pxL58, pxL59, pxL60, pxL61, pxL62, pxL63, pxL64, pxL65, pxL66, pxL67, pxL68, pxL69, pxL70, pxL71, pxL72, pxL73, pxL74, pxL75, pxL76, pxL77, pxL78, pxL79, pxL80, pxL81, pxL82, pxL83, pxL84, pxL85, pxL86, pxL87, pxL88, pxL89, pxL90, pxL91, pxL92, pxL93, pxL94, pxL95, pxL96, pxL97, pxL98, pxL99, pxL100, pxL101, pxL102, pxL103, pxL104, pxL105, pxL106, pxL107, pxL108, pxL109, pxL110, pxL111, pxL112, pxL113, pxL114, pxL115, pxL116, pxL117, pxL118, pxL119, pxL120, pxL121, pxL122, pxL123, pxL124, pxL125, pxL126, pxL200, pxL240, pxL287, pxL388, pxL400, pxL429, pxL431, pxL440, pxL1240, pxL1600, pxL1681, pxL12028, pxL13849, pxL14880, pxL25173, pxL26908, pxL49600, pxL65535, pxL65536, ↓reduceIte, reduceCtorEq, pxJ_add, pxJ_sub, pxJ_mul, pxJ_neg, pxD_lt_t, pxD_lt_f, pxD_le_t, pxD_le_f, pxD_eq_t, pxD_eq_f, pxJ_lt, pxJ_le, pxJ_eq, px_gI, px_gR, px_pI, px_rc, px_ai, px_ar, px_si, px_ln, px_cp, pxJ_div, pxJ_b8, pxJ_byte, px_b2, px_bs, px_rb0, px_rb1, px_min, px_max, px_compare, pxW_some, jw_t_I, px_cpt, jw_r_I, px_cpr, jw_l_I, px_cpl, Option.some.injEq, t5, f3, c72, t1, r2, r7, t8, e1, t11]
    · have H1 := H.setS F1 (fun k f z => by unfold pxC at z; omega) (S' := ((if (S.1.length : Int) + (1 - 1 + 1) ≤ 40 then S.1 ++ [W.2.2.2.2.2.1] else S.1), S.2.1, S.2.2)) Y1
      by_cases d : S.1.length < 40
      · have d' : (S.1.length : Int) + (1 - 1 + 1) ≤ 40 := by omega
        rw [if_pos d'] at H1 ⊢
        rw [if_pos d]
        exact pxBS.s15 (Fs F1) H1 (by omega) (by omega) rfl (fun _ => rfl)
      · have d' : ¬ (S.1.length : Int) + (1 - 1 + 1) ≤ 40 := by omega
        rw [if_neg d'] at H1 ⊢
        rw [if_neg d]
        exact pxBS.s15 (Fs F1) H1 (by omega) (by omega) rfl (fun z => absurd z (by show ¬ (4 : Int) = 0; omega))
  rw [if_neg c72]
  by_cases c104 : pxP s p = 104
  · rw [if_pos c104]
    obtain ⟨q, h1, e1, F1, Y1⟩ := s_X8_hold a6 b6 (x := 1) (y := 1) (by omega) (by omega) (by omega) l1 (by omega)
    rw [sub1] at Y1
    refine ⟨(), h1, ?_, ?_⟩
    · clear H a2 a3 a4 a5 a6 b6 b7 Y1 F1 Fs
      simp (maxSteps := 4000000) (disch := first | assumption | omega | (simp only [jw_t_I, px_cpt]; done) | (simp only [jw_t_I, px_cpt]; omega)) only [pxL0, pxL1, pxL2, pxL3, pxL4, pxL5, pxL6, pxL7, pxL8, pxL9, pxL10, pxL11, pxL12, pxL13, pxL14, pxL15, pxL16, pxL17, pxL18, pxL19, pxL20, pxL21, pxL22, pxL23, pxL24, pxL25, pxL26, pxL27, pxL28, pxL29, pxL30, pxL31, pxL32, pxL33, pxL34, pxL35, pxL36, pxL37, pxL38, pxL39, pxL40, pxL41, pxL42, pxL43, pxL44, pxL45, pxL46, pxL47, pxL48, pxL49, pxL51, pxL57, pxL58, pxL59, pxL60, pxL61, pxL62, pxL63, pxL64, pxL65, pxL66, pxL67, pxL68, pxL69, pxL70, pxL71, pxL72, pxL73, pxL74, pxL75, pxL76, pxL77, pxL78, pxL79, pxL80, pxL81, pxL82, pxL83, pxL84, pxL85, pxL86, pxL87, pxL88, pxL89, pxL90, pxL91, pxL92, pxL93, pxL94, pxL95, pxL96, pxL97, pxL98, pxL99, pxL100, pxL101, pxL102, pxL103, pxL104, pxL105, pxL106, pxL107, pxL108, pxL109, pxL110, pxL111, pxL112, pxL113, pxL114, pxL115, pxL116, pxL117, pxL118, pxL119, pxL120, pxL121, pxL122, pxL123, pxL124, pxL125, pxL126, pxL200, pxL240, pxL287, pxL388, pxL400, pxL429, pxL431, pxL440, pxL1240, pxL1600, pxL1681, pxL12028, pxL13849, pxL14880, pxL25173, pxL26908, pxL49600, pxL65535, pxL65536, ↓reduceIte, reduceCtorEq, pxJ_add, pxJ_sub, pxJ_mul, pxJ_neg, pxD_lt_t, pxD_lt_f, pxD_le_t, pxD_le_f, pxD_eq_t, pxD_eq_f, pxJ_lt, pxJ_le, pxJ_eq, px_gI, px_gR, px_pI, px_rc, px_ai, px_ar, px_si, px_ln, px_cp, pxJ_div, pxJ_b8, pxJ_byte, px_b2, px_bs, px_rb0, px_rb1, px_min, px_max, px_compare, pxW_some, jw_t_I, px_cpt, jw_r_I, px_cpr, jw_l_I, px_cpl, Option.some.injEq, t5, f3, c104, t1, r2, r7, t8, e1]
    · have H1 := H.setS F1 (fun k f z => by unfold pxC at z; omega) (S' := ([W.2.2.2.2.2.1], S.2.1, S.2.2)) Y1
      exact pxBR.mk (Fs F1) (by rw [F1.m (by unfold pxC; omega)]; exact m15) H1 (fun _ => rfl)
  rw [if_neg c104]
  by_cases c107 : pxP s p = 107
  · rw [if_pos c107]
    obtain ⟨n5, n6, n7⟩ : pxM h oo 5 = pxP s (p + 1) - 97 ∧ 97 ≤ pxP s (p + 1) ∧ pxP s (p + 1) ≤ 101 := by
      rcases c with z | z | z | z | z | z | z
      · omega
      · omega
      · omega
      · omega
      · omega
      · exact z.2
      · omega
    have lo := pxM_lo h 571 10
    have hi := pxM_hi h 571 10
    rw [b1] at lo hi
    have t9 := a5.1.1
    obtain ⟨q, h1, e1, F1, I1⟩ := s_X9_setMark a5 (k := pxP s (p + 1) - 97) (id := W.1) (by omega) (by omega) lo hi
    have F1' : pxF (fun k f => 572 ≤ k ∧ k ≤ 577) h h1 := F1.mono (fun k f z => by unfold pxC at z; omega)
    refine ⟨(), h1, ?_, ?_⟩
    · clear H a2 a3 a4 a5 a6 b6 b7 I1 F1 F1' Fs c
      simp (maxSteps := 4000000) (disch := first | assumption | omega | (simp only [jw_t_I, px_cpt]; done) | (simp only [jw_t_I, px_cpt]; omega)) only [pxL0, pxL1, pxL2, pxL3, pxL4, pxL5, pxL6, pxL7, pxL8, pxL9, pxL10, pxL11, pxL12, pxL13, pxL14, pxL15, pxL16, pxL17, pxL18, pxL19, pxL20, pxL21, pxL22, pxL23, pxL24, pxL25, pxL26, pxL27, pxL28, pxL29, pxL30, pxL31, pxL32, pxL33, pxL34, pxL35, pxL36, pxL37, pxL38, pxL39, pxL40, pxL41, pxL42, pxL43, pxL44, pxL45, pxL46, pxL47, pxL48, pxL49, pxL51, pxL57, pxL58, pxL59, pxL60, pxL61, pxL62, pxL63, pxL64, pxL65, pxL66, pxL67, pxL68, pxL69, pxL70, pxL71, pxL72, pxL73, pxL74, pxL75, pxL76, pxL77, pxL78, pxL79, pxL80, pxL81, pxL82, pxL83, pxL84, pxL85, pxL86, pxL87, pxL88, pxL89, pxL90, pxL91, pxL92, pxL93, pxL94, pxL95, pxL96, pxL97, pxL98, pxL99, pxL100, pxL101, pxL102, pxL103, pxL104, pxL105, pxL106, pxL107, pxL108, pxL109, pxL110, pxL111, pxL112, pxL113, pxL114, pxL115, pxL116, pxL117, pxL118, pxL119, pxL120, pxL121, pxL122, pxL123, pxL124, pxL125, pxL126, pxL200, pxL240, pxL287, pxL388, pxL400, pxL429, pxL431, pxL440, pxL1240, pxL1600, pxL1681, pxL12028, pxL13849, pxL14880, pxL25173, pxL26908, pxL49600, pxL65535, pxL65536, ↓reduceIte, reduceCtorEq, pxJ_add, pxJ_sub, pxJ_mul, pxJ_neg, pxD_lt_t, pxD_lt_f, pxD_le_t, pxD_le_f, pxD_eq_t, pxD_eq_f, pxJ_lt, pxJ_le, pxJ_eq, px_gI, px_gR, px_pI, px_rc, px_ai, px_ar, px_si, px_ln, px_cp, pxJ_div, pxJ_b8, pxJ_byte, px_b2, px_bs, px_rb0, px_rb1, px_min, px_max, px_compare, pxW_some, jw_t_I, px_cpt, jw_r_I, px_cpr, jw_l_I, px_cpl, Option.some.injEq, t5, f3, c107, t1, r6, n5, b1, t9, e1]
    · have H1 := H.setF F1' (fun k f z => z) (Fr' := (Fr.1, (fun j => if j = pxP s (p + 1) - 97 then W.1 else Fr.2.1 j), Fr.2.2)) ⟨now, I1⟩ a10 a11
      exact pxBR.mk (F1'.mono (fun k f z => by unfold pxQB; omega)) (by rw [F1'.m (by omega)]; exact m15) H1 (fun _ => rfl)
  rw [if_neg c107]
  by_cases c110 : pxP s p = 110
  · rw [if_pos c110]
    obtain ⟨q, h1, e1, F1, eq, Y1⟩ := s_X8_print a6 b6 (x := 1) (y := 1) (num := W.2.1) (by omega) (by omega) (by omega) l1 (by omega)
    have t11 : (jw_t h1 571).1 = 1 := by rw [F1.t]; exact t1
    have pe : pxPrint (fun r => if W.2.1 = -1 then [] else pxDig (W.2.1 + r - 1) ++ [32]) [W.2.2.2.2.2.1] ((1 : Int) - 1 + 1).toNat 1 S.2.1 = if (pxDig W.2.1 ++ [32] ++ W.2.2.2.2.2.1).length ≤ 30 ∧ S.2.1.length < 100 then some (S.2.1 ++ [pxDig W.2.1 ++ [32] ++ W.2.2.2.2.2.1]) else none := by
      rw [show ((1 : Int) - 1 + 1).toNat = 1 from rfl]
      show (if ((if W.2.1 = -1 then [] else pxDig (W.2.1 + 1 - 1) ++ [32]) ++ pxRw [W.2.2.2.2.2.1] 1).length ≤ 30 ∧ S.2.1.length < 100 then some (S.2.1 ++ [(if W.2.1 = -1 then [] else pxDig (W.2.1 + 1 - 1) ++ [32]) ++ pxRw [W.2.2.2.2.2.1] 1]) else none) = _
      rw [if_neg (show ¬ W.2.1 = -1 by omega), show W.2.1 + 1 - 1 = W.2.1 by omega, rw1]
    rw [pe] at eq Y1
    rw [eq] at e1
    by_cases d : (pxDig W.2.1 ++ [32] ++ W.2.2.2.2.2.1).length ≤ 30 ∧ S.2.1.length < 100
    · rw [if_pos d] at e1 Y1 ⊢
      refine ⟨(), jw_setI h1 571 15 (pxJ 0), ?_, ?_⟩
      · have e1' : f_X8_print h 261 (some 578) (pxJ 1) (pxJ 1) (pxJ W.2.1) = some (pxJ 0, h1) := e1
        clear H a2 a3 a4 a5 a6 b6 b7 Y1 F1 Fs eq d pe e1
        simp (maxSteps := 4000000) (disch := first | assumption | omega | (simp only [jw_t_I, px_cpt]; done) | (simp only [jw_t_I, px_cpt]; omega)) only [pxL0, pxL1, pxL2, pxL3, pxL4, pxL5, pxL6, pxL7, pxL8, pxL9, pxL10, pxL11, pxL12, pxL13, pxL14, pxL15, pxL16, pxL17, pxL18, pxL19, pxL20, pxL21, pxL22, pxL23, pxL24, pxL25, pxL26, pxL27, pxL28, pxL29, pxL30, pxL31, pxL32, pxL33, pxL34, pxL35, pxL36, pxL37, pxL38, pxL39, pxL40, pxL41, pxL42, pxL43, pxL44, pxL45, pxL46, pxL47, pxL48, pxL49, pxL51, pxL57, pxL58, pxL59, pxL60, pxL61, pxL62, pxL63, pxL64, pxL65, pxL66, pxL67, pxL68, pxL69, pxL70, pxL71, pxL72, pxL73, pxL74, pxL75, pxL76, pxL77, pxL78, pxL79, pxL80, pxL81, pxL82, pxL83, pxL84, pxL85, pxL86, pxL87, pxL88, pxL89, pxL90, pxL91, pxL92, pxL93, pxL94, pxL95, pxL96, pxL97, pxL98, pxL99, pxL100, pxL101, pxL102, pxL103, pxL104, pxL105, pxL106, pxL107, pxL108, pxL109, pxL110, pxL111, pxL112, pxL113, pxL114, pxL115, pxL116, pxL117, pxL118, pxL119, pxL120, pxL121, pxL122, pxL123, pxL124, pxL125, pxL126, pxL200, pxL240, pxL287, pxL388, pxL400, pxL429, pxL431, pxL440, pxL1240, pxL1600, pxL1681, pxL12028, pxL13849, pxL14880, pxL25173, pxL26908, pxL49600, pxL65535, pxL65536, ↓reduceIte, reduceCtorEq, pxJ_add, pxJ_sub, pxJ_mul, pxJ_neg, pxD_lt_t, pxD_lt_f, pxD_le_t, pxD_le_f, pxD_eq_t, pxD_eq_f, pxJ_lt, pxJ_le, pxJ_eq, px_gI, px_gR, px_pI, px_rc, px_ai, px_ar, px_si, px_ln, px_cp, pxJ_div, pxJ_b8, pxJ_byte, px_b2, px_bs, px_rb0, px_rb1, px_min, px_max, px_compare, pxW_some, jw_t_I, px_cpt, jw_r_I, px_cpr, jw_l_I, px_cpl, Option.some.injEq, t5, f3, c110, t1, r2, r7, b2, t8, e1', t11]
      · have H1 := H.setS F1 (fun k f z => by unfold pxC at z; omega) (S' := (S.1, S.2.1 ++ [pxDig W.2.1 ++ [32] ++ W.2.2.2.2.2.1], S.2.2)) Y1
        exact pxBS.s15 (Fs F1) H1 (by omega) (by omega) rfl (fun _ => rfl)
    · rw [if_neg d] at e1 Y1 ⊢
      refine ⟨(), jw_setI h1 571 15 (pxJ 4), ?_, ?_⟩
      · have e1' : f_X8_print h 261 (some 578) (pxJ 1) (pxJ 1) (pxJ W.2.1) = some (pxJ 4, h1) := e1
        clear H a2 a3 a4 a5 a6 b6 b7 Y1 F1 Fs eq d pe e1
        simp (maxSteps := 4000000) (disch := first | assumption | omega | (simp only [jw_t_I, px_cpt]; done) | (simp only [jw_t_I, px_cpt]; omega)) only [pxL0, pxL1, pxL2, pxL3, pxL4, pxL5, pxL6, pxL7, pxL8, pxL9, pxL10, pxL11, pxL12, pxL13, pxL14, pxL15, pxL16, pxL17, pxL18, pxL19, pxL20, pxL21, pxL22, pxL23, pxL24, pxL25, pxL26, pxL27, pxL28, pxL29, pxL30, pxL31, pxL32, pxL33, pxL34, pxL35, pxL36, pxL37, pxL38, pxL39, pxL40, pxL41, pxL42, pxL43, pxL44, pxL45, pxL46, pxL47, pxL48, pxL49, pxL51, pxL57, pxL58, pxL59, pxL60, pxL61, pxL62, pxL63, pxL64, pxL65, pxL66, pxL67, pxL68, pxL69, pxL70, pxL71, pxL72, pxL73, pxL74, pxL75, pxL76, pxL77, pxL78, pxL79, pxL80, pxL81, pxL82, pxL83, pxL84, pxL85, pxL86, pxL87, pxL88, pxL89, pxL90, pxL91, pxL92, pxL93, pxL94, pxL95, pxL96, pxL97, pxL98, pxL99, pxL100, pxL101, pxL102, pxL103, pxL104, pxL105, pxL106, pxL107, pxL108, pxL109, pxL110, pxL111, pxL112, pxL113, pxL114, pxL115, pxL116, pxL117, pxL118, pxL119, pxL120, pxL121, pxL122, pxL123, pxL124, pxL125, pxL126, pxL200, pxL240, pxL287, pxL388, pxL400, pxL429, pxL431, pxL440, pxL1240, pxL1600, pxL1681, pxL12028, pxL13849, pxL14880, pxL25173, pxL26908, pxL49600, pxL65535, pxL65536, ↓reduceIte, reduceCtorEq, pxJ_add, pxJ_sub, pxJ_mul, pxJ_neg, pxD_lt_t, pxD_lt_f, pxD_le_t, pxD_le_f, pxD_eq_t, pxD_eq_f, pxJ_lt, pxJ_le, pxJ_eq, px_gI, px_gR, px_pI, px_rc, px_ai, px_ar, px_si, px_ln, px_cp, pxJ_div, pxJ_b8, pxJ_byte, px_b2, px_bs, px_rb0, px_rb1, px_min, px_max, px_compare, pxW_some, jw_t_I, px_cpt, jw_r_I, px_cpr, jw_l_I, px_cpl, Option.some.injEq, t5, f3, c110, t1, r2, r7, b2, t8, e1', t11]
      · have H1 := H.setS F1 (fun k f z => by unfold pxC at z; omega) (S' := (S.1, S.2.1, S.2.2)) Y1
        exact pxBS.s15 (Fs F1) H1 (by omega) (by omega) rfl (fun z => absurd z (by show ¬ (4 : Int) = 0; omega))
  rw [if_neg c110]
  by_cases c112 : pxP s p = 112
  · rw [if_pos c112]
    obtain ⟨q, h1, e1, F1, eq, Y1⟩ := s_X8_print a6 b6 (x := 1) (y := 1) (num := -1) (by omega) (by omega) (by omega) l1 (by omega)
    have t11 : (jw_t h1 571).1 = 1 := by rw [F1.t]; exact t1
    have pe : pxPrint (fun r => if (-1 : Int) = -1 then [] else pxDig (-1 + r - 1) ++ [32]) [W.2.2.2.2.2.1] ((1 : Int) - 1 + 1).toNat 1 S.2.1 = if W.2.2.2.2.2.1.length ≤ 30 ∧ S.2.1.length < 100 then some (S.2.1 ++ [W.2.2.2.2.2.1]) else none := rfl
    rw [pe] at eq Y1
    rw [eq] at e1
    by_cases d : W.2.2.2.2.2.1.length ≤ 30 ∧ S.2.1.length < 100
    · rw [if_pos d] at e1 Y1 ⊢
      refine ⟨(), jw_setI h1 571 15 (pxJ 0), ?_, ?_⟩
      · have e1' : f_X8_print h 261 (some 578) (pxJ 1) (pxJ 1) (pxJ (-1)) = some (pxJ 0, h1) := e1
        clear H a2 a3 a4 a5 a6 b6 b7 Y1 F1 Fs eq d pe e1
        simp (maxSteps := 4000000) (disch := first | assumption | omega | (simp only [jw_t_I, px_cpt]; done) | (simp only [jw_t_I, px_cpt]; omega)) only [pxL0, pxL1, pxL2, pxL3, pxL4, pxL5, pxL6, pxL7, pxL8, pxL9, pxL10, pxL11, pxL12, pxL13, pxL14, pxL15, pxL16, pxL17, pxL18, pxL19, pxL20, pxL21, pxL22, pxL23, pxL24, pxL25, pxL26, pxL27, pxL28, pxL29, pxL30, pxL31, pxL32, pxL33, pxL34, pxL35, pxL36, pxL37, pxL38, pxL39, pxL40, pxL41, pxL42, pxL43, pxL44, pxL45, pxL46, pxL47, pxL48, pxL49, pxL51, pxL57, pxL58, pxL59, pxL60, pxL61, pxL62, pxL63, pxL64, pxL65, pxL66, pxL67, pxL68, pxL69, pxL70, pxL71, pxL72, pxL73, pxL74, pxL75, pxL76, pxL77, pxL78, pxL79, pxL80, pxL81, pxL82, pxL83, pxL84, pxL85, pxL86, pxL87, pxL88, pxL89, pxL90, pxL91, pxL92, pxL93, pxL94, pxL95, pxL96, pxL97, pxL98, pxL99, pxL100, pxL101, pxL102, pxL103, pxL104, pxL105, pxL106, pxL107, pxL108, pxL109, pxL110, pxL111, pxL112, pxL113, pxL114, pxL115, pxL116, pxL117, pxL118, pxL119, pxL120, pxL121, pxL122, pxL123, pxL124, pxL125, pxL126, pxL200, pxL240, pxL287, pxL388, pxL400, pxL429, pxL431, pxL440, pxL1240, pxL1600, pxL1681, pxL12028, pxL13849, pxL14880, pxL25173, pxL26908, pxL49600, pxL65535, pxL65536, ↓reduceIte, reduceCtorEq, pxJ_add, pxJ_sub, pxJ_mul, pxJ_neg, pxD_lt_t, pxD_lt_f, pxD_le_t, pxD_le_f, pxD_eq_t, pxD_eq_f, pxJ_lt, pxJ_le, pxJ_eq, px_gI, px_gR, px_pI, px_rc, px_ai, px_ar, px_si, px_ln, px_cp, pxJ_div, pxJ_b8, pxJ_byte, px_b2, px_bs, px_rb0, px_rb1, px_min, px_max, px_compare, pxW_some, jw_t_I, px_cpt, jw_r_I, px_cpr, jw_l_I, px_cpl, Option.some.injEq, t5, f3, c112, t1, r2, r7, t8, e1', t11]
      · have H1 := H.setS F1 (fun k f z => by unfold pxC at z; omega) (S' := (S.1, S.2.1 ++ [W.2.2.2.2.2.1], S.2.2)) Y1
        exact pxBS.s15 (Fs F1) H1 (by omega) (by omega) rfl (fun _ => rfl)
    · rw [if_neg d] at e1 Y1 ⊢
      refine ⟨(), jw_setI h1 571 15 (pxJ 4), ?_, ?_⟩
      · have e1' : f_X8_print h 261 (some 578) (pxJ 1) (pxJ 1) (pxJ (-1)) = some (pxJ 4, h1) := e1
        clear H a2 a3 a4 a5 a6 b6 b7 Y1 F1 Fs eq d pe e1
        simp (maxSteps := 4000000) (disch := first | assumption | omega | (simp only [jw_t_I, px_cpt]; done) | (simp only [jw_t_I, px_cpt]; omega)) only [pxL0, pxL1, pxL2, pxL3, pxL4, pxL5, pxL6, pxL7, pxL8, pxL9, pxL10, pxL11, pxL12, pxL13, pxL14, pxL15, pxL16, pxL17, pxL18, pxL19, pxL20, pxL21, pxL22, pxL23, pxL24, pxL25, pxL26, pxL27, pxL28, pxL29, pxL30, pxL31, pxL32, pxL33, pxL34, pxL35, pxL36, pxL37, pxL38, pxL39, pxL40, pxL41, pxL42, pxL43, pxL44, pxL45, pxL46, pxL47, pxL48, pxL49, pxL51, pxL57, pxL58, pxL59, pxL60, pxL61, pxL62, pxL63, pxL64, pxL65, pxL66, pxL67, pxL68, pxL69, pxL70, pxL71, pxL72, pxL73, pxL74, pxL75, pxL76, pxL77, pxL78, pxL79, pxL80, pxL81, pxL82, pxL83, pxL84, pxL85, pxL86, pxL87, pxL88, pxL89, pxL90, pxL91, pxL92, pxL93, pxL94, pxL95, pxL96, pxL97, pxL98, pxL99, pxL100, pxL101, pxL102, pxL103, pxL104, pxL105, pxL106, pxL107, pxL108, pxL109, pxL110, pxL111, pxL112, pxL113, pxL114, pxL115, pxL116, pxL117, pxL118, pxL119, pxL120, pxL121, pxL122, pxL123, pxL124, pxL125, pxL126, pxL200, pxL240, pxL287, pxL388, pxL400, pxL429, pxL431, pxL440, pxL1240, pxL1600, pxL1681, pxL12028, pxL13849, pxL14880, pxL25173, pxL26908, pxL49600, pxL65535, pxL65536, ↓reduceIte, reduceCtorEq, pxJ_add, pxJ_sub, pxJ_mul, pxJ_neg, pxD_lt_t, pxD_lt_f, pxD_le_t, pxD_le_f, pxD_eq_t, pxD_eq_f, pxJ_lt, pxJ_le, pxJ_eq, px_gI, px_gR, px_pI, px_rc, px_ai, px_ar, px_si, px_ln, px_cp, pxJ_div, pxJ_b8, pxJ_byte, px_b2, px_bs, px_rb0, px_rb1, px_min, px_max, px_compare, pxW_some, jw_t_I, px_cpt, jw_r_I, px_cpr, jw_l_I, px_cpl, Option.some.injEq, t5, f3, c112, t1, r2, r7, t8, e1', t11]
      · have H1 := H.setS F1 (fun k f z => by unfold pxC at z; omega) (S' := (S.1, S.2.1, S.2.2)) Y1
        exact pxBS.s15 (Fs F1) H1 (by omega) (by omega) rfl (fun z => absurd z (by show ¬ (4 : Int) = 0; omega))
  rw [if_neg c112]
  obtain ⟨c119, n5, n6, n7⟩ : pxP s p = 119 ∧ pxM h oo 5 = pxP s (p + 1) - 48 ∧ 48 ≤ pxP s (p + 1) ∧ pxP s (p + 1) ≤ 51 := by
    rcases c with z | z | z | z | z | z | z
    · omega
    · omega
    · omega
    · omega
    · omega
    · omega
    · exact z
  have fe := s_X8_file a6.1 (k := pxP s (p + 1) - 48) (by omega) (by omega)
  rw [if_pos (by omega)] at fe
  have Rf := a6.2.2.2 (pxP s (p + 1) - 48) (by omega) (by omega)
  obtain ⟨q, h1, e1, F1, eq, R1⟩ := s_X7_addRow Rf b6 (y := 1) (by omega) l1
  rw [rw1] at R1
  have t7 := Rf.1.1
  have t11 : (jw_t h1 571).1 = 1 := by rw [F1.t]; exact t1
  have Fq : pxF pxQB h h1 := F1.mono (fun k f z => by unfold pxC at z; unfold pxQB; omega)
  have Y1 := pxIY.file a6 F1 (k := pxP s (p + 1) - 48) (by omega) (fun k' f z => by unfold pxC at z; omega) R1
  have H1 := H.setS F1 (fun k f z => by unfold pxC at z; omega) Y1
  have wf : f_X1_writeFile h 571 (some (261 + 8 + 3 * (pxP s (p + 1) - 48).toNat)) = if (S.2.2 (pxP s (p + 1) - 48)).length < 40 then some ((), h1) else some ((), jw_setI h1 571 15 (pxJ 4)) := by
    unfold f_X1_writeFile
    clear H a2 a3 a4 a5 a6 b6 b7 Y1 F1 Fs c H1 R1 Rf Fq fe
    by_cases d : (S.2.2 (pxP s (p + 1) - 48)).length < 40
    · rw [if_pos d] at eq ⊢
      simp (maxSteps := 4000000) (disch := first | assumption | omega | (simp only [jw_t_I, px_cpt, t7]; done) | (simp only [jw_t_I, px_cpt, t7]; omega)) only [pxL0, pxL1, pxL2, pxL3, pxL4, pxL5, pxL6, pxL7, pxL8, pxL9, pxL10, pxL11, pxL12, pxL13, pxL14, pxL15, pxL16, pxL17, pxL18, pxL19, pxL20, pxL21, pxL22, pxL23, pxL24, pxL25, pxL26, pxL27, pxL28, pxL29, pxL30, pxL31, pxL32, pxL33, pxL34, pxL35, pxL36, pxL37, pxL38, pxL39, pxL40, pxL41, pxL42, pxL43, pxL44, pxL45, pxL46, pxL47, pxL48, pxL49, pxL51, pxL57, pxL58, pxL59, pxL60, pxL61, pxL62, pxL63, pxL64, pxL65, pxL66, pxL67, pxL68, pxL69, pxL70, pxL71, pxL72, pxL73, pxL74, pxL75, pxL76, pxL77, pxL78, pxL79, pxL80, pxL81, pxL82, pxL83, pxL84, pxL85, pxL86, pxL87, pxL88, pxL89, pxL90, pxL91, pxL92, pxL93, pxL94, pxL95, pxL96, pxL97, pxL98, pxL99, pxL100, pxL101, pxL102, pxL103, pxL104, pxL105, pxL106, pxL107, pxL108, pxL109, pxL110, pxL111, pxL112, pxL113, pxL114, pxL115, pxL116, pxL117, pxL118, pxL119, pxL120, pxL121, pxL122, pxL123, pxL124, pxL125, pxL126, pxL200, pxL240, pxL287, pxL388, pxL400, pxL429, pxL431, pxL440, pxL1240, pxL1600, pxL1681, pxL12028, pxL13849, pxL14880, pxL25173, pxL26908, pxL49600, pxL65535, pxL65536, ↓reduceIte, reduceCtorEq, pxJ_add, pxJ_sub, pxJ_mul, pxJ_neg, pxD_lt_t, pxD_lt_f, pxD_le_t, pxD_le_f, pxD_eq_t, pxD_eq_f, pxJ_lt, pxJ_le, pxJ_eq, px_gI, px_gR, px_pI, px_rc, px_ai, px_ar, px_si, px_ln, px_cp, pxJ_div, pxJ_b8, pxJ_byte, px_b2, px_bs, px_rb0, px_rb1, px_min, px_max, px_compare, pxW_some, jw_t_I, px_cpt, jw_r_I, px_cpr, jw_l_I, px_cpl, Option.some.injEq, t7, t1, r7, e1, eq]
    · rw [if_neg d] at eq ⊢
      simp (maxSteps := 4000000) (disch := first | assumption | omega | (simp only [jw_t_I, px_cpt, t7]; done) | (simp only [jw_t_I, px_cpt, t7]; omega)) only [pxL0, pxL1, pxL2, pxL3, pxL4, pxL5, pxL6, pxL7, pxL8, pxL9, pxL10, pxL11, pxL12, pxL13, pxL14, pxL15, pxL16, pxL17, pxL18, pxL19, pxL20, pxL21, pxL22, pxL23, pxL24, pxL25, pxL26, pxL27, pxL28, pxL29, pxL30, pxL31, pxL32, pxL33, pxL34, pxL35, pxL36, pxL37, pxL38, pxL39, pxL40, pxL41, pxL42, pxL43, pxL44, pxL45, pxL46, pxL47, pxL48, pxL49, pxL51, pxL57, pxL58, pxL59, pxL60, pxL61, pxL62, pxL63, pxL64, pxL65, pxL66, pxL67, pxL68, pxL69, pxL70, pxL71, pxL72, pxL73, pxL74, pxL75, pxL76, pxL77, pxL78, pxL79, pxL80, pxL81, pxL82, pxL83, pxL84, pxL85, pxL86, pxL87, pxL88, pxL89, pxL90, pxL91, pxL92, pxL93, pxL94, pxL95, pxL96, pxL97, pxL98, pxL99, pxL100, pxL101, pxL102, pxL103, pxL104, pxL105, pxL106, pxL107, pxL108, pxL109, pxL110, pxL111, pxL112, pxL113, pxL114, pxL115, pxL116, pxL117, pxL118, pxL119, pxL120, pxL121, pxL122, pxL123, pxL124, pxL125, pxL126, pxL200, pxL240, pxL287, pxL388, pxL400, pxL429, pxL431, pxL440, pxL1240, pxL1600, pxL1681, pxL12028, pxL13849, pxL14880, pxL25173, pxL26908, pxL49600, pxL65535, pxL65536, ↓reduceIte, reduceCtorEq, pxJ_add, pxJ_sub, pxJ_mul, pxJ_neg, pxD_lt_t, pxD_lt_f, pxD_le_t, pxD_le_f, pxD_eq_t, pxD_eq_f, pxJ_lt, pxJ_le, pxJ_eq, px_gI, px_gR, px_pI, px_rc, px_ai, px_ar, px_si, px_ln, px_cp, pxJ_div, pxJ_b8, pxJ_byte, px_b2, px_bs, px_rb0, px_rb1, px_min, px_max, px_compare, pxW_some, jw_t_I, px_cpt, jw_r_I, px_cpr, jw_l_I, px_cpl, Option.some.injEq, t7, t1, r7, e1, eq, t11]
  by_cases d : (S.2.2 (pxP s (p + 1) - 48)).length < 40
  · rw [if_pos d] at wf ⊢
    rw [if_pos d] at H1
    refine ⟨(), h1, ?_, ?_⟩
    · clear H a2 a3 a4 a5 a6 b6 b7 Y1 F1 Fs c H1 R1 Rf Fq
      simp (maxSteps := 4000000) (disch := first | assumption | omega | (simp only [jw_t_I, px_cpt]; done) | (simp only [jw_t_I, px_cpt]; omega)) only [pxL0, pxL1, pxL2, pxL3, pxL4, pxL5, pxL6, pxL7, pxL8, pxL9, pxL10, pxL11, pxL12, pxL13, pxL14, pxL15, pxL16, pxL17, pxL18, pxL19, pxL20, pxL21, pxL22, pxL23, pxL24, pxL25, pxL26, pxL27, pxL28, pxL29, pxL30, pxL31, pxL32, pxL33, pxL34, pxL35, pxL36, pxL37, pxL38, pxL39, pxL40, pxL41, pxL42, pxL43, pxL44, pxL45, pxL46, pxL47, pxL48, pxL49, pxL51, pxL57, pxL58, pxL59, pxL60, pxL61, pxL62, pxL63, pxL64, pxL65, pxL66, pxL67, pxL68, pxL69, pxL70, pxL71, pxL72, pxL73, pxL74, pxL75, pxL76, pxL77, pxL78, pxL79, pxL80, pxL81, pxL82, pxL83, pxL84, pxL85, pxL86, pxL87, pxL88, pxL89, pxL90, pxL91, pxL92, pxL93, pxL94, pxL95, pxL96, pxL97, pxL98, pxL99, pxL100, pxL101, pxL102, pxL103, pxL104, pxL105, pxL106, pxL107, pxL108, pxL109, pxL110, pxL111, pxL112, pxL113, pxL114, pxL115, pxL116, pxL117, pxL118, pxL119, pxL120, pxL121, pxL122, pxL123, pxL124, pxL125, pxL126, pxL200, pxL240, pxL287, pxL388, pxL400, pxL429, pxL431, pxL440, pxL1240, pxL1600, pxL1681, pxL12028, pxL13849, pxL14880, pxL25173, pxL26908, pxL49600, pxL65535, pxL65536, ↓reduceIte, reduceCtorEq, pxJ_add, pxJ_sub, pxJ_mul, pxJ_neg, pxD_lt_t, pxD_lt_f, pxD_le_t, pxD_le_f, pxD_eq_t, pxD_eq_f, pxJ_lt, pxJ_le, pxJ_eq, px_gI, px_gR, px_pI, px_rc, px_ai, px_ar, px_si, px_ln, px_cp, pxJ_div, pxJ_b8, pxJ_byte, px_b2, px_bs, px_rb0, px_rb1, px_min, px_max, px_compare, pxW_some, jw_t_I, px_cpt, jw_r_I, px_cpr, jw_l_I, px_cpl, Option.some.injEq, t5, f3, c119, t1, r2, n5, t8, fe, wf]
    · exact pxBR.mk Fq (by rw [F1.m (by unfold pxC; omega)]; exact m15) H1 (fun _ => rfl)
  · rw [if_neg d] at wf ⊢
    rw [if_neg d] at H1
    refine ⟨(), jw_setI h1 571 15 (pxJ 4), ?_, ?_⟩
    · clear H a2 a3 a4 a5 a6 b6 b7 Y1 F1 Fs c H1 R1 Rf Fq
      simp (maxSteps := 4000000) (disch := first | assumption | omega | (simp only [jw_t_I, px_cpt]; done) | (simp only [jw_t_I, px_cpt]; omega)) only [pxL0, pxL1, pxL2, pxL3, pxL4, pxL5, pxL6, pxL7, pxL8, pxL9, pxL10, pxL11, pxL12, pxL13, pxL14, pxL15, pxL16, pxL17, pxL18, pxL19, pxL20, pxL21, pxL22, pxL23, pxL24, pxL25, pxL26, pxL27, pxL28, pxL29, pxL30, pxL31, pxL32, pxL33, pxL34, pxL35, pxL36, pxL37, pxL38, pxL39, pxL40, pxL41, pxL42, pxL43, pxL44, pxL45, pxL46, pxL47, pxL48, pxL49, pxL51, pxL57, pxL58, pxL59, pxL60, pxL61, pxL62, pxL63, pxL64, pxL65, pxL66, pxL67, pxL68, pxL69, pxL70, pxL71, pxL72, pxL73, pxL74, pxL75, pxL76, pxL77, pxL78, pxL79, pxL80, pxL81, pxL82, pxL83, pxL84, pxL85, pxL86, pxL87, pxL88, pxL89, pxL90, pxL91, pxL92, pxL93, pxL94, pxL95, pxL96, pxL97, pxL98, pxL99, pxL100, pxL101, pxL102, pxL103, pxL104, pxL105, pxL106, pxL107, pxL108, pxL109, pxL110, pxL111, pxL112, pxL113, pxL114, pxL115, pxL116, pxL117, pxL118, pxL119, pxL120, pxL121, pxL122, pxL123, pxL124, pxL125, pxL126, pxL200, pxL240, pxL287, pxL388, pxL400, pxL429, pxL431, pxL440, pxL1240, pxL1600, pxL1681, pxL12028, pxL13849, pxL14880, pxL25173, pxL26908, pxL49600, pxL65535, pxL65536, ↓reduceIte, reduceCtorEq, pxJ_add, pxJ_sub, pxJ_mul, pxJ_neg, pxD_lt_t, pxD_lt_f, pxD_le_t, pxD_le_f, pxD_eq_t, pxD_eq_f, pxJ_lt, pxJ_le, pxJ_eq, px_gI, px_gR, px_pI, px_rc, px_ai, px_ar, px_si, px_ln, px_cp, pxJ_div, pxJ_b8, pxJ_byte, px_b2, px_bs, px_rb0, px_rb1, px_min, px_max, px_compare, pxW_some, jw_t_I, px_cpt, jw_r_I, px_cpr, jw_l_I, px_cpl, Option.some.injEq, t5, f3, c119, t1, r2, n5, t8, fe, wf]
    · exact pxBS.s15 Fq H1 (by omega) (by omega) rfl (fun z => absurd z (by show ¬ (4 : Int) = 0; omega))
end
