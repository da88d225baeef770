/-! orders line by line: rows parted, joined, exchanged -/
section
variable {T : pxTx} {W : pxWk} {Fr : pxFh} {S : pxSto} {rep : Bool} {h : jw_H} {s : List Int} {oo : Nat} {p : Int}
theorem s_X7_empty {ρ cap : Nat} {rs : List (List Int)} (R : pxIR h ρ cap rs) : ∃ q h', f_X7_shrink h ρ (pxJ 0) = some (q, h') ∧ pxF (pxC ρ (ρ + 2)) h h' ∧ pxIR h' ρ cap [] := by
  obtain ⟨q, h', e, F, R'⟩ := s_X7_shrink R (x := 0) (by omega) (by omega)
  refine ⟨q, h', e, F, ?_⟩
  by_cases z : 0 ≤ (0 : Int) ∧ (0 : Int) < rs.length
  · rw [if_pos z, show ((0 : Int)).toNat = 0 from rfl, List.take_zero] at R'; exact R'
  · rw [if_neg z] at R'
    have : rs = [] := List.length_eq_zero_iff.mp (by omega)
    rw [this] at R'; exact R'
theorem s_X1_part {n : Int} (H : pxBS h T (W, Fr, S, rep)) (m15 : pxM h 571 15 = 0) (n0 : 0 ≤ n) (n1 : n ≤ 99) : pxW (f_X1_part h 571 (pxJ n)) fun _ h' => pxBR T h (pxBPart n W Fr S rep) h' := by
  obtain ⟨a1, a2, a3, a4, a5, a6, ⟨b1, b2, b3, b4, b5, b6, b7, b8, -⟩, ⟨rs, a8⟩, a9, a10, a11, a12⟩ := pxBS_i.mp H
  obtain ⟨t1, r0, r1, r2, r3, r4, r5, r6, r7, r8, r9⟩ := a1
  have rw1 : pxRw [W.2.2.2.2.2.1] 1 = W.2.2.2.2.2.1 := rfl
  have ln1 : pxLn [W.2.2.2.2.2.1] 1 = (W.2.2.2.2.2.1.length : Int) := rfl
  have l1 : (1 : Int) ≤ ([W.2.2.2.2.2.1].length : Int) := by show (1 : Int) ≤ ((1 : Nat) : Int); omega
  have l1' : ([W.2.2.2.2.2.1].length : Int) = 1 := rfl
  have wo := (b6.2.2.1 W.2.2.2.2.2.1 (List.mem_singleton.mpr rfl)).1
  have ll := s_X7_lengthOf b6 (x := 1) (by omega) (by omega)
  rw [pxLnA_t ⟨by omega, l1⟩, ln1] at ll
  have t7w := b6.1.1
  have t7s := a8.1.1
  unfold pxBPart f_X1_part
  by_cases c : n < (W.2.2.2.2.2.1.length : Int)
  · rw [if_pos c]
    obtain ⟨u1, h1, e1, F1, R1⟩ := s_X7_empty a8
    have b61 := b6.fr F1 (fun k f _ _ => by unfold pxC; omega)
    obtain ⟨u2, h2, e2, F2, -, R2⟩ := s_X7_addRow R1 b61 (y := 1) (by omega) l1
    rw [if_pos (by show 0 < 60; omega), List.nil_append, rw1] at R2
    obtain ⟨u3, h3, e3, F3, -, R3⟩ := s_X7_open R2 (x := 2) (n := 1) (by omega) (by rw [l1']; omega) (by omega) (by omega)
    rw [if_pos (by rw [l1']; omega)] at R3
    have i3 : pxIns [W.2.2.2.2.2.1] 2 (List.replicate (1 : Int).toNat []) = [W.2.2.2.2.2.1, []] := rfl
    rw [i3] at R3
    have l2 : (([W.2.2.2.2.2.1, []] : List (List Int)).length : Int) = 2 := rfl
    have ln3 : pxLn [W.2.2.2.2.2.1, []] 1 = (W.2.2.2.2.2.1.length : Int) := rfl
    obtain ⟨u4, h4, e4, F4, R4⟩ := s_X7_moveRest R3 (x := 1) (n := n) (by omega) (by rw [l2]; omega) n0 (by rw [ln3]; exact c)
    have i4 : pxSet (pxSet [W.2.2.2.2.2.1, []] (1 + 1) ((pxRw [W.2.2.2.2.2.1, []] 1).drop n.toNat)) 1 ((pxRw [W.2.2.2.2.2.1, []] 1).take n.toNat) = [W.2.2.2.2.2.1.take n.toNat, W.2.2.2.2.2.1.drop n.toNat] := rfl
    rw [i4] at R4
    have F14 : pxF (fun k f => 584 ≤ k ∧ k ≤ 586) h h4 := (((F1.mono (fun k f z => by unfold pxC at z; omega)).trans (F2.mono (fun k f z => by unfold pxC at z; omega))).trans (F3.mono (fun k f z => by unfold pxC at z; omega))).trans (F4.mono (fun k f z => by unfold pxC at z; omega))
    have H4 := H.setSp F14 (fun k f z => z) R4
    have b74 := b7.fr F14 (fun k f _ _ => by omega)
    have l4 : (([W.2.2.2.2.2.1.take n.toNat, W.2.2.2.2.2.1.drop n.toNat] : List (List Int)).length : Int) = 2 := rfl
    obtain ⟨u5, h5, e5, F5, -, R5⟩ := s_X7_addRow b74 R4 (y := 2) (by omega) (by rw [l4]; omega)
    have rw5 : pxRw [W.2.2.2.2.2.1.take n.toNat, W.2.2.2.2.2.1.drop n.toNat] 2 = W.2.2.2.2.2.1.drop n.toNat := rfl
    rw [rw5] at R5
    have d5 : (if W.2.2.2.2.2.2.length < 41 then W.2.2.2.2.2.2 ++ [W.2.2.2.2.2.1.drop n.toNat] else W.2.2.2.2.2.2) = pxBDue W.2.2.2.2.2.2 [W.2.2.2.2.2.1.drop n.toNat] := by
      unfold pxBDue
      by_cases d : W.2.2.2.2.2.2.length < 41
      · rw [if_pos d, List.take_of_length_le (by rw [List.length_append]; simp only [List.length_cons, List.length_nil]; omega)]
      · have := b7.2.1
        rw [if_neg d, List.take_append_of_le_length (by omega), List.take_of_length_le (by omega)]
    rw [d5] at R5
    have b65 := (b6.fr F14 (fun k f _ _ => by omega)).fr F5 (fun k f _ _ => by unfold pxC; omega)
    obtain ⟨u6, h6, e6, F6, R6⟩ := s_X7_cutTo b65 (x := 1) (n := n) (by omega) l1 n0 (by omega)
    have i6 : pxSet [W.2.2.2.2.2.1] 1 ((pxRw [W.2.2.2.2.2.1] 1).take n.toNat) = [W.2.2.2.2.2.1.take n.toNat] := rfl
    rw [i6] at R6
    have F16 : pxF (fun k f => 578 ≤ k ∧ k ≤ 586) h h6 := ((F14.mono (fun k f z => by omega)).trans (F5.mono (fun k f z => by unfold pxC at z; omega))).trans (F6.mono (fun k f z => by unfold pxC at z; omega))
    have R56 := R5.fr F6 (fun k f _ _ => by unfold pxC; omega)
    refine ⟨(), h6, ?_, ?_⟩
    · have t11 : (jw_t h1 571).1 = 1 := by rw [F1.t]; exact t1
      have r91 : jw_r h1 571 9 = some 584 := by rw [F1.r (by unfold pxC; omega)]; exact r9
      have r71 : jw_r h1 571 7 = some 578 := by rw [F1.r (by unfold pxC; omega)]; exact r7
      have t7s1 : (jw_t h1 584).1 = 7 := R1.1.1
      have F12 : pxF (fun k f => 584 ≤ k ∧ k ≤ 586) h h2 := (F1.mono (fun k f z => by unfold pxC at z; omega)).trans (F2.mono (fun k f z => by unfold pxC at z; omega))
      have t12 : (jw_t h2 571).1 = 1 := by rw [F12.t]; exact t1
      have r92 : jw_r h2 571 9 = some 584 := by rw [F12.r (by omega)]; exact r9
      have t7s2 : (jw_t h2 584).1 = 7 := R2.1.1
      have F13 : pxF (fun k f => 584 ≤ k ∧ k ≤ 586) h h3 := F12.trans (F3.mono (fun k f z => by unfold pxC at z; omega))
      have t13 : (jw_t h3 571).1 = 1 := by rw [F13.t]; exact t1
      have r93 : jw_r h3 571 9 = some 584 := by rw [F13.r (by omega)]; exact r9
      have t7s3 : (jw_t h3 584).1 = 7 := R3.1.1
      have t14 : (jw_t h4 571).1 = 1 := by rw [F14.t]; exact t1
      have r94 : jw_r h4 571 9 = some 584 := by rw [F14.r (by omega)]; exact r9
      have r84 : jw_r h4 571 8 = some 581 := by rw [F14.r (by omega)]; exact r8
      have t7d4 : (jw_t h4 581).1 = 7 := b74.1.1
      have F15 : pxF (fun k f => 581 ≤ k ∧ k ≤ 586) h h5 := (F14.mono (fun k f z => by omega)).trans (F5.mono (fun k f z => by unfold pxC at z; omega))
      have t15 : (jw_t h5 571).1 = 1 := by rw [F15.t]; exact t1
      have r75 : jw_r h5 571 7 = some 578 := by rw [F15.r (by omega)]; exact r7
      have t7w5 : (jw_t h5 578).1 = 7 := b65.1.1
      clear H a2 a3 a4 a5 a6 b6 b7 a8 R1 R2 R3 R4 R5 R6 R56 H4 b61 b74 b65 F1 F2 F3 F4 F5 F6 F12 F13 F14 F15 F16 d5
      simp (maxSteps := 4000000) (disch := first | assumption | omega | (simp only [jw_t_I, px_cpt]; done) | (simp only [jw_t_I, px_cpt]; omega)) only [pxL0, pxL1, pxL2, pxL3, pxL4, pxL5, pxL6, pxL7, pxL8, pxL9, pxL10, pxL11, pxL12, pxL13, pxL14, pxL15, pxL16, pxL17, pxL18, pxL19, pxL20, pxL21, pxL22, pxL23, pxL24, pxL25, pxL26, pxL27, pxL28, pxL29, pxL30, pxL31, pxL32, pxL33, pxL34, pxL35, pxL36, pxL37, pxL38, pxL39, pxL40, pxL41, pxL42, pxL43, pxL44, pxL45, pxL46, pxL47, pxL48, pxL49, pxL51, pxL57, pxL58, pxL59, pxL60, pxL61, pxL62, pxL63, pxL64, pxL65, pxL66, pxL67, pxL68, pxL69, pxL70, pxL71, pxL72, pxL73, pxL74, pxL75, pxL76, pxL77, pxL78, pxL79, pxL80, pxL81, pxL82, pxL83, pxL84, pxL85, pxL86, pxL87, pxL88, pxL89, pxL90, pxL91, pxL92, pxL93, pxL94, pxL95, pxL96, pxL97, pxL98, pxL99, pxL100, pxL101, pxL102, pxL103, pxL104, pxL105, pxL106, pxL107, pxL108, pxL109, pxL110, pxL111, pxL112, pxL113, pxL114, pxL115, pxL116, pxL117, pxL118, pxL119, pxL120, pxL121, pxL122, pxL123, pxL124, pxL125, pxL126, pxL200, pxL240, pxL287, pxL388, pxL400, pxL429, pxL431, pxL440, pxL1240, pxL1600, pxL1681, pxL12028, pxL13849, pxL14880, pxL25173, pxL26908, pxL49600, pxL65535, pxL65536, ↓reduceIte, reduceCtorEq, pxJ_add, pxJ_sub, pxJ_mul, pxJ_neg, pxD_lt_t, pxD_lt_f, pxD_le_t, pxD_le_f, pxD_eq_t, pxD_eq_f, pxJ_lt, pxJ_le, pxJ_eq, px_gI, px_gR, px_pI, px_rc, px_ai, px_ar, px_si, px_ln, px_cp, pxJ_div, pxJ_b8, pxJ_byte, px_b2, px_bs, px_rb0, px_rb1, px_min, px_max, px_compare, pxW_some, jw_t_I, px_cpt, jw_r_I, px_cpr, jw_l_I, px_cpl, Option.some.injEq, t1, r7, t7w, ll, r9, t7s, e1, t11, r91, r71, t7s1, e2, t12, r92, t7s2, e3, t13, r93, t7s3, e4, t14, r94, r84, t7d4, e5, t15, r75, t7w5, e6]
    · refine pxBR.mk (β' := (pxWd (pxWr W (W.2.2.2.2.2.1.take n.toNat)) (pxBDue W.2.2.2.2.2.2 [W.2.2.2.2.2.1.drop n.toNat]), Fr, S, rep)) (F16.mono (fun k f z => by unfold pxQB; omega)) (by rw [F16.m (by omega)]; exact m15) ?_ (fun _ => rfl)
      obtain ⟨c1, c2, c3, c4, c5, c6, ⟨d1, d2, d3, d4, d55, d6, d7, d8⟩, -, c9, c10⟩ := pxBS_i.mp H
      have F46 : pxF (fun k f => 578 ≤ k ∧ k ≤ 583) h4 h6 := (F5.mono (fun k f z => by unfold pxC at z; omega)).trans (F6.mono (fun k f z => by unfold pxC at z; omega))
      exact ⟨c1.fr F16 (fun f z => by omega), c2.fr F16 (fun f z => by omega), c3.fr F16 (fun f z => by omega), pxIT.fr c4 F16 (fun k f _ _ => by omega), c5.fr F16 (fun k f _ _ => by omega), pxIS.fr c6 F16 (fun k f _ _ => by omega), ⟨by rw [F16.m (by omega)]; exact d1, by rw [F16.m (by omega)]; exact d2, by rw [F16.m (by omega)]; exact d3, by rw [F16.m (by omega)]; exact d4, by rw [F16.m (by omega)]; exact d55, R6, R56, d8⟩, ⟨_, R4.fr F46 (fun k f _ _ => by omega)⟩, by rw [F16.m (by omega)]; exact c9, c10⟩
  · rw [if_neg c]
    refine ⟨(), h, ?_, pxBR.mk pxF.rfl m15 H (fun _ => rfl)⟩
    clear H a2 a3 a4 a5 a6 b6 b7 a8
    simp (maxSteps := 4000000) (disch := first | assumption | omega | (simp only [jw_t_I, px_cpt]; done) | (simp only [jw_t_I, px_cpt]; omega)) only [pxL0, pxL1, pxL2, pxL3, pxL4, pxL5, pxL6, pxL7, pxL8, pxL9, pxL10, pxL11, pxL12, pxL13, pxL14, pxL15, pxL16, pxL17, pxL18, pxL19, pxL20, pxL21, pxL22, pxL23, pxL24, pxL25, pxL26, pxL27, pxL28, pxL29, pxL30, pxL31, pxL32, pxL33, pxL34, pxL35, pxL36, pxL37, pxL38, pxL39, pxL40, pxL41, pxL42, pxL43, pxL44, pxL45, pxL46, pxL47, pxL48, pxL49, pxL51, pxL57, pxL58, pxL59, pxL60, pxL61, pxL62, pxL63, pxL64, pxL65, pxL66, pxL67, pxL68, pxL69, pxL70, pxL71, pxL72, pxL73, pxL74, pxL75, pxL76, pxL77, pxL78, pxL79, pxL80, pxL81, pxL82, pxL83, pxL84, pxL85, pxL86, pxL87, pxL88, pxL89, pxL90, pxL91, pxL92, pxL93, pxL94, pxL95, pxL96, pxL97, pxL98, pxL99, pxL100, pxL101, pxL102, pxL103, pxL104, pxL105, pxL106, pxL107, pxL108, pxL109, pxL110, pxL111, pxL112, pxL113, pxL114, pxL115, pxL116, pxL117, pxL118, pxL119, pxL120, pxL121, pxL122, pxL123, pxL124, pxL125, pxL126, pxL200, pxL240, pxL287, pxL388, pxL400, pxL429, pxL431, pxL440, pxL1240, pxL1600, pxL1681, pxL12028, pxL13849, pxL14880, pxL25173, pxL26908, pxL49600, pxL65535, pxL65536, ↓reduceIte, reduceCtorEq, pxJ_add, pxJ_sub, pxJ_mul, pxJ_neg, pxD_lt_t, pxD_lt_f, pxD_le_t, pxD_le_f, pxD_eq_t, pxD_eq_f, pxJ_lt, pxJ_le, pxJ_eq, px_gI, px_gR, px_pI, px_rc, px_ai, px_ar, px_si, px_ln, px_cp, pxJ_div, pxJ_b8, pxJ_byte, px_b2, px_bs, px_rb0, px_rb1, px_min, px_max, px_compare, pxW_some, jw_t_I, px_cpt, jw_r_I, px_cpr, jw_l_I, px_cpl, Option.some.injEq, t1, r7, t7w, ll]
theorem s_X1_join (H : pxBS h T (W, Fr, S, rep)) (m15 : pxM h 571 15 = 0) : pxW (f_X1_join h 571) fun _ h' => pxBR T h (pxBJoin T W Fr S rep) h' := by
  obtain ⟨a1, a2, a3, a4, ⟨now, a5⟩, a6, ⟨b1, b2, b3, b4, b5, b6, b7, b8, b9, b10, b11⟩, ⟨rs, a8⟩, a9, a10, a11, a12⟩ := pxBS_i.mp H
  obtain ⟨t1, r0, r1, r2, r3, r4, r5, r6, r7, r8, r9⟩ := id a1
  have l40 := pxIT.len a4
  have t9 := a4.1.1
  have q0 := a4.1.2.1
  have t7 := a4.2.1.1.1
  have c2 := pxIT.c2 a4
  have t7w := b6.1.1
  have rw1 : pxRw [W.2.2.2.2.2.1] 1 = W.2.2.2.2.2.1 := rfl
  have ln1 : pxLn [W.2.2.2.2.2.1] 1 = (W.2.2.2.2.2.1.length : Int) := rfl
  have l1 : (1 : Int) ≤ ([W.2.2.2.2.2.1].length : Int) := by show (1 : Int) ≤ ((1 : Nat) : Int); omega
  have lr : (pxRs T.1).length = T.1.length := List.length_map _
  unfold pxBJoin f_X1_join
  by_cases c : W.2.2.1 < (T.1.length : Int)
  · rw [if_pos c]
    obtain ⟨q, h1, e1, F1, eq, R1⟩ := s_X7_extend b6 a4.2.1 (x := 1) (y := W.2.2.1 + 1) (by omega) l1 (by omega) (by omega)
    rw [ln1] at eq
    rw [ln1, rw1] at R1
    have t11 : (jw_t h1 571).1 = 1 := by rw [F1.t]; exact t1
    have F1' : pxF (fun k f => 578 ≤ k ∧ k ≤ 580) h h1 := F1.mono (fun k f z => by unfold pxC at z; omega)
    by_cases d : (W.2.2.2.2.2.1.length : Int) + pxLn (pxRs T.1) (W.2.2.1 + 1) ≤ 30
    · rw [if_pos d] at eq R1 ⊢
      have s1 : pxSet [W.2.2.2.2.2.1] 1 (W.2.2.2.2.2.1 ++ pxRw (pxRs T.1) (W.2.2.1 + 1)) = [W.2.2.2.2.2.1 ++ pxRw (pxRs T.1) (W.2.2.1 + 1)] := rfl
      rw [s1] at R1
      have b31 : pxM h1 571 12 = W.2.2.1 := by rw [F1'.m (by omega)]; exact b3
      have m123 : pxM (jw_setI h1 571 12 (pxJ (W.2.2.1 + 1))) 571 12 = W.2.2.1 + 1 := pxM_eq (by omega) (by omega)
      have F3 : pxF (fun k f => k = 571 ∧ (f = 11 ∨ f = 12)) h1 (jw_setI (jw_setI h1 571 12 (pxJ (W.2.2.1 + 1))) 571 11 (pxJ (W.2.2.1 + 1))) := (pxF.setI (by omega)).trans (pxF.setI (by omega))
      have F13 : pxF (fun k f => (k = 571 ∧ (f = 11 ∨ f = 12)) ∨ (578 ≤ k ∧ k ≤ 580)) h (jw_setI (jw_setI h1 571 12 (pxJ (W.2.2.1 + 1))) 571 11 (pxJ (W.2.2.1 + 1))) := (F1'.mono (fun k f z => Or.inr z)).trans (F3.mono (fun k f z => Or.inl z))
      have m124 : pxM (jw_setI (jw_setI h1 571 12 (pxJ (W.2.2.1 + 1))) 571 11 (pxJ (W.2.2.1 + 1))) 571 12 = W.2.2.1 + 1 := by rw [pxM_ne (by omega)]; exact m123
      have m114 : pxM (jw_setI (jw_setI h1 571 12 (pxJ (W.2.2.1 + 1))) 571 11 (pxJ (W.2.2.1 + 1))) 571 11 = W.2.2.1 + 1 := pxM_eq (by omega) (by omega)
      generalize e3 : jw_setI (jw_setI h1 571 12 (pxJ (W.2.2.1 + 1))) 571 11 (pxJ (W.2.2.1 + 1)) = h3 at *
      have X3 : pxIX h3 T := pxIT.fr a4 F13 (fun k f _ _ => by omega)
      have I3 : pxIT h3 572 Fr.1 Fr.2.1 now Fr.2.2 := pxIT.fr a5 F13 (fun k f _ _ => by omega)
      have io := s_X9_idOf X3 (x := W.2.2.1 + 1) (by omega) (by omega)
      rw [if_pos (by omega)] at io
      have idr := pxIT.idr X3 (x := W.2.2.1 + 1) (by omega) (by omega)
      obtain ⟨u4, h4, e4, F4, I4⟩ := s_X9_dropMarks I3 (id := pxId T.1 (W.2.2.1 + 1)) idr.1 idr.2
      have F4' : pxF (fun k f => 572 ≤ k ∧ k ≤ 577) h3 h4 := F4.mono (fun k f z => by unfold pxC at z; omega)
      have F14 : pxF (fun k f => (k = 571 ∧ (f = 11 ∨ f = 12)) ∨ (578 ≤ k ∧ k ≤ 580) ∨ (572 ≤ k ∧ k ≤ 577)) h h4 := (F13.mono (fun k f z => by omega)).trans (F4'.mono (fun k f z => by omega))
      refine ⟨(), h4, ?_, ?_⟩
      · have t13 : (jw_t h3 571).1 = 1 := by rw [F13.t]; exact t1
        have r63 : jw_r h3 571 6 = some 572 := by rw [F13.r (by omega)]; exact r6
        have r13 : jw_r h3 571 1 = some 255 := by rw [F13.r (by omega)]; exact r1
        have r61 : jw_r h1 571 6 = some 572 := by rw [F1'.r (by omega)]; exact r6
        have r11 : jw_r h1 571 1 = some 255 := by rw [F1'.r (by omega)]; exact r1
        have t93 := X3.1.1
        have t9b := I3.1.1
        clear H a1 a2 a3 a4 a5 a6 b6 b7 a8 R1 X3 I3 I4 F1 F1' F3 F13 F4 F4' F14
        simp (maxSteps := 4000000) (disch := first | assumption | omega | (simp only [jw_t_I, px_cpt]; done) | (simp only [jw_t_I, px_cpt]; omega)) only [pxL0, pxL1, pxL2, pxL3, pxL4, pxL5, pxL6, pxL7, pxL8, pxL9, pxL10, pxL11, pxL12, pxL13, pxL14, pxL15, pxL16, pxL17, pxL18, pxL19, pxL20, pxL21, pxL22, pxL23, pxL24, pxL25, pxL26, pxL27, pxL28, pxL29, pxL30, pxL31, pxL32, pxL33, pxL34, pxL35, pxL36, pxL37, pxL38, pxL39, pxL40, pxL41, pxL42, pxL43, pxL44, pxL45, pxL46, pxL47, pxL48, pxL49, pxL51, pxL57, pxL58, pxL59, pxL60, pxL61, pxL62, pxL63, pxL64, pxL65, pxL66, pxL67, pxL68, pxL69, pxL70, pxL71, pxL72, pxL73, pxL74, pxL75, pxL76, pxL77, pxL78, pxL79, pxL80, pxL81, pxL82, pxL83, pxL84, pxL85, pxL86, pxL87, pxL88, pxL89, pxL90, pxL91, pxL92, pxL93, pxL94, pxL95, pxL96, pxL97, pxL98, pxL99, pxL100, pxL101, pxL102, pxL103, pxL104, pxL105, pxL106, pxL107, pxL108, pxL109, pxL110, pxL111, pxL112, pxL113, pxL114, pxL115, pxL116, pxL117, pxL118, pxL119, pxL120, pxL121, pxL122, pxL123, pxL124, pxL125, pxL126, pxL200, pxL240, pxL287, pxL388, pxL400, pxL429, pxL431, pxL440, pxL1240, pxL1600, pxL1681, pxL12028, pxL13849, pxL14880, pxL25173, pxL26908, pxL49600, pxL65535, pxL65536, ↓reduceIte, reduceCtorEq, pxJ_add, pxJ_sub, pxJ_mul, pxJ_neg, pxD_lt_t, pxD_lt_f, pxD_le_t, pxD_le_f, pxD_eq_t, pxD_eq_f, pxJ_lt, pxJ_le, pxJ_eq, px_gI, px_gR, px_pI, px_rc, px_ai, px_ar, px_si, px_ln, px_cp, pxJ_div, pxJ_b8, pxJ_byte, px_b2, px_bs, px_rb0, px_rb1, px_min, px_max, px_compare, pxW_some, jw_t_I, px_cpt, jw_r_I, px_cpr, jw_l_I, px_cpl, Option.some.injEq, b3, t1, r1, t9, q0, t7, c2, r7, t7w, e1, eq, t11, b31, m123, e3, t13, r63, r13, r61, r11, m124, t93, io, t9b, e4]
      · refine pxBR.mk (β' := ((W.1, W.2.2.1 + 1, W.2.2.1 + 1, W.2.2.2.1, W.2.2.2.2.1, W.2.2.2.2.2.1 ++ pxRw (pxRs T.1) (W.2.2.1 + 1), W.2.2.2.2.2.2), pxBDrop Fr (pxId T.1 (W.2.2.1 + 1)), S, rep)) (F14.mono (fun k f z => by unfold pxQB; omega)) (by rw [F14.m (by omega)]; exact m15) ?_ (fun _ => rfl)
        exact ⟨a1.fr F14 (fun f z => by omega), a2.fr F14 (fun f z => by omega), a3.fr F14 (fun f z => by omega), pxIT.fr a4 F14 (fun k f _ _ => by omega), ⟨now, I4⟩, pxIS.fr a6 F14 (fun k f _ _ => by omega), ⟨by rw [F14.m (by omega)]; exact b1, by rw [F4'.m (by omega)]; exact m114, by rw [F4'.m (by omega)]; exact m124, by rw [F14.m (by omega)]; exact b4, by rw [F14.m (by omega)]; exact b5, (R1.fr F3 (fun k f _ _ => by omega)).fr F4' (fun k f _ _ => by omega), b7.fr F14 (fun k f _ _ => by omega), by show 0 ≤ W.2.2.1 + 1 ∧ W.2.2.1 + 1 ≤ _; omega, by show 0 ≤ W.2.2.1 + 1 ∧ W.2.2.1 + 1 ≤ _; omega, b10, by show W.2.2.2.1 ≤ W.2.2.1 + 1; omega⟩, ⟨rs, a8.fr F14 (fun k f _ _ => by omega)⟩, by rw [F14.m (by omega)]; exact a9, a10, a11, a12⟩
    · rw [if_neg d] at eq R1 ⊢
      refine ⟨(), jw_setI h1 571 15 (pxJ 4), ?_, ?_⟩
      · clear H a1 a2 a3 a4 a5 a6 b6 b7 a8 R1 F1 F1'
        simp (maxSteps := 4000000) (disch := first | assumption | omega | (simp only [jw_t_I, px_cpt]; done) | (simp only [jw_t_I, px_cpt]; omega)) only [pxL0, pxL1, pxL2, pxL3, pxL4, pxL5, pxL6, pxL7, pxL8, pxL9, pxL10, pxL11, pxL12, pxL13, pxL14, pxL15, pxL16, pxL17, pxL18, pxL19, pxL20, pxL21, pxL22, pxL23, pxL24, pxL25, pxL26, pxL27, pxL28, pxL29, pxL30, pxL31, pxL32, pxL33, pxL34, pxL35, pxL36, pxL37, pxL38, pxL39, pxL40, pxL41, pxL42, pxL43, pxL44, pxL45, pxL46, pxL47, pxL48, pxL49, pxL51, pxL57, pxL58, pxL59, pxL60, pxL61, pxL62, pxL63, pxL64, pxL65, pxL66, pxL67, pxL68, pxL69, pxL70, pxL71, pxL72, pxL73, pxL74, pxL75, pxL76, pxL77, pxL78, pxL79, pxL80, pxL81, pxL82, pxL83, pxL84, pxL85, pxL86, pxL87, pxL88, pxL89, pxL90, pxL91, pxL92, pxL93, pxL94, pxL95, pxL96, pxL97, pxL98, pxL99, pxL100, pxL101, pxL102, pxL103, pxL104, pxL105, pxL106, pxL107, pxL108, pxL109, pxL110, pxL111, pxL112, pxL113, pxL114, pxL115, pxL116, pxL117, pxL118, pxL119, pxL120, pxL121, pxL122, pxL123, pxL124, pxL125, pxL126, pxL200, pxL240, pxL287, pxL388, pxL400, pxL429, pxL431, pxL440, pxL1240, pxL1600, pxL1681, pxL12028, pxL13849, pxL14880, pxL25173, pxL26908, pxL49600, pxL65535, pxL65536, ↓reduceIte, reduceCtorEq, pxJ_add, pxJ_sub, pxJ_mul, pxJ_neg, pxD_lt_t, pxD_lt_f, pxD_le_t, pxD_le_f, pxD_eq_t, pxD_eq_f, pxJ_lt, pxJ_le, pxJ_eq, px_gI, px_gR, px_pI, px_rc, px_ai, px_ar, px_si, px_ln, px_cp, pxJ_div, pxJ_b8, pxJ_byte, px_b2, px_bs, px_rb0, px_rb1, px_min, px_max, px_compare, pxW_some, jw_t_I, px_cpt, jw_r_I, px_cpr, jw_l_I, px_cpl, Option.some.injEq, b3, t1, r1, t9, q0, t7, c2, r7, t7w, e1, eq, t11]
      · have H1 := H.setRow F1' (fun k f z => by omega) (r := W.2.2.2.2.2.1) (rep' := rep) R1 (by rw [F1'.m (by omega)]; exact a9)
        exact pxBS.s15 (F1'.mono (fun k f z => by unfold pxQB; omega)) H1 (by omega) (by omega) rfl (fun z => absurd z (by show ¬ (4 : Int) = 0; omega))
  · rw [if_neg c]
    refine ⟨(), h, ?_, pxBR.mk pxF.rfl m15 H (fun _ => rfl)⟩
    clear H a1 a2 a3 a4 a5 a6 b6 b7 a8
    simp (maxSteps := 4000000) (disch := first | assumption | omega | (simp only [jw_t_I, px_cpt]; done) | (simp only [jw_t_I, px_cpt]; omega)) only [pxL0, pxL1, pxL2, pxL3, pxL4, pxL5, pxL6, pxL7, pxL8, pxL9, pxL10, pxL11, pxL12, pxL13, pxL14, pxL15, pxL16, pxL17, pxL18, pxL19, pxL20, pxL21, pxL22, pxL23, pxL24, pxL25, pxL26, pxL27, pxL28, pxL29, pxL30, pxL31, pxL32, pxL33, pxL34, pxL35, pxL36, pxL37, pxL38, pxL39, pxL40, pxL41, pxL42, pxL43, pxL44, pxL45, pxL46, pxL47, pxL48, pxL49, pxL51, pxL57, pxL58, pxL59, pxL60, pxL61, pxL62, pxL63, pxL64, pxL65, pxL66, pxL67, pxL68, pxL69, pxL70, pxL71, pxL72, pxL73, pxL74, pxL75, pxL76, pxL77, pxL78, pxL79, pxL80, pxL81, pxL82, pxL83, pxL84, pxL85, pxL86, pxL87, pxL88, pxL89, pxL90, pxL91, pxL92, pxL93, pxL94, pxL95, pxL96, pxL97, pxL98, pxL99, pxL100, pxL101, pxL102, pxL103, pxL104, pxL105, pxL106, pxL107, pxL108, pxL109, pxL110, pxL111, pxL112, pxL113, pxL114, pxL115, pxL116, pxL117, pxL118, pxL119, pxL120, pxL121, pxL122, pxL123, pxL124, pxL125, pxL126, pxL200, pxL240, pxL287, pxL388, pxL400, pxL429, pxL431, pxL440, pxL1240, pxL1600, pxL1681, pxL12028, pxL13849, pxL14880, pxL25173, pxL26908, pxL49600, pxL65535, pxL65536, ↓reduceIte, reduceCtorEq, pxJ_add, pxJ_sub, pxJ_mul, pxJ_neg, pxD_lt_t, pxD_lt_f, pxD_le_t, pxD_le_f, pxD_eq_t, pxD_eq_f, pxJ_lt, pxJ_le, pxJ_eq, px_gI, px_gR, px_pI, px_rc, px_ai, px_ar, px_si, px_ln, px_cp, pxJ_div, pxJ_b8, pxJ_byte, px_b2, px_bs, px_rb0, px_rb1, px_min, px_max, px_compare, pxW_some, jw_t_I, px_cpt, jw_r_I, px_cpr, jw_l_I, px_cpl, Option.some.injEq, b3, t1, r1, t9, q0, t7, c2]
theorem s_X1_exchange (H : pxBS h T (W, Fr, S, rep)) (m15 : pxM h 571 15 = 0) : pxW (f_X1_exchange h 571) fun _ h' => pxBR T h (if S.1.length = 1 then (0, pxWr W (pxRw S.1 1), Fr, ([W.2.2.2.2.2.1], S.2.1, S.2.2), rep) else (5, W, Fr, S, rep)) h' := by
  obtain ⟨a1, a2, a3, a4, a5, a6, ⟨b1, b2, b3, b4, b5, b6, b7, b8⟩, ⟨rs, a8⟩, a9, a10⟩ := pxBS_i.mp H
  obtain ⟨t1, r0, r1, r2, r3, r4, r5, r6, r7, r8, r9⟩ := id a1
  have t8 := a6.1.1
  have s0 := a6.1.2.1
  have R := a6.2.1
  have t7h := R.1.1
  have c2 := R.2.2.2.1
  have h40 := R.2.1
  have t7w := b6.1.1
  have t7s := a8.1.1
  have rw1 : pxRw [W.2.2.2.2.2.1] 1 = W.2.2.2.2.2.1 := rfl
  have l1 : (1 : Int) ≤ ([W.2.2.2.2.2.1].length : Int) := by show (1 : Int) ≤ ((1 : Nat) : Int); omega
  have l1' : ([W.2.2.2.2.2.1].length : Int) = 1 := rfl
  unfold f_X1_exchange
  by_cases c : S.1.length = 1
  · rw [if_pos c]
    have c' : (S.1.length : Int) = 1 := by omega
    obtain ⟨u1, h1, e1, F1, R1⟩ := s_X7_copy a8.1 b6 (by omega) (by show 1 ≤ 60; omega)
    have Rh1 := R.fr F1 (fun k f _ _ => by unfold pxC; omega)
    have b61 := b6.fr F1 (fun k f _ _ => by unfold pxC; omega)
    obtain ⟨u2, h2, e2, F2, R2⟩ := s_X7_take b61 Rh1 (x := 1) (y := 1) (by omega) (by omega) (by omega) (by omega)
    rw [if_pos ⟨by omega, l1⟩] at R2
    have s2 : pxSet [W.2.2.2.2.2.1] 1 (pxRw S.1 1) = [pxRw S.1 1] := rfl
    rw [s2] at R2
    have Rh2 := Rh1.fr F2 (fun k f _ _ => by unfold pxC; omega)
    have R12 := R1.fr F2 (fun k f _ _ => by unfold pxC; omega)
    obtain ⟨u3, h3, e3, F3, R3⟩ := s_X7_take Rh2 R12 (x := 1) (y := 1) (by omega) (by omega) (by omega) l1
    rw [if_pos ⟨by omega, by omega⟩, rw1] at R3
    have s3 : pxSet S.1 1 W.2.2.2.2.2.1 = [W.2.2.2.2.2.1] := by
      obtain ⟨x, hx⟩ := List.length_eq_one_iff.mp c
      rw [hx]; rfl
    rw [s3] at R3
    have H1 := H.setSp F1 (fun k f z => by unfold pxC at z; omega) R1
    have H2 := H1.setRow F2 (fun k f z => by unfold pxC at z; omega) (rep' := rep) R2 (by rw [F2.m (by unfold pxC; omega)]; exact (pxBS_i.mp H1).2.2.2.2.2.2.2.2.1)
    have F3' : pxF (fun k f => 262 ≤ k ∧ k ≤ 264) h2 h3 := F3.mono (fun k f z => by unfold pxC at z; omega)
    have Y3 := pxIY.held (pxBS_i.mp H2).2.2.2.2.2.1 F3' (fun k f z => z) R3
    have H3 := H2.setS F3' (fun k f z => by omega) Y3
    have F13 : pxF (fun k f => (584 ≤ k ∧ k ≤ 586) ∨ (578 ≤ k ∧ k ≤ 580) ∨ (262 ≤ k ∧ k ≤ 264)) h h3 := ((F1.mono (fun k f z => by unfold pxC at z; omega)).trans (F2.mono (fun k f z => by unfold pxC at z; omega))).trans (F3'.mono (fun k f z => by omega))
    refine ⟨(), h3, ?_, pxBR.mk (F13.mono (fun k f z => by unfold pxQB; omega)) (by rw [F13.m (by omega)]; exact m15) H3 (fun _ => rfl)⟩
    have t11 : (jw_t h1 571).1 = 1 := by rw [F1.t]; exact t1
    have r71 : jw_r h1 571 7 = some 578 := by rw [F1.r (by unfold pxC; omega)]; exact r7
    have r21 : jw_r h1 571 2 = some 261 := by rw [F1.r (by unfold pxC; omega)]; exact r2
    have t81 : (jw_t h1 261).1 = 8 := by rw [F1.t]; exact t8
    have s01 : jw_r h1 261 0 = some 262 := by rw [F1.r (by unfold pxC; omega)]; exact s0
    have t7w1 : (jw_t h1 578).1 = 7 := b61.1.1
    have F12 : pxF (fun k f => (584 ≤ k ∧ k ≤ 586) ∨ (578 ≤ k ∧ k ≤ 580)) h h2 := (F1.mono (fun k f z => by unfold pxC at z; omega)).trans (F2.mono (fun k f z => by unfold pxC at z; omega))
    have t12 : (jw_t h2 571).1 = 1 := by rw [F12.t]; exact t1
    have r92 : jw_r h2 571 9 = some 584 := by rw [F12.r (by omega)]; exact r9
    have r22 : jw_r h2 571 2 = some 261 := by rw [F12.r (by omega)]; exact r2
    have t82 : (jw_t h2 261).1 = 8 := by rw [F12.t]; exact t8
    have s02 : jw_r h2 261 0 = some 262 := by rw [F12.r (by omega)]; exact s0
    have t7h2 : (jw_t h2 262).1 = 7 := Rh2.1.1
    clear H a1 a2 a3 a4 a5 a6 b6 b7 a8 R R1 R2 R3 R12 Rh1 Rh2 b61 H1 H2 H3 Y3 F1 F2 F3 F3' F13 F12 s3
    simp (maxSteps := 4000000) (disch := first | assumption | omega | (simp only [jw_t_I, px_cpt]; done) | (simp only [jw_t_I, px_cpt]; omega)) only [pxL0, pxL1, pxL2, pxL3, pxL4, pxL5, pxL6, pxL7, pxL8, pxL9, pxL10, pxL11, pxL12, pxL13, pxL14, pxL15, pxL16, pxL17, pxL18, pxL19, pxL20, pxL21, pxL22, pxL23, pxL24, pxL25, pxL26, pxL27, pxL28, pxL29, pxL30, pxL31, pxL32, pxL33, pxL34, pxL35, pxL36, pxL37, pxL38, pxL39, pxL40, pxL41, pxL42, pxL43, pxL44, pxL45, pxL46, pxL47, pxL48, pxL49, pxL51, pxL57, pxL58, pxL59, pxL60, pxL61, pxL62, pxL63, pxL64, pxL65, pxL66, pxL67, pxL68, pxL69, pxL70, pxL71, pxL72, pxL73, pxL74, pxL75, pxL76, pxL77, pxL78, pxL79, pxL80, pxL81, pxL82, pxL83, pxL84, pxL85, pxL86, pxL87, pxL88, pxL89, pxL90, pxL91, pxL92, pxL93, pxL94, pxL95, pxL96, pxL97, pxL98, pxL99, pxL100, pxL101, pxL102, pxL103, pxL104, pxL105, pxL106, pxL107, pxL108, pxL109, pxL110, pxL111, pxL112, pxL113, pxL114, pxL115, pxL116, pxL117, pxL118, pxL119, pxL120, pxL121, pxL122, pxL123, pxL124, pxL125, pxL126, pxL200, pxL240, pxL287, pxL388, pxL400, pxL429, pxL431, pxL440, pxL1240, pxL1600, pxL1681, pxL12028, pxL13849, pxL14880, pxL25173, pxL26908, pxL49600, pxL65535, pxL65536, ↓reduceIte, reduceCtorEq, pxJ_add, pxJ_sub, pxJ_mul, pxJ_neg, pxD_lt_t, pxD_lt_f, pxD_le_t, pxD_le_f, pxD_eq_t, pxD_eq_f, pxJ_lt, pxJ_le, pxJ_eq, px_gI, px_gR, px_pI, px_rc, px_ai, px_ar, px_si, px_ln, px_cp, pxJ_div, pxJ_b8, pxJ_byte, px_b2, px_bs, px_rb0, px_rb1, px_min, px_max, px_compare, pxW_some, jw_t_I, px_cpt, jw_r_I, px_cpr, jw_l_I, px_cpl, Option.some.injEq, t1, r2, t8, s0, t7h, c2, c', r9, r7, t7s, e1, t11, r71, r21, t81, s01, t7w1, e2, t12, r92, r22, t82, s02, t7h2, e3]
  · rw [if_neg c]
    have c' : ¬ (S.1.length : Int) = 1 := by omega
    refine ⟨(), jw_setI h 571 15 (pxJ 5), ?_, pxBS.s15 pxF.rfl H (by omega) (by omega) rfl (fun z => absurd z (by show ¬ (5 : Int) = 0; omega))⟩
    clear H a1 a2 a3 a4 a5 a6 b6 b7 a8 R
    simp (maxSteps := 4000000) (disch := first | assumption | omega | (simp only [jw_t_I, px_cpt]; done) | (simp only [jw_t_I, px_cpt]; omega)) only [pxL0, pxL1, pxL2, pxL3, pxL4, pxL5, pxL6, pxL7, pxL8, pxL9, pxL10, pxL11, pxL12, pxL13, pxL14, pxL15, pxL16, pxL17, pxL18, pxL19, pxL20, pxL21, pxL22, pxL23, pxL24, pxL25, pxL26, pxL27, pxL28, pxL29, pxL30, pxL31, pxL32, pxL33, pxL34, pxL35, pxL36, pxL37, pxL38, pxL39, pxL40, pxL41, pxL42, pxL43, pxL44, pxL45, pxL46, pxL47, pxL48, pxL49, pxL51, pxL57, pxL58, pxL59, pxL60, pxL61, pxL62, pxL63, pxL64, pxL65, pxL66, pxL67, pxL68, pxL69, pxL70, pxL71, pxL72, pxL73, pxL74, pxL75, pxL76, pxL77, pxL78, pxL79, pxL80, pxL81, pxL82, pxL83, pxL84, pxL85, pxL86, pxL87, pxL88, pxL89, pxL90, pxL91, pxL92, pxL93, pxL94, pxL95, pxL96, pxL97, pxL98, pxL99, pxL100, pxL101, pxL102, pxL103, pxL104, pxL105, pxL106, pxL107, pxL108, pxL109, pxL110, pxL111, pxL112, pxL113, pxL114, pxL115, pxL116, pxL117, pxL118, pxL119, pxL120, pxL121, pxL122, pxL123, pxL124, pxL125, pxL126, pxL200, pxL240, pxL287, pxL388, pxL400, pxL429, pxL431, pxL440, pxL1240, pxL1600, pxL1681, pxL12028, pxL13849, pxL14880, pxL25173, pxL26908, pxL49600, pxL65535, pxL65536, ↓reduceIte, reduceCtorEq, pxJ_add, pxJ_sub, pxJ_mul, pxJ_neg, pxD_lt_t, pxD_lt_f, pxD_le_t, pxD_le_f, pxD_eq_t, pxD_eq_f, pxJ_lt, pxJ_le, pxJ_eq, px_gI, px_gR, px_pI, px_rc, px_ai, px_ar, px_si, px_ln, px_cp, pxJ_div, pxJ_b8, pxJ_byte, px_b2, px_bs, px_rb0, px_rb1, px_min, px_max, px_compare, pxW_some, jw_t_I, px_cpt, jw_r_I, px_cpr, jw_l_I, px_cpl, Option.some.injEq, t1, r2, t8, s0, t7h, c2]
end
