/-! orders over the whole: all of a run -/
section
variable {b : Nat} {s : List Int} {L : List (Int × List Int)} {call nB : Int}
theorem s_step {h : jw_H} {j N : Nat} {t : Int × List Int} {dn came : Int} {T : pxTx} {S : pxSto} {rep : Bool} {D : List (Int × pxSn)} (H : pxRS nB h b s L T S rep came D) (e : L[j]? = some t) (c0 : -2147483648 ≤ call) (c1 : call ≤ 2147483647) (d0 : 0 ≤ dn) (d1 : dn ≤ came) :
    ((pxStep s L j t came T S rep).1 = 0 → came + 1 ≤ (pxStep s L j t came T S rep).2.2.1 ∧ ∃ h', f_X10_perform_b25 (N + 1) h 559 (pxJ call) (pxJ dn) (pxJ ((pxCnt (L.take j) : Nat) : Int)) (pxJ dn) = f_X10_perform_b25 N h' 559 (pxJ call) (pxJ (dn + 1)) (pxJ ((pxCnt (L.take (pxStep s L j t came T S rep).2.1) : Nat) : Int)) (pxJ (dn + 1)) ∧ pxF pxQP h h' ∧ pxRS nB h' b s L (pxStep s L j t came T S rep).2.2.2.1 (pxStep s L j t came T S rep).2.2.2.2.1 (pxStep s L j t came T S rep).2.2.2.2.2 (pxStep s L j t came T S rep).2.2.1 (pxDeed (pxAc s t.1) call T D)) ∧
    ((pxStep s L j t came T S rep).1 ≠ 0 → ∃ h', f_X10_perform_b25 (N + 1) h 559 (pxJ call) (pxJ dn) (pxJ ((pxCnt (L.take j) : Nat) : Int)) (pxJ dn) = some (pxJ dn, h') ∧ pxRE nB h h' T S D (pxStep s L j t came T S rep).1) := by
  obtain ⟨PR, G, HI, B, m16⟩ := H
  obtain ⟨OC, m9, -, kc, -⟩ := PR.at e
  obtain ⟨A, I, Y, IV, IS, m15, ca0, ca1, nb⟩ := id G
  have tk := (pxCnt_take e).1
  have pre : ∃ h3, f_X10_perform_b25 (N + 1) h 559 (pxJ call) (pxJ dn) (pxJ ((pxCnt (L.take j) : Nat) : Int)) (pxJ dn) = (if 60 ≤ came then g_X10_perform_b101 (f_X10_perform_b25 N) h3 559 (pxJ call) (pxJ dn) (pxJ ((pxCnt (L.take j) : Nat) : Int)) (pxJ dn) (some (12 + 4 * pxCnt (L.take j))) 559 (pxJ 7) else jw_b2 (f_X10_findRange h3 559 (some (12 + 4 * pxCnt (L.take j)))) fun w20 h19 => g_X10_perform_b101 (f_X10_perform_b25 N) h19 559 (pxJ call) (pxJ dn) (pxJ ((pxCnt (L.take j) : Nat) : Int)) (pxJ dn) (some (12 + 4 * pxCnt (L.take j))) 559 w20) ∧ pxF (fun k f => (282 ≤ k ∧ k ≤ 530) ∨ (k = 559 ∧ (f = 14 ∨ f = 15))) h h3 ∧ pxHN h3 D T ∧ pxM h3 559 14 = ((pxCnt (L.take (j + 1)) : Nat) : Int) ∧ pxM h3 559 15 = came + 1 := by
    obtain ⟨a1, h1, v1, F1, HN1⟩ := s_X3_note HI I
    have hi := OC.2.1
    have PS := OC.2.2.1.1
    have m6 := PR.2.2.2.1
    have c60 := PR.2.2.2.2.1
    have t5 := (PS.2.2.2.2.2.2.2 _ hi).2.1
    have oa := s_X6_orderAt PS m6 (by omega) (x := ((pxCnt (L.take j) : Nat) : Int)) (by omega) (by omega)
    rw [if_pos (by omega), show (((pxCnt (L.take j) : Nat) : Int)).toNat = pxCnt (L.take j) by omega] at oa
    obtain ⟨Bh, HD⟩ := HI
    have t3 := HD.1.1
    have tg := PS.1
    have w0 := A.1.1
    have wp := A.1.2.1
    have w1 := A.1.2.2.1
    have w6 := A.1.2.2.2.2.2.2.2.1
    have w01 : (jw_t h1 559).1 = 10 := by rw [F1.t]; exact w0
    have t51 : (jw_t h1 (12 + 4 * pxCnt (L.take j))).1 = 5 := by rw [F1.t]; exact t5
    have m91 : pxM h1 (12 + 4 * pxCnt (L.take j)) 9 = ((pxCnt (L.take (j + 1)) : Nat) : Int) := by rw [F1.m (by omega), m9, tk]
    have Fa : pxF (fun k f => (282 ≤ k ∧ k ≤ 530) ∨ (k = 559 ∧ (f = 14 ∨ f = 15))) h (jw_setI h1 559 14 (pxJ ((pxCnt (L.take (j + 1)) : Nat) : Int))) := (F1.mono (fun k f z => Or.inl ⟨z.1, z.2.1⟩)).trans (pxF.setI (P := fun k f => (282 ≤ k ∧ k ≤ 530) ∨ (k = 559 ∧ (f = 14 ∨ f = 15))) (by omega))
    have m151 : pxM (jw_setI h1 559 14 (pxJ ((pxCnt (L.take (j + 1)) : Nat) : Int))) 559 15 = came := by rw [pxM_ne (by omega), F1.m (by omega)]; exact m15
    have m152 : pxM (jw_setI (jw_setI h1 559 14 (pxJ ((pxCnt (L.take (j + 1)) : Nat) : Int))) 559 15 (pxJ (came + 1))) 559 15 = came + 1 := pxM_eq (by omega) (by omega)
    have m142 : pxM (jw_setI (jw_setI h1 559 14 (pxJ ((pxCnt (L.take (j + 1)) : Nat) : Int))) 559 15 (pxJ (came + 1))) 559 14 = ((pxCnt (L.take (j + 1)) : Nat) : Int) := by rw [pxM_ne (by omega)]; exact pxM_eq (by omega) (by omega)
    have Fb : pxF (fun k f => k = 559) h1 (jw_setI (jw_setI h1 559 14 (pxJ ((pxCnt (L.take (j + 1)) : Nat) : Int))) 559 15 (pxJ (came + 1))) := (pxF.setI (P := fun k f => k = 559) rfl).trans (pxF.setI rfl)
    refine ⟨jw_setI (jw_setI h1 559 14 (pxJ ((pxCnt (L.take (j + 1)) : Nat) : Int))) 559 15 (pxJ (came + 1)), ?_, Fa.trans (pxF.setI (by omega)), HN1.fr Fb (fun k f z => by omega), m142, m152⟩
    rw [u_X10_perform_b25]
    unfold g_X10_perform_b25
    clear PR G B m16 OC A I Y IV IS HD HN1 Fa Fb F1 PS m142
    generalize pxCnt (L.take (j + 1)) = k2 at *
    generalize pxCnt (L.take j) = k at *
    by_cases c : 60 ≤ came
    · rw [if_pos c]
      simp (maxSteps := 4000000) (disch := first | assumption | omega | (simp only [jw_t_I, px_cpt, t51]; done) | (simp only [jw_t_I, px_cpt, t51]; omega)) only [pxL0, pxL1, pxL2, pxL3, pxL4, pxL5, pxL6, pxL7, pxL8, pxL9, pxL10, pxL11, pxL12, pxL13, pxL14, pxL15, pxL16, pxL17, pxL18, pxL19, pxL20, pxL21, pxL22, pxL23, pxL24, pxL25, pxL26, pxL27, pxL28, pxL29, pxL30, pxL31, pxL32, pxL33, pxL34, pxL35, pxL36, pxL37, pxL38, pxL39, pxL40, pxL41, pxL42, pxL43, pxL44, pxL45, pxL46, pxL47, pxL48, pxL49, pxL51, pxL57, pxL58, pxL59, pxL60, pxL61, pxL62, pxL63, pxL64, pxL65, pxL66, pxL67, pxL68, pxL69, pxL70, pxL71, pxL72, pxL73, pxL74, pxL75, pxL76, pxL77, pxL78, pxL79, pxL80, pxL81, pxL82, pxL83, pxL84, pxL85, pxL86, pxL87, pxL88, pxL89, pxL90, pxL91, pxL92, pxL93, pxL94, pxL95, pxL96, pxL97, pxL98, pxL99, pxL100, pxL101, pxL102, pxL103, pxL104, pxL105, pxL106, pxL107, pxL108, pxL109, pxL110, pxL111, pxL112, pxL113, pxL114, pxL115, pxL116, pxL117, pxL118, pxL119, pxL120, pxL121, pxL122, pxL123, pxL124, pxL125, pxL126, pxL200, pxL240, pxL287, pxL388, pxL400, pxL429, pxL431, pxL440, pxL1240, pxL1600, pxL1681, pxL12028, pxL13849, pxL14880, pxL25173, pxL26908, pxL49600, pxL65535, pxL65536, ↓reduceIte, reduceCtorEq, pxJ_add, pxJ_sub, pxJ_mul, pxJ_neg, pxD_lt_t, pxD_lt_f, pxD_le_t, pxD_le_f, pxD_eq_t, pxD_eq_f, pxJ_lt, pxJ_le, pxJ_eq, px_gI, px_gR, px_pI, px_rc, px_ai, px_ar, px_si, px_ln, px_cp, pxJ_div, pxJ_b8, pxJ_byte, px_b2, px_bs, px_rb0, px_rb1, px_min, px_max, px_compare, pxW_some, jw_t_I, px_cpt, jw_r_I, px_cpr, jw_l_I, px_cpl, Option.some.injEq, t51, w0, wp, tg, oa, w6, w1, t3, v1, w01, m91, m151, m152]
    · rw [if_neg c]
      simp (maxSteps := 4000000) (disch := first | assumption | omega | (simp only [jw_t_I, px_cpt, t51]; done) | (simp only [jw_t_I, px_cpt, t51]; omega)) only [pxL0, pxL1, pxL2, pxL3, pxL4, pxL5, pxL6, pxL7, pxL8, pxL9, pxL10, pxL11, pxL12, pxL13, pxL14, pxL15, pxL16, pxL17, pxL18, pxL19, pxL20, pxL21, pxL22, pxL23, pxL24, pxL25, pxL26, pxL27, pxL28, pxL29, pxL30, pxL31, pxL32, pxL33, pxL34, pxL35, pxL36, pxL37, pxL38, pxL39, pxL40, pxL41, pxL42, pxL43, pxL44, pxL45, pxL46, pxL47, pxL48, pxL49, pxL51, pxL57, pxL58, pxL59, pxL60, pxL61, pxL62, pxL63, pxL64, pxL65, pxL66, pxL67, pxL68, pxL69, pxL70, pxL71, pxL72, pxL73, pxL74, pxL75, pxL76, pxL77, pxL78, pxL79, pxL80, pxL81, pxL82, pxL83, pxL84, pxL85, pxL86, pxL87, pxL88, pxL89, pxL90, pxL91, pxL92, pxL93, pxL94, pxL95, pxL96, pxL97, pxL98, pxL99, pxL100, pxL101, pxL102, pxL103, pxL104, pxL105, pxL106, pxL107, pxL108, pxL109, pxL110, pxL111, pxL112, pxL113, pxL114, pxL115, pxL116, pxL117, pxL118, pxL119, pxL120, pxL121, pxL122, pxL123, pxL124, pxL125, pxL126, pxL200, pxL240, pxL287, pxL388, pxL400, pxL429, pxL431, pxL440, pxL1240, pxL1600, pxL1681, pxL12028, pxL13849, pxL14880, pxL25173, pxL26908, pxL49600, pxL65535, pxL65536, ↓reduceIte, reduceCtorEq, pxJ_add, pxJ_sub, pxJ_mul, pxJ_neg, pxD_lt_t, pxD_lt_f, pxD_le_t, pxD_le_f, pxD_eq_t, pxD_eq_f, pxJ_lt, pxJ_le, pxJ_eq, px_gI, px_gR, px_pI, px_rc, px_ai, px_ar, px_si, px_ln, px_cp, pxJ_div, pxJ_b8, pxJ_byte, px_b2, px_bs, px_rb0, px_rb1, px_min, px_max, px_compare, pxW_some, jw_t_I, px_cpt, jw_r_I, px_cpr, jw_l_I, px_cpl, Option.some.injEq, t51, w0, wp, tg, oa, w6, w1, t3, v1, w01, m91, m151, m152]
  obtain ⟨h3, e3, F3, HN3, m143, m153⟩ := pre
  rw [e3]
  have F3' : pxF pxQP h h3 := F3.mono (fun k f z => by unfold pxQP pxQH pxQG; omega)
  have PR3 := PR.fb F3 (fun k f z => by omega)
  have OC3 := (PR3.at e).1
  have A3 := A.fr F3 (fun k f z => by omega)
  have I3 : pxIX h3 T := pxIT.fr I F3 (fun k f _ _ => by omega)
  have Y3 : pxIY h3 S := pxIS.fr Y F3 (fun k f _ _ => by omega)
  have B3 := B.fr F3 (fun k f _ _ => by omega)
  -- refused ahead of its act
  have ref : ∀ (h4 : jw_H) (r : Int), pxF (fun k f => pxQf k f) h3 h4 → r ≠ 0 → 0 ≤ r → r ≤ 7 → ∃ h', g_X10_perform_b101 (f_X10_perform_b25 N) h4 559 (pxJ call) (pxJ dn) (pxJ ((pxCnt (L.take j) : Nat) : Int)) (pxJ dn) (some (12 + 4 * pxCnt (L.take j))) 559 (pxJ r) = some (pxJ dn, h') ∧ pxRE nB h h' T S D r := by
    intro h4 r F4 r0 r1 r2
    have A4 := A3.fr F4 (fun k f z => by unfold pxQf pxQx; omega)
    rw [s_b101r A4.1.1 r0 r1 r2]
    have F45 : pxF (fun k f => pxQf k f ∨ (k = 559 ∧ f = 16)) h3 (jw_setI h4 559 16 (pxJ r)) := (F4.mono (fun k f z => Or.inl z)).trans (pxF.setI (Or.inr ⟨rfl, rfl⟩))
    have OC5 := OC3.fb F45 (fun k f z => by unfold pxQf pxQx; omega)
    exact s_bad (F3'.trans (F45.mono (fun k f z => by unfold pxQf pxQx at z; unfold pxQP pxQH pxQG pxQA; omega))) ⟨rep, A3.fr F45 (fun k f z => by unfold pxQf pxQx; omega)⟩ ⟨T, pxIT.fr I3 F45 (fun k f _ _ => by unfold pxQf pxQx; omega)⟩ (pxIS.fr Y3 F45 (fun k f _ _ => by unfold pxQf pxQx; omega)) (HN3.fr F45 (fun k f z => by unfold pxQf pxQx; omega)) (B3.fr F45 (fun k f _ _ => by unfold pxQf pxQx; omega)) IV IS (by omega) (OC5.2.2.1.1.2.2.2.2.2.2.2 _ OC5.2.1).2.1 (pxM_eq (by omega) (by omega)) r0 c0 c1 d0 (by omega)
  unfold pxStep
  by_cases c : 60 ≤ came
  · rw [if_pos c, if_pos c]
    refine ⟨fun z => absurd z (by show ¬ (7 : Int) = 0; omega), fun _ => ref h3 7 pxF.rfl (by omega) (by omega) (by omega)⟩
  rw [if_neg c, if_neg c]
  have G3 : pxGS nB h3 T S rep (came + 1) := ⟨A3, I3, Y3, IV, IS, m153, by omega, by omega, by omega⟩
  have f33 : pxM h3 (12 + 4 * pxCnt (L.take j)) 3 = pxAc s t.1 := OC3.2.2.2.1.2.2.2.1
  have t53 := (OC3.2.2.1.1.2.2.2.2.2.2.2 _ OC3.2.1).2.1
  obtain ⟨r1, r2⟩ := s_X10_findRange OC3 A3.1 A3.2.1 I3 IV.now
  have rb := pxRng_b (s := s) (p := t.1) IV.now IV.1
  have wb := pxWh_b (s := s) (p := t.1) OC3.2.2.2.2.2.2.2.1 OC3.2.2.2.2.2.2.2.2
  by_cases W : (pxWh s t.1).2.2.1 = 0 ∧ pxSteer (pxAc s t.1) = true
  · rw [if_pos W.2, if_neg (show ¬ ((pxWh s t.1).2.2.1 ≠ 0 ∧ (pxRng s t.1 T).1 ≠ 0) from fun z => z.1 W.1), r1 W, px_b2]
    dsimp only
    rw [s_b101z A3.1.1 t53 OC3.2.1 f33, if_pos W.2]
    obtain ⟨y1, y2⟩ := s_stepS (k25 := f_X10_perform_b25 N) (f := (pxRng s t.1 T).2.1) (l := (pxRng s t.1 T).2.2) F3' PR3 e W.2 G3 HN3 B3 (fun z => absurd W.1 z) m143 c0 c1 d0 (by omega)
    exact ⟨fun z => ⟨Int.le_refl _, y1 z⟩, y2⟩
  obtain ⟨h4, e4, F4, R4⟩ := r2 W
  rw [e4, px_b2]
  have F4' : pxF pxQP h h4 := F3'.trans (F4.mono (fun k f z => by unfold pxQf pxQx at z; unfold pxQP pxQH pxQG pxQA; omega))
  by_cases r0 : (pxRng s t.1 T).1 = 0
  · have PR4 := PR3.fb F4 (fun k f z => by unfold pxQf pxQx; omega)
    have OC4 := (PR4.at e).1
    have G4 := G3.fr F4 (fun k f z => by unfold pxQf pxQx; omega)
    have HN4 := HN3.fr F4 (fun k f z => by unfold pxQf pxQx; omega)
    have B4 := B3.fr F4 (fun k f _ _ => by unfold pxQf pxQx; omega)
    have m144 : pxM h4 559 14 = ((pxCnt (L.take (j + 1)) : Nat) : Int) := by rw [F4.m (by unfold pxQf pxQx; omega)]; exact m143
    have f34 : pxM h4 (12 + 4 * pxCnt (L.take j)) 3 = pxAc s t.1 := OC4.2.2.2.1.2.2.2.1
    have t54 := (OC4.2.2.1.1.2.2.2.2.2.2.2 _ OC4.2.1).2.1
    have rg := pxRng_ok IV.now IV.1 r0 ⟨wb.2.2.1, wb.2.2.2⟩
    rw [r0]
    rw [s_b101z G4.1.1.1 t54 OC4.2.1 f34]
    by_cases ste : pxSteer (pxAc s t.1) = true
    · rw [if_pos ste, if_pos ste, if_neg (show ¬ ((pxWh s t.1).2.2.1 ≠ 0 ∧ (0 : Int) ≠ 0) from fun z => z.2 rfl)]
      obtain ⟨y1, y2⟩ := s_stepS (k25 := f_X10_perform_b25 N) F4' PR4 e ste G4 HN4 B4 (fun _ => R4) m144 c0 c1 d0 (by omega)
      exact ⟨fun z => ⟨Int.le_refl _, y1 z⟩, y2⟩
    · rw [if_neg ste, if_neg ste, if_neg (show ¬ ((0 : Int) ≠ 0) from fun z => z rfl)]
      by_cases cg : pxAc s t.1 = 103 ∨ pxAc s t.1 = 71 ∨ pxAc s t.1 = 123
      · rw [if_pos cg, if_pos cg]
        obtain ⟨y1, y2⟩ := s_stepG (k25 := f_X10_perform_b25 N) F4' PR4 e cg G4 HN4 B4 R4 rg m144 c0 c1 d0 (by omega)
        exact ⟨fun z => ⟨pxMets_came _ _ _ _ _, y1 z⟩, y2⟩
      · rw [if_neg cg, if_neg cg]
        obtain ⟨y1, y2⟩ := s_stepO (k25 := f_X10_perform_b25 N) F4' PR4 e (fun z => z.elim (fun z => cg (Or.inl z)) (fun z => z.elim (fun z => cg (Or.inr (Or.inl z))) (fun z => z.elim (fun z => cg (Or.inr (Or.inr z))) ste))) G4 ca0 nb.1 HN4 B4 R4 rg m144 c0 c1 d0 (by omega)
        exact ⟨fun z => ⟨Int.le_refl _, y1 z⟩, y2⟩
  · have eS : (if pxSteer (pxAc s t.1) = true then
    (if (pxWh s t.1).2.2.1 ≠ 0 ∧ (pxRng s t.1 T).1 ≠ 0 then ((pxRng s t.1 T).1, j, came + 1, T, S, rep)
     else ((pxStr s L j t.1 (pxRng s t.1 T).2.1 (pxRng s t.1 T).2.2 T rep).1, (pxStr s L j t.1 (pxRng s t.1 T).2.1 (pxRng s t.1 T).2.2 T rep).2.1, came + 1, (pxStr s L j t.1 (pxRng s t.1 T).2.1 (pxRng s t.1 T).2.2 T rep).2.2.1, S, (pxStr s L j t.1 (pxRng s t.1 T).2.1 (pxRng s t.1 T).2.2 T rep).2.2.2))
  else if (pxRng s t.1 T).1 ≠ 0 then ((pxRng s t.1 T).1, j, came + 1, T, S, rep)
  else if pxAc s t.1 = 103 ∨ pxAc s t.1 = 71 ∨ pxAc s t.1 = 123 then
    ((pxGp s t.1 t.2 (pxRng s t.1 T).2.1 (pxRng s t.1 T).2.2 (came + 1) T S rep).1, j + 1, (pxGp s t.1 t.2 (pxRng s t.1 T).2.1 (pxRng s t.1 T).2.2 (came + 1) T S rep).2.1, (pxGp s t.1 t.2 (pxRng s t.1 T).2.1 (pxRng s t.1 T).2.2 (came + 1) T S rep).2.2.1, (pxGp s t.1 t.2 (pxRng s t.1 T).2.1 (pxRng s t.1 T).2.2 (came + 1) T S rep).2.2.2.1, (pxGp s t.1 t.2 (pxRng s t.1 T).2.1 (pxRng s t.1 T).2.2 (came + 1) T S rep).2.2.2.2)
  else ((pxDo s (pxWh s t.1).2.1 (pxRng s t.1 T).2.1 (pxRng s t.1 T).2.2 T S rep).1.1, j + 1, came + 1, (pxDo s (pxWh s t.1).2.1 (pxRng s t.1 T).2.1 (pxRng s t.1 T).2.2 T S rep).1.2.1, (pxDo s (pxWh s t.1).2.1 (pxRng s t.1 T).2.1 (pxRng s t.1 T).2.2 T S rep).1.2.2, (pxDo s (pxWh s t.1).2.1 (pxRng s t.1 T).2.1 (pxRng s t.1 T).2.2 T S rep).2)) = ((pxRng s t.1 T).1, j, came + 1, T, S, rep) := by
      by_cases ste : pxSteer (pxAc s t.1) = true
      · rw [if_pos ste, if_pos (show (pxWh s t.1).2.2.1 ≠ 0 ∧ (pxRng s t.1 T).1 ≠ 0 from ⟨fun z => W ⟨z, ste⟩, r0⟩)]
      · rw [if_neg ste, if_pos (show (pxRng s t.1 T).1 ≠ 0 from r0)]
    rw [eS]
    exact ⟨fun z => absurd z r0, fun _ => ref h4 _ F4 r0 (by omega) (by omega)⟩
theorem s_runL (c0 : -2147483648 ≤ call) (c1 : call ≤ 2147483647) : ∀ (m N : Nat) (h : jw_H) (j : Nat) (dn came : Int) (T : pxTx) (S : pxSto) (rep : Bool) (D : List (Int × pxSn)), 60 - came < m → m ≤ N → pxRS nB h b s L T S rep came D → 0 ≤ dn → dn ≤ came →
    ∃ h', f_X10_perform_b25 N h 559 (pxJ call) (pxJ dn) (pxJ ((pxCnt (L.take j) : Nat) : Int)) (pxJ dn) = some (pxJ (pxRunL s L call m j dn came T S rep D).1, h') ∧ pxRE nB h h' (pxRunL s L call m j dn came T S rep D).2.2.1 (pxRunL s L call m j dn came T S rep D).2.2.2.1 (pxRunL s L call m j dn came T S rep D).2.2.2.2 (pxRunL s L call m j dn came T S rep D).2.1 ∧ 0 ≤ (pxRunL s L call m j dn came T S rep D).1 ∧ (pxRunL s L call m j dn came T S rep D).1 ≤ 60 := by
  intro m
  induction m with
  | zero =>
    intro N h j dn came T S rep D hm hN H d0 d1
    have := H.2.1.2.2.2.2.2.2.2.1
    omega
  | succ m ih =>
    intro N h j dn came T S rep D hm hN H d0 d1
    obtain ⟨N, rfl⟩ : ∃ N', N = N' + 1 := ⟨N - 1, by omega⟩
    have ca1 := H.2.1.2.2.2.2.2.2.2.1
    have eR : pxRunL s L call (m + 1) j dn came T S rep D = (L[j]?).elim (dn, 0, T, S, D) fun t =>
      if (pxStep s L j t came T S rep).1 ≠ 0 then (dn, (pxStep s L j t came T S rep).1, T, S, D)
      else pxRunL s L call m (pxStep s L j t came T S rep).2.1 (dn + 1) (pxStep s L j t came T S rep).2.2.1 (pxStep s L j t came T S rep).2.2.2.1 (pxStep s L j t came T S rep).2.2.2.2.1 (pxStep s L j t came T S rep).2.2.2.2.2 (pxDeed (pxAc s t.1) call T D) := rfl
    cases e : L[j]? with
    | none =>
      rw [eR, e]
      dsimp only [Option.elim]
      obtain ⟨PR, G, HI, B, m16⟩ := H
      obtain ⟨A, I, Y, IV, IS, m15, ca0, -, nb⟩ := id G
      refine ⟨h, ?_, ⟨pxF.rfl, ⟨rep, A⟩, I, Y, HI, B, m16, IV, IS, by omega⟩, d0, by omega⟩
      have jl : L.length ≤ j := List.getElem?_eq_none_iff.mp e
      rw [pxCnt_le L j jl]
      have m6 := PR.2.2.2.1
      have c60 := PR.2.2.2.2.1
      have oa := s_X6_orderAt PR.2.1.1 m6 (by omega) (x := ((pxCnt L : Nat) : Int)) (by omega) (by omega)
      rw [if_neg (by omega)] at oa
      have tg := PR.2.1.1.1
      have w0 := A.1.1
      have wp := A.1.2.1
      rw [u_X10_perform_b25]
      unfold g_X10_perform_b25
      clear PR G HI B A I Y IV IS ih eR e
      simp (maxSteps := 4000000) (disch := first | assumption | omega | (simp only [jw_t_I, px_cpt]; done) | (simp only [jw_t_I, px_cpt]; omega)) only [pxL0, pxL1, pxL2, pxL3, pxL4, pxL5, pxL6, pxL7, pxL8, pxL9, pxL10, pxL11, pxL12, pxL13, pxL14, pxL15, pxL16, pxL17, pxL18, pxL19, pxL20, pxL21, pxL22, pxL23, pxL24, pxL25, pxL26, pxL27, pxL28, pxL29, pxL30, pxL31, pxL32, pxL33, pxL34, pxL35, pxL36, pxL37, pxL38, pxL39, pxL40, pxL41, pxL42, pxL43, pxL44, pxL45, pxL46, pxL47, pxL48, pxL49, pxL51, pxL57, pxL58, pxL59, pxL60, pxL61, pxL62, pxL63, pxL64, pxL65, pxL66, pxL67, pxL68, pxL69, pxL70, pxL71, pxL72, pxL73, pxL74, pxL75, pxL76, pxL77, pxL78, pxL79, pxL80, pxL81, pxL82, pxL83, pxL84, pxL85, pxL86, pxL87, pxL88, pxL89, pxL90, pxL91, pxL92, pxL93, pxL94, pxL95, pxL96, pxL97, pxL98, pxL99, pxL100, pxL101, pxL102, pxL103, pxL104, pxL105, pxL106, pxL107, pxL108, pxL109, pxL110, pxL111, pxL112, pxL113, pxL114, pxL115, pxL116, pxL117, pxL118, pxL119, pxL120, pxL121, pxL122, pxL123, pxL124, pxL125, pxL126, pxL200, pxL240, pxL287, pxL388, pxL400, pxL429, pxL431, pxL440, pxL1240, pxL1600, pxL1681, pxL12028, pxL13849, pxL14880, pxL25173, pxL26908, pxL49600, pxL65535, pxL65536, ↓reduceIte, reduceCtorEq, pxJ_add, pxJ_sub, pxJ_mul, pxJ_neg, pxD_lt_t, pxD_lt_f, pxD_le_t, pxD_le_f, pxD_eq_t, pxD_eq_f, pxJ_lt, pxJ_le, pxJ_eq, px_gI, px_gR, px_pI, px_rc, px_ai, px_ar, px_si, px_ln, px_cp, pxJ_div, pxJ_b8, pxJ_byte, px_b2, px_bs, px_rb0, px_rb1, px_min, px_max, px_compare, pxW_some, jw_t_I, px_cpt, jw_r_I, px_cpr, jw_l_I, px_cpl, Option.some.injEq, w0, wp, tg, oa]
    | some t =>
      rw [eR, e]
      dsimp only [Option.elim]
      obtain ⟨y1, y2⟩ := s_step (N := N) (call := call) H e c0 c1 d0 d1
      by_cases r0 : (pxStep s L j t came T S rep).1 = 0
      · rw [if_neg (show ¬ (pxStep s L j t came T S rep).1 ≠ 0 from fun z => z r0)]
        obtain ⟨cm, h1, e1, F1, H1⟩ := y1 r0
        obtain ⟨h', e', E', q0, q1⟩ := ih N h1 (pxStep s L j t came T S rep).2.1 (dn + 1) _ _ _ _ _ (by omega) (by omega) H1 (by omega) (by omega)
        exact ⟨h', by rw [e1]; exact e', ⟨F1.trans E'.1, E'.2⟩, q0, q1⟩
      · rw [if_pos (show (pxStep s L j t came T S rep).1 ≠ 0 from r0)]
        obtain ⟨h1, e1, E1⟩ := y2 r0
        exact ⟨h1, e1, E1, d0, by dsimp only; omega⟩
theorem s_X10_perform {h : jw_H} {T : pxTx} {S : pxSto} {rep : Bool} {D : List (Int × pxSn)} (PR : pxPr h b s L) (A : pxAux h rep) (I : pxIX h T) (Y : pxIY h S) (IV : pxInv T) (IS : pxInvS S) (HI : pxHI h D) (B : pxSSX h 538) (nb : T.2.2.2 + 2400 ≤ nB) (nb2 : nB ≤ 2000000) (c0 : -2147483648 ≤ call) (c1 : call ≤ 2147483647) :
    ∃ h', f_X10_perform h 559 (pxJ call) = some (pxJ (pxRunL s L call 61 0 0 0 T S false D).1, h') ∧ pxRE nB h h' (pxRunL s L call 61 0 0 0 T S false D).2.2.1 (pxRunL s L call 61 0 0 0 T S false D).2.2.2.1 (pxRunL s L call 61 0 0 0 T S false D).2.2.2.2 (pxRunL s L call 61 0 0 0 T S false D).2.1 ∧ 0 ≤ (pxRunL s L call 61 0 0 0 T S false D).1 ∧ (pxRunL s L call 61 0 0 0 T S false D).1 ≤ 60 := by
  have F1 : pxF (fun k f => k = 559 ∧ (f = 15 ∨ f = 16)) h (jw_setI (jw_setI h 559 15 (pxJ 0)) 559 16 (pxJ 0)) := (pxF.setI (by omega)).trans (pxF.setI (by omega))
  have A1 := A.fr F1 (fun k f z => by omega)
  have F2 : pxF (fun k f => k = 536 ∧ f = 5) (jw_setI (jw_setI h 559 15 (pxJ 0)) 559 16 (pxJ 0)) (jw_setI (jw_setI (jw_setI h 559 15 (pxJ 0)) 559 16 (pxJ 0)) 536 5 (pxJ 0)) := pxF.setI ⟨rfl, rfl⟩
  have F12 : pxF (fun k f => (k = 559 ∧ (f = 15 ∨ f = 16)) ∨ (k = 536 ∧ f = 5)) h (jw_setI (jw_setI (jw_setI h 559 15 (pxJ 0)) 559 16 (pxJ 0)) 536 5 (pxJ 0)) := (F1.mono (fun k f z => Or.inl z)).trans (F2.mono (fun k f z => Or.inr z))
  have m15 : pxM (jw_setI (jw_setI (jw_setI h 559 15 (pxJ 0)) 559 16 (pxJ 0)) 536 5 (pxJ 0)) 559 15 = 0 := by
    rw [pxM_ne (by omega), pxM_ne (by omega)]; exact pxM_eq (by omega) (by omega)
  have m16 : pxM (jw_setI (jw_setI (jw_setI h 559 15 (pxJ 0)) 559 16 (pxJ 0)) 536 5 (pxJ 0)) 559 16 = 0 := by
    rw [pxM_ne (by omega)]; exact pxM_eq (by omega) (by omega)
  have RS : pxRS nB (jw_setI (jw_setI (jw_setI h 559 15 (pxJ 0)) 559 16 (pxJ 0)) 536 5 (pxJ 0)) b s L T S false 0 D := ⟨PR.fb F12 (fun k f z => by omega), ⟨A1.rep0, pxIT.fr I F12 (fun k f _ _ => by omega), pxIS.fr Y F12 (fun k f _ _ => by omega), IV, IS, m15, by omega, by omega, by omega⟩, HI.fr F12 (fun k f z => by omega), B.fr F12 (fun k f _ _ => by omega), m16⟩
  obtain ⟨h', e, E, q0, q1⟩ := s_runL (call := call) c0 c1 61 jw_FU _ 0 0 0 T S false D (by omega) (by unfold jw_FU; omega) RS (by omega) (by omega)
  refine ⟨h', ?_, ⟨(F12.mono (fun k f z => by unfold pxQP pxQH pxQG; omega)).trans E.1, E.2⟩, q0, q1⟩
  rw [← e]
  have w0 := A.1.1
  have w5 := A.1.2.2.2.2.2.2.1
  have t2 := A.2.2.1.1
  unfold f_X10_perform
  clear PR A I Y IV IS HI B A1 RS e E
  show _ = f_X10_perform_b25 jw_FU (jw_setI (jw_setI (jw_setI h 559 15 (pxJ 0)) 559 16 (pxJ 0)) 536 5 (pxJ 0)) 559 (pxJ call) (pxJ 0) (pxJ ((0 : Nat) : Int)) (pxJ 0)
  simp (maxSteps := 4000000) (disch := first | assumption | omega | (simp only [jw_t_I, px_cpt, t2]; done) | (simp only [jw_t_I, px_cpt, t2]; omega)) only [pxL0, pxL1, pxL2, pxL3, pxL4, pxL5, pxL6, pxL7, pxL8, pxL9, pxL10, pxL11, pxL12, pxL13, pxL14, pxL15, pxL16, pxL17, pxL18, pxL19, pxL20, pxL21, pxL22, pxL23, pxL24, pxL25, pxL26, pxL27, pxL28, pxL29, pxL30, pxL31, pxL32, pxL33, pxL34, pxL35, pxL36, pxL37, pxL38, pxL39, pxL40, pxL41, pxL42, pxL43, pxL44, pxL45, pxL46, pxL47, pxL48, pxL49, pxL51, pxL57, pxL58, pxL59, pxL60, pxL61, pxL62, pxL63, pxL64, pxL65, pxL66, pxL67, pxL68, pxL69, pxL70, pxL71, pxL72, pxL73, pxL74, pxL75, pxL76, pxL77, pxL78, pxL79, pxL80, pxL81, pxL82, pxL83, pxL84, pxL85, pxL86, pxL87, pxL88, pxL89, pxL90, pxL91, pxL92, pxL93, pxL94, pxL95, pxL96, pxL97, pxL98, pxL99, pxL100, pxL101, pxL102, pxL103, pxL104, pxL105, pxL106, pxL107, pxL108, pxL109, pxL110, pxL111, pxL112, pxL113, pxL114, pxL115, pxL116, pxL117, pxL118, pxL119, pxL120, pxL121, pxL122, pxL123, pxL124, pxL125, pxL126, pxL200, pxL240, pxL287, pxL388, pxL400, pxL429, pxL431, pxL440, pxL1240, pxL1600, pxL1681, pxL12028, pxL13849, pxL14880, pxL25173, pxL26908, pxL49600, pxL65535, pxL65536, ↓reduceIte, reduceCtorEq, pxJ_add, pxJ_sub, pxJ_mul, pxJ_neg, pxD_lt_t, pxD_lt_f, pxD_le_t, pxD_le_f, pxD_eq_t, pxD_eq_f, pxJ_lt, pxJ_le, pxJ_eq, px_gI, px_gR, px_pI, px_rc, px_ai, px_ar, px_si, px_ln, px_cp, pxJ_div, pxJ_b8, pxJ_byte, px_b2, px_bs, px_rb0, px_rb1, px_min, px_max, px_compare, pxW_some, jw_t_I, px_cpt, jw_r_I, px_cpr, jw_l_I, px_cpl, Option.some.injEq, t2, w0, w5, px_pB0]
  rfl
end
