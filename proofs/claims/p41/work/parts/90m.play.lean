/-! orders line by line: a play -/
/-- from a place on: how many were come to, the reason, the new text, the stores -/
def pxBLoop (s : List Int) (L : List (Int × List Int)) (T : pxTx) : Nat → Nat → Bool → Bool → Int → (Nat → pxFg) → pxBe → Int × Int × pxFh × pxSto
  | 0, _, _, _, came, _, β => (came, 0, β.2.1, β.2.2.1)
  | m + 1, k, leaving, ending, came, G, β =>
    if leaving = false ∧ k < pxCnt L then
      ((pxFl L 0)[k]?).elim (came, 0, β.2.1, β.2.2.1) fun e =>
        if (pxBOrd s L T k e.1 e.2 came G β.1 β.2.1 β.2.2.1 β.2.2.2).1 ≠ 0 then (came + 1, (pxBOrd s L T k e.1 e.2 came G β.1 β.2.1 β.2.2.1 β.2.2.2).1, β.2.1, β.2.2.1)
        else pxBLoop s L T m (pxBOrd s L T k e.1 e.2 came G β.1 β.2.1 β.2.2.1 β.2.2.2).2.1 (pxBOrd s L T k e.1 e.2 came G β.1 β.2.1 β.2.2.1 β.2.2.2).2.2.1 (pxBOrd s L T k e.1 e.2 came G β.1 β.2.1 β.2.2.1 β.2.2.2).2.2.2.1 (came + 1) (pxBOrd s L T k e.1 e.2 came G β.1 β.2.1 β.2.2.1 β.2.2.2).2.2.2.2.1 (pxBOrd s L T k e.1 e.2 came G β.1 β.2.1 β.2.2.1 β.2.2.2).2.2.2.2.2
    else (pxBEnd β.1 β.2.1).elim (came, 4, β.2.1, β.2.2.1) fun F =>
      if ending = true then (pxBRest (T.1.drop β.1.2.2.1.toNat) F).elim (came, 4, F, β.2.2.1) (fun F' => (came, 0, F', β.2.2.1))
      else if β.1.2.2.1 < (T.1.length : Int) then pxBLoop s L T m (if leaving = true then k else 0) false false came G (pxBNext T β.1, F, β.2.2.1, false)
      else (came, 0, F, β.2.2.1)
def pxBW0 : pxWk := (0, 0, 0, 0, false, [], [])
def pxBG0 : Nat → pxFg := fun _ => (false, false, false, 0)
def pxBRun (s : List Int) (L : List (Int × List Int)) (T : pxTx) (S : pxSto) : Int × Int × pxFh × pxSto :=
  if 0 < T.1.length then pxBLoop s L T 442 0 false false 0 pxBG0 (pxBNext T pxBW0, ([], T.2.1, T.2.2.2), pxBClr s (pxFl L 0) S, false) else (0, 0, ([], T.2.1, T.2.2.2), pxBClr s (pxFl L 0) S)
/-- a play: its answer, the reason, the text, the stores -/
def pxBPlay (s : List Int) (L : List (Int × List Int)) (T : pxTx) (S : pxSto) : Int × Int × pxTx × pxSto :=
  if (pxBRun s L T S).2.1 ≠ 0 then (-1, (pxBRun s L T S).2.1, T, S)
  else ((pxBRun s L T S).1, 0, ((pxBRun s L T S).2.2.1.1, (pxBRun s L T S).2.2.1.2.1, ((pxBRun s L T S).2.2.1.1.length : Int), (pxBRun s L T S).2.2.1.2.2), (pxBRun s L T S).2.2.2)
/-- what a play may change -/
def pxQL : Nat → Nat → Prop := fun k f => pxQD k f ∨ (255 ≤ k ∧ k ≤ 260) ∨ (k = 571 ∧ f = 17) ∨ (538 ≤ k ∧ k ≤ 558)
/-- what a play leaves -/
def pxBZ (h h' : jw_H) (T' : pxTx) (S' : pxSto) (r : Int) : Prop := pxF pxQL h h' ∧ pxBX h' ∧ pxMS h' ∧ pxHS h' ∧ pxIX h' T' ∧ pxIY h' S' ∧ pxSSX h' 538 ∧ pxM h' 571 15 = r ∧ (∃ rep : Bool, pxM h' 536 5 = if rep = true then 1 else 0)
/-- what stands in a play that goes on -/
def pxBP (h : jw_H) (b : Nat) (s : List Int) (L : List (Int × List Int)) (T : pxTx) (S0 : pxSto) (leaving ending : Bool) (came : Int) (G : Nat → pxFg) (β : pxBe) : Prop :=
  pxPr h b s L ∧ pxBS h T β ∧ pxBG h (pxCnt L) G ∧ pxIS h 538 S0.1 S0.2.1 S0.2.2 ∧ pxM h 571 14 = came ∧ pxM h 571 15 = 0 ∧ pxM h 571 17 = 1 ∧ (pxM h 571 18 = if leaving = true then 1 else 0) ∧ (pxM h 571 19 = if ending = true then 1 else 0)
section
variable {T : pxTx} {S0 : pxSto} {h : jw_H} {s : List Int} {b : Nat} {L : List (Int × List Int)} {came r : Int} {β : pxBe}
theorem pxBS.x (H : pxBS h T β) : pxBX h := by
  obtain ⟨a1, a2, a3, a4, ⟨now, a5⟩, a6, ⟨-, -, -, -, -, b6, b7, -⟩, a8, -⟩ := H
  exact ⟨a1, pxIT.sx a5, ⟨_, b6⟩, ⟨_, b7⟩, a8⟩
theorem pxBX.fr {P : Nat → Nat → Prop} {h' : jw_H} (H : pxBX h) (F : pxF P h h') (hP : ∀ k f, (k = 571 ∧ f < 10) ∨ (572 ≤ k ∧ k ≤ 586) → ¬ P k f) : pxBX h' := by
  obtain ⟨a1, a2, ⟨r1, a3⟩, ⟨r2, a4⟩, ⟨r3, a5⟩⟩ := H
  exact ⟨a1.fr F (fun f z => hP _ _ (by omega)), a2.fr F (fun k f _ _ => hP _ _ (by omega)), ⟨r1, a3.fr F (fun k f _ _ => hP _ _ (by omega))⟩, ⟨r2, a4.fr F (fun k f _ _ => hP _ _ (by omega))⟩, ⟨r3, a5.fr F (fun k f _ _ => hP _ _ (by omega))⟩⟩
/-- a play that was refused ends -/
theorem s_b110r (H : pxBS h T β) (B : pxIS h 538 S0.1 S0.2.1 S0.2.2) (m15 : pxM h 571 15 = r) (r0 : r ≠ 0) : ∃ h', g_X1_perform_b110 h 571 = some (pxJ (-1), h') ∧ pxBZ h h' T S0 r := by
  obtain ⟨a1, a2, a3, a4, a5, a6, a7, a8, a9, a10⟩ := id H
  obtain ⟨u1, h1, e1, F1, Y1⟩ := s_X8_copy (pxIS.sx a6) B (by omega)
  have F1' : pxF (fun k f => 261 ≤ k ∧ k ≤ 281) h h1 := F1.mono (fun k f z => by unfold pxC at z; omega)
  have g0 := pxM_lo h 571 15
  have g1 := pxM_hi h 571 15
  rw [m15] at g0 g1
  refine ⟨h1, ?_, F1'.mono (fun k f z => by unfold pxQL pxQD pxQB; omega), H.x.fr F1' (fun k f z => by omega), a2.fr F1' (fun f z => by omega), a3.fr F1' (fun f z => by omega), pxIT.fr a4 F1' (fun k f _ _ => by omega), Y1, (pxIS.sx B).fr F1' (fun k f _ _ => by omega), by rw [F1'.m (by omega)]; exact m15, ⟨_, by rw [F1'.m (by omega)]; exact a9⟩⟩
  have t1 := a1.1
  have r2 := a1.2.2.2.1
  have r3 := a1.2.2.2.2.1
  have t8 := a6.1.1
  unfold g_X1_perform_b110
  clear H B a1 a2 a3 a4 a5 a6 a7 a8 a9 a10 F1 F1' Y1
  simp (maxSteps := 4000000) (disch := first | assumption | omega | (simp only [jw_t_I, px_cpt]; done) | (simp only [jw_t_I, px_cpt]; omega)) only [pxL0, pxL1, pxL2, pxL3, pxL4, pxL5, pxL6, pxL7, pxL8, pxL9, pxL10, pxL11, pxL12, pxL13, pxL14, pxL15, pxL16, pxL17, pxL18, pxL19, pxL20, pxL21, pxL22, pxL23, pxL24, pxL25, pxL26, pxL27, pxL28, pxL29, pxL30, pxL31, pxL32, pxL33, pxL34, pxL35, pxL36, pxL37, pxL38, pxL39, pxL40, pxL41, pxL42, pxL43, pxL44, pxL45, pxL46, pxL47, pxL48, pxL49, pxL51, pxL57, pxL58, pxL59, pxL60, pxL61, pxL62, pxL63, pxL64, pxL65, pxL66, pxL67, pxL68, pxL69, pxL70, pxL71, pxL72, pxL73, pxL74, pxL75, pxL76, pxL77, pxL78, pxL79, pxL80, pxL81, pxL82, pxL83, pxL84, pxL85, pxL86, pxL87, pxL88, pxL89, pxL90, pxL91, pxL92, pxL93, pxL94, pxL95, pxL96, pxL97, pxL98, pxL99, pxL100, pxL101, pxL102, pxL103, pxL104, pxL105, pxL106, pxL107, pxL108, pxL109, pxL110, pxL111, pxL112, pxL113, pxL114, pxL115, pxL116, pxL117, pxL118, pxL119, pxL120, pxL121, pxL122, pxL123, pxL124, pxL125, pxL126, pxL200, pxL240, pxL287, pxL388, pxL400, pxL429, pxL431, pxL440, pxL1240, pxL1600, pxL1681, pxL12028, pxL13849, pxL14880, pxL25173, pxL26908, pxL49600, pxL65535, pxL65536, ↓reduceIte, reduceCtorEq, pxJ_add, pxJ_sub, pxJ_mul, pxJ_neg, pxD_lt_t, pxD_lt_f, pxD_le_t, pxD_le_f, pxD_eq_t, pxD_eq_f, pxJ_lt, pxJ_le, pxJ_eq, px_gI, px_gR, px_pI, px_rc, px_ai, px_ar, px_si, px_ln, px_cp, pxJ_div, pxJ_b8, pxJ_byte, px_b2, px_bs, px_rb0, px_rb1, px_min, px_max, px_compare, pxW_some, jw_t_I, px_cpt, jw_r_I, px_cpr, jw_l_I, px_cpl, Option.some.injEq, t1, m15, r2, r3, t8, e1]
/-- a play ends -/
theorem s_b110y {Fr : pxFh} {S : pxSto} (X : pxBX h) (a2 : pxMS h) (a3 : pxHS h) (a4 : pxIX h T) (a5 : pxIF h Fr) (a6 : pxIY h S) (B : pxIS h 538 S0.1 S0.2.1 S0.2.2) (a9 : ∃ rep : Bool, pxM h 536 5 = if rep = true then 1 else 0) (a10 : 0 ≤ Fr.2.2) (a11 : Fr.2.2 ≤ 2000100) (m15 : pxM h 571 15 = 0) (m14 : pxM h 571 14 = came) : ∃ h', g_X1_perform_b110 h 571 = some (pxJ came, h') ∧ pxBZ h h' (Fr.1, Fr.2.1, (Fr.1.length : Int), Fr.2.2) S 0 := by
  obtain ⟨now, a5⟩ := a5
  obtain ⟨a1, xs, ⟨rs6, b6⟩, ⟨rs7, b7⟩, ⟨rs8, a8⟩⟩ := X
  obtain ⟨rep9, a9⟩ := a9
  have l40 := pxIT.len a4
  have k40 := pxIT.len a5
  have c5 := pxIT.c2 a5
  have I1 := pxIT.now3 a5 (v := (Fr.1.length : Int)) (by omega) (by omega)
  have F1 : pxF (fun k f => k = 572 ∧ f = 3) h (jw_setI h 572 3 (pxJ (Fr.1.length : Int))) := pxF.setI ⟨rfl, rfl⟩
  have a41 : pxIX (jw_setI h 572 3 (pxJ (Fr.1.length : Int))) T := pxIT.fr a4 F1 (fun k f _ _ => by omega)
  obtain ⟨u2, h2, e2, F2, I2⟩ := s_X9_copy (pxIT.sx a41) I1 (by omega)
  have F2' : pxF (fun k f => 255 ≤ k ∧ k ≤ 260) (jw_setI h 572 3 (pxJ (Fr.1.length : Int))) h2 := F2.mono (fun k f z => by unfold pxC at z; omega)
  have I3 := pxIT.nxt4 I2 (v := Fr.2.2) (by omega) (by omega)
  have F3 : pxF (fun k f => (255 ≤ k ∧ k ≤ 260) ∨ (k = 572 ∧ f = 3)) h (jw_setI h2 255 4 (pxJ Fr.2.2)) := ((F1.mono (fun k f z => Or.inr z)).trans (F2'.mono (fun k f z => Or.inl z))).trans (pxF.setI (by omega))
  have F12 : pxF (fun k f => (255 ≤ k ∧ k ≤ 260) ∨ (k = 572 ∧ f = 3)) h h2 := (F1.mono (fun k f z => Or.inr z)).trans (F2'.mono (fun k f z => Or.inl z))
  have F23 : pxF (fun k f => 255 ≤ k ∧ k ≤ 260) (jw_setI h 572 3 (pxJ (Fr.1.length : Int))) (jw_setI h2 255 4 (pxJ Fr.2.2)) := F2'.trans (pxF.setI (by omega))
  have m43 : pxM h2 572 4 = Fr.2.2 := by rw [F12.m (by omega)]; exact a5.2.2.2.2.2
  have m144 : pxM (jw_setI h2 255 4 (pxJ Fr.2.2)) 571 14 = came := by rw [F3.m (by omega)]; exact m14
  refine ⟨jw_setI h2 255 4 (pxJ Fr.2.2), ?_, F3.mono (fun k f z => by unfold pxQL pxQD pxQB; omega), ⟨a1.fr F3 (fun f z => by omega), pxIT.sx (pxIT.fr I1 F23 (fun k f _ _ => by omega)), ⟨_, b6.fr F3 (fun k f _ _ => by omega)⟩, ⟨_, b7.fr F3 (fun k f _ _ => by omega)⟩, ⟨_, a8.fr F3 (fun k f _ _ => by omega)⟩⟩, a2.fr F3 (fun f z => by omega), a3.fr F3 (fun f z => by omega), I3, pxIS.fr a6 F3 (fun k f _ _ => by omega), (pxIS.sx B).fr F3 (fun k f _ _ => by omega), by rw [F3.m (by omega)]; exact m15, ⟨_, by rw [F3.m (by omega)]; exact a9⟩⟩
  have t1 := a1.1
  have r1 := a1.2.2.1
  have r6 := a1.2.2.2.2.2.2.2.1
  have t9 := a5.1.1
  have q0 := a5.1.2.1
  have t7 := a5.2.1.1.1
  have t9x := a4.1.1
  have t12 : (jw_t h2 571).1 = 1 := by rw [F12.t]; exact t1
  have r12 : jw_r h2 571 1 = some 255 := by rw [F12.r (by omega)]; exact r1
  have r62 : jw_r h2 571 6 = some 572 := by rw [F12.r (by omega)]; exact r6
  have t92 : (jw_t h2 572).1 = 9 := by rw [F12.t]; exact t9
  have t9x2 : (jw_t h2 255).1 = 9 := by rw [F12.t]; exact t9x
  unfold g_X1_perform_b110
  clear xs B a1 a2 a3 a4 a5 a6 b6 b7 a8 a9 F1 I1 a41 F2 I2 F2' I3 F3 F12 F23
  simp (maxSteps := 4000000) (disch := first | assumption | omega | (simp only [jw_t_I, px_cpt]; done) | (simp only [jw_t_I, px_cpt]; omega)) only [pxL0, pxL1, pxL2, pxL3, pxL4, pxL5, pxL6, pxL7, pxL8, pxL9, pxL10, pxL11, pxL12, pxL13, pxL14, pxL15, pxL16, pxL17, pxL18, pxL19, pxL20, pxL21, pxL22, pxL23, pxL24, pxL25, pxL26, pxL27, pxL28, pxL29, pxL30, pxL31, pxL32, pxL33, pxL34, pxL35, pxL36, pxL37, pxL38, pxL39, pxL40, pxL41, pxL42, pxL43, pxL44, pxL45, pxL46, pxL47, pxL48, pxL49, pxL51, pxL57, pxL58, pxL59, pxL60, pxL61, pxL62, pxL63, pxL64, pxL65, pxL66, pxL67, pxL68, pxL69, pxL70, pxL71, pxL72, pxL73, pxL74, pxL75, pxL76, pxL77, pxL78, pxL79, pxL80, pxL81, pxL82, pxL83, pxL84, pxL85, pxL86, pxL87, pxL88, pxL89, pxL90, pxL91, pxL92, pxL93, pxL94, pxL95, pxL96, pxL97, pxL98, pxL99, pxL100, pxL101, pxL102, pxL103, pxL104, pxL105, pxL106, pxL107, pxL108, pxL109, pxL110, pxL111, pxL112, pxL113, pxL114, pxL115, pxL116, pxL117, pxL118, pxL119, pxL120, pxL121, pxL122, pxL123, pxL124, pxL125, pxL126, pxL200, pxL240, pxL287, pxL388, pxL400, pxL429, pxL431, pxL440, pxL1240, pxL1600, pxL1681, pxL12028, pxL13849, pxL14880, pxL25173, pxL26908, pxL49600, pxL65535, pxL65536, ↓reduceIte, reduceCtorEq, pxJ_add, pxJ_sub, pxJ_mul, pxJ_neg, pxD_lt_t, pxD_lt_f, pxD_le_t, pxD_le_f, pxD_eq_t, pxD_eq_f, pxJ_lt, pxJ_le, pxJ_eq, px_gI, px_gR, px_pI, px_rc, px_ai, px_ar, px_si, px_ln, px_cp, pxJ_div, pxJ_b8, pxJ_byte, px_b2, px_bs, px_rb0, px_rb1, px_min, px_max, px_compare, pxW_some, jw_t_I, px_cpt, jw_r_I, px_cpr, jw_l_I, px_cpl, Option.some.injEq, t1, m15, r6, r1, t9, q0, t7, c5, t9x, e2, t12, r12, r62, t92, m43, t9x2, m144]
theorem s_b110z (H : pxBS h T β) (B : pxIS h 538 S0.1 S0.2.1 S0.2.2) (m15 : pxM h 571 15 = 0) (m14 : pxM h 571 14 = came) : ∃ h', g_X1_perform_b110 h 571 = some (pxJ came, h') ∧ pxBZ h h' (β.2.1.1, β.2.1.2.1, (β.2.1.1.length : Int), β.2.1.2.2) β.2.2.1 0 := by
  obtain ⟨a1, a2, a3, a4, a5, a6, a7, a8, a9, a10, a11, a12⟩ := id H
  obtain ⟨now, I5⟩ := id a5
  have k40 := pxIT.len I5
  exact s_b110y H.x a2 a3 a4 a5 a6 B ⟨_, a9⟩ a10 (by omega) m15 m14
theorem s_X1_stop {N : Nat} {pl : Int32} {st g : Int} (t1 : (jw_t h 571).1 = 1) (m17 : pxM h 571 17 = g) (m15 : pxM h 571 15 = r) (z : g = 0 ∨ r ≠ 0) (s0 : 0 ≤ st) (s1 : st ≤ 1000) : f_X1_perform_b12 (N + 1) h 571 pl (pxJ st) = g_X1_perform_b110 h 571 := by
  have g0 := pxM_lo h 571 15
  have g1 := pxM_hi h 571 15
  rw [m15] at g0 g1
  have g2 := pxM_lo h 571 17
  have g3 := pxM_hi h 571 17
  rw [m17] at g2 g3
  rw [u_X1_perform_b12]
  unfold g_X1_perform_b12
  by_cases c : 440 < st
  · simp (maxSteps := 4000000) (disch := first | assumption | omega | (simp only [jw_t_I, px_cpt]; done) | (simp only [jw_t_I, px_cpt]; omega)) only [pxL0, pxL1, pxL2, pxL3, pxL4, pxL5, pxL6, pxL7, pxL8, pxL9, pxL10, pxL11, pxL12, pxL13, pxL14, pxL15, pxL16, pxL17, pxL18, pxL19, pxL20, pxL21, pxL22, pxL23, pxL24, pxL25, pxL26, pxL27, pxL28, pxL29, pxL30, pxL31, pxL32, pxL33, pxL34, pxL35, pxL36, pxL37, pxL38, pxL39, pxL40, pxL41, pxL42, pxL43, pxL44, pxL45, pxL46, pxL47, pxL48, pxL49, pxL51, pxL57, pxL58, pxL59, pxL60, pxL61, pxL62, pxL63, pxL64, pxL65, pxL66, pxL67, pxL68, pxL69, pxL70, pxL71, pxL72, pxL73, pxL74, pxL75, pxL76, pxL77, pxL78, pxL79, pxL80, pxL81, pxL82, pxL83, pxL84, pxL85, pxL86, pxL87, pxL88, pxL89, pxL90, pxL91, pxL92, pxL93, pxL94, pxL95, pxL96, pxL97, pxL98, pxL99, pxL100, pxL101, pxL102, pxL103, pxL104, pxL105, pxL106, pxL107, pxL108, pxL109, pxL110, pxL111, pxL112, pxL113, pxL114, pxL115, pxL116, pxL117, pxL118, pxL119, pxL120, pxL121, pxL122, pxL123, pxL124, pxL125, pxL126, pxL200, pxL240, pxL287, pxL388, pxL400, pxL429, pxL431, pxL440, pxL1240, pxL1600, pxL1681, pxL12028, pxL13849, pxL14880, pxL25173, pxL26908, pxL49600, pxL65535, pxL65536, ↓reduceIte, reduceCtorEq, pxJ_add, pxJ_sub, pxJ_mul, pxJ_neg, pxD_lt_t, pxD_lt_f, pxD_le_t, pxD_le_f, pxD_eq_t, pxD_eq_f, pxJ_lt, pxJ_le, pxJ_eq, px_gI, px_gR, px_pI, px_rc, px_ai, px_ar, px_si, px_ln, px_cp, pxJ_div, pxJ_b8, pxJ_byte, px_b2, px_bs, px_rb0, px_rb1, px_min, px_max, px_compare, pxW_some, jw_t_I, px_cpt, jw_r_I, px_cpr, jw_l_I, px_cpl, Option.some.injEq]
  · by_cases d : g = 0
    · rw [d] at m17
      simp (maxSteps := 4000000) (disch := first | assumption | omega | (simp only [jw_t_I, px_cpt]; done) | (simp only [jw_t_I, px_cpt]; omega)) only [pxL0, pxL1, pxL2, pxL3, pxL4, pxL5, pxL6, pxL7, pxL8, pxL9, pxL10, pxL11, pxL12, pxL13, pxL14, pxL15, pxL16, pxL17, pxL18, pxL19, pxL20, pxL21, pxL22, pxL23, pxL24, pxL25, pxL26, pxL27, pxL28, pxL29, pxL30, pxL31, pxL32, pxL33, pxL34, pxL35, pxL36, pxL37, pxL38, pxL39, pxL40, pxL41, pxL42, pxL43, pxL44, pxL45, pxL46, pxL47, pxL48, pxL49, pxL51, pxL57, pxL58, pxL59, pxL60, pxL61, pxL62, pxL63, pxL64, pxL65, pxL66, pxL67, pxL68, pxL69, pxL70, pxL71, pxL72, pxL73, pxL74, pxL75, pxL76, pxL77, pxL78, pxL79, pxL80, pxL81, pxL82, pxL83, pxL84, pxL85, pxL86, pxL87, pxL88, pxL89, pxL90, pxL91, pxL92, pxL93, pxL94, pxL95, pxL96, pxL97, pxL98, pxL99, pxL100, pxL101, pxL102, pxL103, pxL104, pxL105, pxL106, pxL107, pxL108, pxL109, pxL110, pxL111, pxL112, pxL113, pxL114, pxL115, pxL116, pxL117, pxL118, pxL119, pxL120, pxL121, pxL122, pxL123, pxL124, pxL125, pxL126, pxL200, pxL240, pxL287, pxL388, pxL400, pxL429, pxL431, pxL440, pxL1240, pxL1600, pxL1681, pxL12028, pxL13849, pxL14880, pxL25173, pxL26908, pxL49600, pxL65535, pxL65536, ↓reduceIte, reduceCtorEq, pxJ_add, pxJ_sub, pxJ_mul, pxJ_neg, pxD_lt_t, pxD_lt_f, pxD_le_t, pxD_le_f, pxD_eq_t, pxD_eq_f, pxJ_lt, pxJ_le, pxJ_eq, px_gI, px_gR, px_pI, px_rc, px_ai, px_ar, px_si, px_ln, px_cp, pxJ_div, pxJ_b8, pxJ_byte, px_b2, px_bs, px_rb0, px_rb1, px_min, px_max, px_compare, pxW_some, jw_t_I, px_cpt, jw_r_I, px_cpr, jw_l_I, px_cpl, Option.some.injEq, t1, m17]
    · have r0 : ¬ r = 0 := by omega
      clear z
      simp (maxSteps := 4000000) (disch := first | assumption | omega | (simp only [jw_t_I, px_cpt]; done) | (simp only [jw_t_I, px_cpt]; omega)) only [pxL0, pxL1, pxL2, pxL3, pxL4, pxL5, pxL6, pxL7, pxL8, pxL9, pxL10, pxL11, pxL12, pxL13, pxL14, pxL15, pxL16, pxL17, pxL18, pxL19, pxL20, pxL21, pxL22, pxL23, pxL24, pxL25, pxL26, pxL27, pxL28, pxL29, pxL30, pxL31, pxL32, pxL33, pxL34, pxL35, pxL36, pxL37, pxL38, pxL39, pxL40, pxL41, pxL42, pxL43, pxL44, pxL45, pxL46, pxL47, pxL48, pxL49, pxL51, pxL57, pxL58, pxL59, pxL60, pxL61, pxL62, pxL63, pxL64, pxL65, pxL66, pxL67, pxL68, pxL69, pxL70, pxL71, pxL72, pxL73, pxL74, pxL75, pxL76, pxL77, pxL78, pxL79, pxL80, pxL81, pxL82, pxL83, pxL84, pxL85, pxL86, pxL87, pxL88, pxL89, pxL90, pxL91, pxL92, pxL93, pxL94, pxL95, pxL96, pxL97, pxL98, pxL99, pxL100, pxL101, pxL102, pxL103, pxL104, pxL105, pxL106, pxL107, pxL108, pxL109, pxL110, pxL111, pxL112, pxL113, pxL114, pxL115, pxL116, pxL117, pxL118, pxL119, pxL120, pxL121, pxL122, pxL123, pxL124, pxL125, pxL126, pxL200, pxL240, pxL287, pxL388, pxL400, pxL429, pxL431, pxL440, pxL1240, pxL1600, pxL1681, pxL12028, pxL13849, pxL14880, pxL25173, pxL26908, pxL49600, pxL65535, pxL65536, ↓reduceIte, reduceCtorEq, pxJ_add, pxJ_sub, pxJ_mul, pxJ_neg, pxD_lt_t, pxD_lt_f, pxD_le_t, pxD_le_f, pxD_eq_t, pxD_eq_f, pxJ_lt, pxJ_le, pxJ_eq, px_gI, px_gR, px_pI, px_rc, px_ai, px_ar, px_si, px_ln, px_cp, pxJ_div, pxJ_b8, pxJ_byte, px_b2, px_bs, px_rb0, px_rb1, px_min, px_max, px_compare, pxW_some, jw_t_I, px_cpt, jw_r_I, px_cpr, jw_l_I, px_cpl, Option.some.injEq, t1, m17, m15]
end
