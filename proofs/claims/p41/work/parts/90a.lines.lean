/-! orders line by line: the state, and lines that are put -/
/-- the work: id, number, how many were taken, turn, whether it is gone, its row, the rows that are due -/
abbrev pxWk := Int × Int × Int × Int × Bool × List Int × List (List Int)
/-- the new text: lines, marks, next id -/
abbrev pxFh := pxLs × (Int → Int) × Int
abbrev pxBe := pxWk × pxFh × pxSto × Bool
/-- rows become due -/
def pxBDue (due rows : List (List Int)) : List (List Int) := (due ++ rows).take 41
/-- rows are put as new lines -/
def pxBPut : List (List Int) → pxFh → Option pxFh
  | [], F => some F
  | r :: rs, F => if F.1.length < 40 then pxBPut rs (F.1 ++ [(F.2.2, r)], F.2.1, F.2.2 + 1) else none
def pxBDrop (F : pxFh) (id : Int) : pxFh := (F.1, pxDm F.2.1 id, F.2.2)
def pxBEnd (W : pxWk) (F : pxFh) : Option pxFh :=
  if W.2.2.2.2.1 = true then pxBPut W.2.2.2.2.2.2 F else if F.1.length < 40 then pxBPut W.2.2.2.2.2.2 (F.1 ++ [(W.1, W.2.2.2.2.2.1)], F.2.1, F.2.2) else none
def pxBNext (T : pxTx) (W : pxWk) : pxWk := (pxId T.1 (W.2.2.1 + 1), W.2.2.1 + 1, W.2.2.1 + 1, W.2.2.2.1 + 1, false, pxRw (pxRs T.1) (W.2.2.1 + 1), [])
def pxBRest : pxLs → pxFh → Option pxFh
  | [], F => some F
  | a :: r, F => if F.1.length < 40 then pxBRest r (F.1 ++ [a], F.2.1, F.2.2) else none
/-! what stands in the machine -/
def pxBF (h : jw_H) : Prop := (jw_t h 571).1 = 1 ∧ jw_r h 571 0 = some 10 ∧ jw_r h 571 1 = some 255 ∧ jw_r h 571 2 = some 261 ∧ jw_r h 571 3 = some 538 ∧ jw_r h 571 4 = some 531 ∧ jw_r h 571 5 = some 536 ∧ jw_r h 571 6 = some 572 ∧ jw_r h 571 7 = some 578 ∧ jw_r h 571 8 = some 581 ∧ jw_r h 571 9 = some 584
theorem pxBF.fr {P : Nat → Nat → Prop} {h h' : jw_H} (H : pxBF h) (F : pxF P h h') (hP : ∀ f, f < 10 → ¬ P 571 f) : pxBF h' := by
  obtain ⟨a1, a2, a3, a4, a5, a6, a7, a8, a9, a10, a11⟩ := H
  exact ⟨by rw [F.t]; exact a1, by rw [F.r (hP _ (by omega))]; exact a2, by rw [F.r (hP _ (by omega))]; exact a3, by rw [F.r (hP _ (by omega))]; exact a4, by rw [F.r (hP _ (by omega))]; exact a5, by rw [F.r (hP _ (by omega))]; exact a6, by rw [F.r (hP _ (by omega))]; exact a7, by rw [F.r (hP _ (by omega))]; exact a8, by rw [F.r (hP _ (by omega))]; exact a9, by rw [F.r (hP _ (by omega))]; exact a10, by rw [F.r (hP _ (by omega))]; exact a11⟩
def pxIF (h : jw_H) (F : pxFh) : Prop := ∃ now, pxIT h 572 F.1 F.2.1 now F.2.2
theorem pxIF.fr {P : Nat → Nat → Prop} {h h' : jw_H} {F : pxFh} (H : pxIF h F) (Fr : pxF P h h') (hP : ∀ k f, 572 ≤ k → k ≤ 577 → ¬ P k f) : pxIF h' F := by
  obtain ⟨now, H⟩ := H
  exact ⟨now, pxIT.fr H Fr (fun k f z1 z2 => hP k f z1 (by omega))⟩
/-- the work stands in the machine -/
def pxBM (h : jw_H) (n : Int) (W : pxWk) : Prop :=
  pxM h 571 10 = W.1 ∧ pxM h 571 11 = W.2.1 ∧ pxM h 571 12 = W.2.2.1 ∧ pxM h 571 13 = W.2.2.2.1 ∧ (pxM h 571 16 = if W.2.2.2.2.1 = true then 1 else 0) ∧ pxIR h 578 1 [W.2.2.2.2.2.1] ∧ pxIR h 581 41 W.2.2.2.2.2.2 ∧ (0 ≤ W.2.1 ∧ W.2.1 ≤ n) ∧ (0 ≤ W.2.2.1 ∧ W.2.2.1 ≤ n) ∧ 0 ≤ W.2.2.2.1 ∧ W.2.2.2.1 ≤ W.2.2.1
theorem pxBM.fr {P : Nat → Nat → Prop} {h h' : jw_H} {n : Int} {W : pxWk} (H : pxBM h n W) (F : pxF P h h') (hP : ∀ k f, (k = 571 ∧ (10 ≤ f ∧ f ≤ 13 ∨ f = 16)) ∨ (578 ≤ k ∧ k ≤ 583) → ¬ P k f) : pxBM h' n W := by
  obtain ⟨a1, a2, a3, a4, a5, a6, a7, a8⟩ := H
  exact ⟨by rw [F.m (hP _ _ (by omega))]; exact a1, by rw [F.m (hP _ _ (by omega))]; exact a2, by rw [F.m (hP _ _ (by omega))]; exact a3, by rw [F.m (hP _ _ (by omega))]; exact a4, by rw [F.m (hP _ _ (by omega))]; exact a5, a6.fr F (fun k f _ _ => hP k f (by omega)), a7.fr F (fun k f _ _ => hP k f (by omega)), a8⟩
/-- a play stands in the machine -/
def pxBS (h : jw_H) (T : pxTx) (β : pxBe) : Prop :=
  pxBF h ∧ pxMS h ∧ pxHS h ∧ pxIX h T ∧ pxIF h β.2.1 ∧ pxIY h β.2.2.1 ∧ pxBM h T.1.length β.1 ∧ (∃ rs, pxIR h 584 60 rs) ∧ (pxM h 536 5 = if β.2.2.2 = true then 1 else 0) ∧ 0 ≤ β.2.1.2.2 ∧ β.2.1.2.2 ≤ T.2.2.2 + β.2.1.1.length ∧ T.2.2.2 ≤ 2000000
theorem pxBS.fr {P : Nat → Nat → Prop} {h h' : jw_H} {T : pxTx} {β : pxBe} (H : pxBS h T β) (F : pxF P h h') (hP : ∀ k f, (k = 571 ∧ (f ≤ 13 ∨ f = 16)) ∨ (572 ≤ k ∧ k ≤ 586) ∨ (k = 531 ∧ f < 5) ∨ (k = 536 ∧ (f < 3 ∨ f = 5)) ∨ (255 ≤ k ∧ k ≤ 281) → ¬ P k f) : pxBS h' T β := by
  obtain ⟨a1, a2, a3, a4, a5, a6, a7, ⟨rs, a8⟩, a9, a10⟩ := H
  exact ⟨a1.fr F (fun f z => hP _ _ (by omega)), a2.fr F (fun f z => hP _ _ (by omega)), a3.fr F (fun f z => hP _ _ (by omega)), pxIT.fr a4 F (fun k f _ _ => hP _ _ (by omega)), a5.fr F (fun k f _ _ => hP _ _ (by omega)), pxIS.fr a6 F (fun k f _ _ => hP _ _ (by omega)), a7.fr F (fun k f z => hP _ _ (by omega)), ⟨rs, a8.fr F (fun k f _ _ => hP _ _ (by omega))⟩, by rw [F.m (hP _ _ (by omega))]; exact a9, a10⟩
theorem pxBS_i {h : jw_H} {T : pxTx} {W : pxWk} {Fr : pxFh} {S : pxSto} {rep : Bool} : pxBS h T (W, Fr, S, rep) ↔ pxBF h ∧ pxMS h ∧ pxHS h ∧ pxIX h T ∧ pxIF h Fr ∧ pxIY h S ∧ pxBM h T.1.length W ∧ (∃ rs, pxIR h 584 60 rs) ∧ (pxM h 536 5 = if rep = true then 1 else 0) ∧ 0 ≤ Fr.2.2 ∧ Fr.2.2 ≤ T.2.2.2 + Fr.1.length ∧ T.2.2.2 ≤ 2000000 := Iff.rfl
/-- what an act may change -/
def pxQB : Nat → Nat → Prop := fun k f => (261 ≤ k ∧ k ≤ 281) ∨ (k = 531 ∧ 5 ≤ f) ∨ (532 ≤ k ∧ k ≤ 535) ∨ (k = 536 ∧ 3 ≤ f) ∨ k = 537 ∨ (k = 571 ∧ 10 ≤ f ∧ f ≠ 14 ∧ f ≠ 17 ∧ f ≠ 18 ∧ f ≠ 19) ∨ (572 ≤ k ∧ k ≤ 586)
/-- what an act leaves -/
def pxBR (T : pxTx) (h : jw_H) (r : Int × pxBe) (h' : jw_H) : Prop := pxF pxQB h h' ∧ pxM h' 571 15 = r.1 ∧ ∃ β', pxBS h' T β' ∧ (r.1 = 0 → β' = r.2)
section
variable {T : pxTx} {β : pxBe} {W : pxWk} {Fr : pxFh} {S : pxSto} {rep : Bool}
/-- the new text has changed -/
theorem pxBS.setF {h h' : jw_H} {P : Nat → Nat → Prop} {Fr' : pxFh} (H : pxBS h T (W, Fr, S, rep)) (F : pxF P h h') (hP : ∀ k f, P k f → 572 ≤ k ∧ k ≤ 577) (I : pxIF h' Fr') (n0 : 0 ≤ Fr'.2.2) (n1 : Fr'.2.2 ≤ T.2.2.2 + Fr'.1.length) : pxBS h' T (W, Fr', S, rep) := by
  obtain ⟨a1, a2, a3, a4, a5, a6, a7, ⟨rs, a8⟩, a9, a10, a11, a12⟩ := H
  exact ⟨a1.fr F (fun f z y => by have := hP _ _ y; omega), a2.fr F (fun f z y => by have := hP _ _ y; omega), a3.fr F (fun f z y => by have := hP _ _ y; omega), pxIT.fr a4 F (fun k f _ _ y => by have := hP _ _ y; omega), I, pxIS.fr a6 F (fun k f _ _ y => by have := hP _ _ y; omega), a7.fr F (fun k f z y => by have := hP _ _ y; omega), ⟨rs, a8.fr F (fun k f _ _ y => by have := hP _ _ y; omega)⟩, by rw [F.m (fun y => by have := hP _ _ y; omega)]; exact a9, n0, n1, a12⟩
theorem s_X1_putNew_b2 {ρ cap : Nat} {rs : List (List Int)} (hρ : 577 < ρ) : ∀ (m N : Nat) (h : jw_H) (x : Int) (Fr : pxFh), x + m = rs.length + 1 → 1 ≤ x → m < N → (jw_t h 571).1 = 1 → jw_r h 571 6 = some 572 → pxIF h Fr → pxIR h ρ cap rs → pxM h 571 15 = 0 → 0 ≤ Fr.2.2 → Fr.2.2 ≤ 2000000 + Fr.1.length →
    ∃ h', f_X1_putNew_b2 N h 571 (some ρ) (pxJ x) = some ((), h') ∧ pxF (fun k f => (572 ≤ k ∧ k ≤ 577) ∨ (k = 571 ∧ f = 15)) h h' ∧
      (pxM h' 571 15 = if (pxBPut (rs.drop (x - 1).toNat) Fr).isSome then 0 else 4) ∧ ∃ Fr', pxIF h' Fr' ∧ (∀ z, pxBPut (rs.drop (x - 1).toNat) Fr = some z → Fr' = z) ∧ 0 ≤ Fr'.2.2 ∧ Fr'.2.2 - Fr'.1.length = Fr.2.2 - Fr.1.length := by
  intro m
  induction m with
  | zero =>
    intro N h x Fr hx x1 hN t1 r6 I R m15 n0 n1
    obtain ⟨N, rfl, -⟩ := px_fu hN
    have dr : rs.drop (x - 1).toNat = [] := List.drop_of_length_le (by omega)
    rw [dr]
    refine ⟨h, ?_, pxF.rfl, m15, Fr, I, fun z e => (Option.some.inj e), n0, rfl⟩
    have t7 := R.1.1
    have c2 := R.2.2.2.1
    rw [u_X1_putNew_b2]
    unfold g_X1_putNew_b2
    have cap100 := R.1.2.2.2.2.2
    have rcap := R.2.1
    clear I R
    simp (maxSteps := 4000000) (disch := first | assumption | omega | (simp only [jw_t_I, px_cpt]; done) | (simp only [jw_t_I, px_cpt]; omega)) only [pxL0, pxL1, pxL2, pxL3, pxL4, pxL5, pxL6, pxL7, pxL8, pxL9, pxL10, pxL11, pxL12, pxL13, pxL14, pxL15, pxL16, pxL17, pxL18, pxL19, pxL20, pxL21, pxL22, pxL23, pxL24, pxL25, pxL26, pxL27, pxL28, pxL29, pxL30, pxL31, pxL32, pxL33, pxL34, pxL35, pxL36, pxL37, pxL38, pxL39, pxL40, pxL41, pxL42, pxL43, pxL44, pxL45, pxL46, pxL47, pxL48, pxL49, pxL51, pxL57, pxL58, pxL59, pxL60, pxL61, pxL62, pxL63, pxL64, pxL65, pxL66, pxL67, pxL68, pxL69, pxL70, pxL71, pxL72, pxL73, pxL74, pxL75, pxL76, pxL77, pxL78, pxL79, pxL80, pxL81, pxL82, pxL83, pxL84, pxL85, pxL86, pxL87, pxL88, pxL89, pxL90, pxL91, pxL92, pxL93, pxL94, pxL95, pxL96, pxL97, pxL98, pxL99, pxL100, pxL101, pxL102, pxL103, pxL104, pxL105, pxL106, pxL107, pxL108, pxL109, pxL110, pxL111, pxL112, pxL113, pxL114, pxL115, pxL116, pxL117, pxL118, pxL119, pxL120, pxL121, pxL122, pxL123, pxL124, pxL125, pxL126, pxL200, pxL240, pxL287, pxL388, pxL400, pxL429, pxL431, pxL440, pxL1240, pxL1600, pxL1681, pxL12028, pxL13849, pxL14880, pxL25173, pxL26908, pxL49600, pxL65535, pxL65536, ↓reduceIte, reduceCtorEq, pxJ_add, pxJ_sub, pxJ_mul, pxJ_neg, pxD_lt_t, pxD_lt_f, pxD_le_t, pxD_le_f, pxD_eq_t, pxD_eq_f, pxJ_lt, pxJ_le, pxJ_eq, px_gI, px_gR, px_pI, px_rc, px_ai, px_ar, px_si, px_ln, px_cp, pxJ_div, pxJ_b8, pxJ_byte, px_b2, px_bs, px_rb0, px_rb1, px_min, px_max, px_compare, pxW_some, jw_t_I, px_cpt, jw_r_I, px_cpr, jw_l_I, px_cpl, Option.some.injEq, t7, c2]
  | succ m ih =>
    intro N h x Fr hx x1 hN t1 r6 I R m15 n0 n1
    obtain ⟨N, rfl, hN⟩ := px_fu hN
    have t7 := R.1.1
    have c2 := R.2.2.2.1
    have cap100 := R.1.2.2.2.2.2
    have rcap := R.2.1
    have dr : rs.drop (x - 1).toNat = pxRw rs x :: rs.drop (x + 1 - 1).toNat := by
      have := pxG_dropc (d := ([] : List Int)) (l := rs) (x := x) x1 (by omega)
      rw [this, show x.toNat = (x + 1 - 1).toNat by omega]
    obtain ⟨now, I⟩ := I
    have t9 := I.1.1
    have m4 : pxM h 572 4 = Fr.2.2 := I.2.2.2.2.2
    have nl := pxIT.len I
    obtain ⟨q, h1, e1, F1, eq, I1⟩ := s_X9_append I R (y := x) (id := Fr.2.2) x1 (by omega) (by omega) (by omega)
    have t11 : (jw_t h1 571).1 = 1 := by rw [F1.t]; exact t1
    have r61 : jw_r h1 571 6 = some 572 := by rw [F1.r (by unfold pxC; omega)]; exact r6
    have t91 : (jw_t h1 572).1 = 9 := by rw [F1.t]; exact t9
    rw [dr]
    unfold pxBPut
    by_cases c : Fr.1.length < 40
    · rw [if_pos c] at eq I1
      simp only [if_pos c]
      have m41 : pxM h1 572 4 = Fr.2.2 := I1.2.2.2.2.2
      have I2 : pxIF (jw_setI h1 572 4 (pxJ (Fr.2.2 + 1))) (Fr.1 ++ [(Fr.2.2, pxRw rs x)], Fr.2.1, Fr.2.2 + 1) := ⟨now, pxIT.nxt4 I1 (by omega) (by omega)⟩
      have F2 : pxF (fun k f => 572 ≤ k ∧ k ≤ 577) h (jw_setI h1 572 4 (pxJ (Fr.2.2 + 1))) := (F1.mono (fun k f z => by unfold pxC at z; omega)).trans (pxF.setI (by omega))
      have R2 := R.fr F2 (fun k f _ _ => by omega)
      obtain ⟨h', e', F3, e15, Fr', J1, J2, J3, J4⟩ := ih N (jw_setI h1 572 4 (pxJ (Fr.2.2 + 1))) (x + 1) (Fr.1 ++ [(Fr.2.2, pxRw rs x)], Fr.2.1, Fr.2.2 + 1) (by omega) (by omega) (by omega) (by rw [F2.t]; exact t1) (by rw [F2.r (by omega)]; exact r6) I2 R2 (by rw [F2.m (by omega)]; exact m15) (by dsimp only; omega) (by rw [List.length_append]; simp only [List.length_cons, List.length_nil]; omega)
      refine ⟨h', ?_, (F2.mono (fun k f z => Or.inl z)).trans F3, e15, Fr', J1, J2, J3, by rw [J4, List.length_append]; simp only [List.length_cons, List.length_nil]; omega⟩
      rw [← e', u_X1_putNew_b2]
      unfold g_X1_putNew_b2
      clear ih e' F3 e15 J1 J2 J3 J4 R2 I2 I R I1
      simp (maxSteps := 4000000) (disch := first | assumption | omega | (simp only [jw_t_I, px_cpt]; done) | (simp only [jw_t_I, px_cpt]; omega)) only [pxL0, pxL1, pxL2, pxL3, pxL4, pxL5, pxL6, pxL7, pxL8, pxL9, pxL10, pxL11, pxL12, pxL13, pxL14, pxL15, pxL16, pxL17, pxL18, pxL19, pxL20, pxL21, pxL22, pxL23, pxL24, pxL25, pxL26, pxL27, pxL28, pxL29, pxL30, pxL31, pxL32, pxL33, pxL34, pxL35, pxL36, pxL37, pxL38, pxL39, pxL40, pxL41, pxL42, pxL43, pxL44, pxL45, pxL46, pxL47, pxL48, pxL49, pxL51, pxL57, pxL58, pxL59, pxL60, pxL61, pxL62, pxL63, pxL64, pxL65, pxL66, pxL67, pxL68, pxL69, pxL70, pxL71, pxL72, pxL73, pxL74, pxL75, pxL76, pxL77, pxL78, pxL79, pxL80, pxL81, pxL82, pxL83, pxL84, pxL85, pxL86, pxL87, pxL88, pxL89, pxL90, pxL91, pxL92, pxL93, pxL94, pxL95, pxL96, pxL97, pxL98, pxL99, pxL100, pxL101, pxL102, pxL103, pxL104, pxL105, pxL106, pxL107, pxL108, pxL109, pxL110, pxL111, pxL112, pxL113, pxL114, pxL115, pxL116, pxL117, pxL118, pxL119, pxL120, pxL121, pxL122, pxL123, pxL124, pxL125, pxL126, pxL200, pxL240, pxL287, pxL388, pxL400, pxL429, pxL431, pxL440, pxL1240, pxL1600, pxL1681, pxL12028, pxL13849, pxL14880, pxL25173, pxL26908, pxL49600, pxL65535, pxL65536, ↓reduceIte, reduceCtorEq, pxJ_add, pxJ_sub, pxJ_mul, pxJ_neg, pxD_lt_t, pxD_lt_f, pxD_le_t, pxD_le_f, pxD_eq_t, pxD_eq_f, pxJ_lt, pxJ_le, pxJ_eq, px_gI, px_gR, px_pI, px_rc, px_ai, px_ar, px_si, px_ln, px_cp, pxJ_div, pxJ_b8, pxJ_byte, px_b2, px_bs, px_rb0, px_rb1, px_min, px_max, px_compare, pxW_some, jw_t_I, px_cpt, jw_r_I, px_cpr, jw_l_I, px_cpl, Option.some.injEq, t7, c2, r6, t9, m4, e1, eq, r61, t91, m41]
    · rw [if_neg c] at eq I1
      simp only [if_neg c]
      have F2 : pxF (fun k f => (572 ≤ k ∧ k ≤ 577) ∨ (k = 571 ∧ f = 15)) h (jw_setI h1 571 15 (pxJ 4)) := (F1.mono (fun k f z => by unfold pxC at z; omega)).trans (pxF.setI (by omega))
      refine ⟨jw_setI h1 571 15 (pxJ 4), ?_, F2, pxM_eq (by omega) (by omega), Fr, ⟨now, pxIT.fr I1 (pxF.setI (P := fun k f => k = 571 ∧ f = 15) ⟨rfl, rfl⟩) (fun k f _ _ => by omega)⟩, fun z y => (by cases y), n0, rfl⟩
      rw [u_X1_putNew_b2]
      unfold g_X1_putNew_b2
      clear ih I R I1
      simp (maxSteps := 4000000) (disch := first | assumption | omega | (simp only [jw_t_I, px_cpt]; done) | (simp only [jw_t_I, px_cpt]; omega)) only [pxL0, pxL1, pxL2, pxL3, pxL4, pxL5, pxL6, pxL7, pxL8, pxL9, pxL10, pxL11, pxL12, pxL13, pxL14, pxL15, pxL16, pxL17, pxL18, pxL19, pxL20, pxL21, pxL22, pxL23, pxL24, pxL25, pxL26, pxL27, pxL28, pxL29, pxL30, pxL31, pxL32, pxL33, pxL34, pxL35, pxL36, pxL37, pxL38, pxL39, pxL40, pxL41, pxL42, pxL43, pxL44, pxL45, pxL46, pxL47, pxL48, pxL49, pxL51, pxL57, pxL58, pxL59, pxL60, pxL61, pxL62, pxL63, pxL64, pxL65, pxL66, pxL67, pxL68, pxL69, pxL70, pxL71, pxL72, pxL73, pxL74, pxL75, pxL76, pxL77, pxL78, pxL79, pxL80, pxL81, pxL82, pxL83, pxL84, pxL85, pxL86, pxL87, pxL88, pxL89, pxL90, pxL91, pxL92, pxL93, pxL94, pxL95, pxL96, pxL97, pxL98, pxL99, pxL100, pxL101, pxL102, pxL103, pxL104, pxL105, pxL106, pxL107, pxL108, pxL109, pxL110, pxL111, pxL112, pxL113, pxL114, pxL115, pxL116, pxL117, pxL118, pxL119, pxL120, pxL121, pxL122, pxL123, pxL124, pxL125, pxL126, pxL200, pxL240, pxL287, pxL388, pxL400, pxL429, pxL431, pxL440, pxL1240, pxL1600, pxL1681, pxL12028, pxL13849, pxL14880, pxL25173, pxL26908, pxL49600, pxL65535, pxL65536, ↓reduceIte, reduceCtorEq, pxJ_add, pxJ_sub, pxJ_mul, pxJ_neg, pxD_lt_t, pxD_lt_f, pxD_le_t, pxD_le_f, pxD_eq_t, pxD_eq_f, pxJ_lt, pxJ_le, pxJ_eq, px_gI, px_gR, px_pI, px_rc, px_ai, px_ar, px_si, px_ln, px_cp, pxJ_div, pxJ_b8, pxJ_byte, px_b2, px_bs, px_rb0, px_rb1, px_min, px_max, px_compare, pxW_some, jw_t_I, px_cpt, jw_r_I, px_cpr, jw_l_I, px_cpl, Option.some.injEq, t7, c2, r6, t9, m4, e1, eq, t11]
theorem s_X1_putNew {ρ cap : Nat} {rs : List (List Int)} (hρ : 577 < ρ) {h : jw_H} (H : pxBS h T (W, Fr, S, rep)) (R : pxIR h ρ cap rs) (m15 : pxM h 571 15 = 0) :
    ∃ h', f_X1_putNew h 571 (some ρ) = some ((), h') ∧ pxF (fun k f => (572 ≤ k ∧ k ≤ 577) ∨ (k = 571 ∧ f = 15)) h h' ∧ (pxM h' 571 15 = if (pxBPut rs Fr).isSome then 0 else 4) ∧ ∃ Fr', pxBS h' T (W, Fr', S, rep) ∧ (∀ z, pxBPut rs Fr = some z → Fr' = z) := by
  obtain ⟨a1, a2, a3, a4, a5, a6, a7, a8, a9, a10, a11, a12⟩ := pxBS_i.mp H
  have cap100 := R.1.2.2.2.2.2
  have rcap := R.2.1
  have a11' : Fr.2.2 ≤ T.2.2.2 + Fr.1.length := a11
  obtain ⟨h', e, F, m15', Fr', J1, J2, J3, J4⟩ := s_X1_putNew_b2 hρ rs.length jw_FU h 1 Fr (by omega) (by omega) (by unfold jw_FU; omega) a1.1 a1.2.2.2.2.2.2.2.1 a5 R m15 a10 (by omega)
  rw [show ((1 : Int) - 1).toNat = 0 from rfl, List.drop_zero] at m15' J2
  refine ⟨h', ?_, F, m15', Fr', ?_, J2⟩
  · unfold f_X1_putNew
    rw [show (1 : Int32) = pxJ 1 from rfl]
    exact e
  · obtain ⟨rs8, a8⟩ := a8
    exact ⟨a1.fr F (fun f z => by omega), a2.fr F (fun f z => by omega), a3.fr F (fun f z => by omega), pxIT.fr a4 F (fun k f _ _ => by omega), J1, pxIS.fr a6 F (fun k f _ _ => by omega), a7.fr F (fun k f z => by omega), ⟨rs8, a8.fr F (fun k f _ _ => by omega)⟩, by rw [F.m (by omega)]; exact a9, J3, by dsimp only; omega, a12⟩
theorem pxBR.opt {h h' : jw_H} {o : Option pxFh} {Fr' : pxFh} {β0 : pxBe} (F : pxF pxQB h h') (m15 : pxM h' 571 15 = if o.isSome then 0 else 4) (H : pxBS h' T (W, Fr', S, rep)) (e : ∀ z, o = some z → Fr' = z) : pxBR T h (o.elim (4, β0) (fun z => (0, W, z, S, rep))) h' := by
  refine ⟨F, ?_, (W, Fr', S, rep), H, ?_⟩
  · rw [m15]
    cases o with
    | none => rfl
    | some z => rfl
  · intro z
    cases o with
    | none => exact absurd z (by show ¬ (4 : Int) = 0; omega)
    | some y => rw [e y rfl]; rfl
theorem s_X1_putDue_b2 {ρ cap : Nat} {rs : List (List Int)} (hρ : ρ + 2 < 581 ∨ 583 < ρ) (hρ2 : ρ + 2 < 571 ∨ 571 < ρ) : ∀ (m N : Nat) (h : jw_H) (x : Int) (due : List (List Int)), x + m = rs.length + 1 → 1 ≤ x → m < N → (jw_t h 571).1 = 1 → jw_r h 571 8 = some 581 → pxIR h ρ cap rs → pxIR h 581 41 due →
    ∃ h', f_X1_putDue_b2 N h 571 (some ρ) (pxJ x) = some ((), h') ∧ pxF (pxC 581 583) h h' ∧ pxIR h' 581 41 (pxBDue due (rs.drop (x - 1).toNat)) := by
  intro m
  induction m with
  | zero =>
    intro N h x due hx x1 hN t1 r8 R D
    obtain ⟨N, rfl, -⟩ := px_fu hN
    have dr : rs.drop (x - 1).toNat = [] := List.drop_of_length_le (by omega)
    have t7 := R.1.1
    have c2 := R.2.2.2.1
    rw [dr]
    refine ⟨h, ?_, pxF.rfl, ?_⟩
    · rw [u_X1_putDue_b2]
      unfold g_X1_putDue_b2
      have cap100 := R.1.2.2.2.2.2
      have rcap := R.2.1
      clear R D
      simp (maxSteps := 4000000) (disch := first | assumption | omega | (simp only [jw_t_I, px_cpt]; done) | (simp only [jw_t_I, px_cpt]; omega)) only [pxL0, pxL1, pxL2, pxL3, pxL4, pxL5, pxL6, pxL7, pxL8, pxL9, pxL10, pxL11, pxL12, pxL13, pxL14, pxL15, pxL16, pxL17, pxL18, pxL19, pxL20, pxL21, pxL22, pxL23, pxL24, pxL25, pxL26, pxL27, pxL28, pxL29, pxL30, pxL31, pxL32, pxL33, pxL34, pxL35, pxL36, pxL37, pxL38, pxL39, pxL40, pxL41, pxL42, pxL43, pxL44, pxL45, pxL46, pxL47, pxL48, pxL49, pxL51, pxL57, pxL58, pxL59, pxL60, pxL61, pxL62, pxL63, pxL64, pxL65, pxL66, pxL67, pxL68, pxL69, pxL70, pxL71, pxL72, pxL73, pxL74, pxL75, pxL76, pxL77, pxL78, pxL79, pxL80, pxL81, pxL82, pxL83, pxL84, pxL85, pxL86, pxL87, pxL88, pxL89, pxL90, pxL91, pxL92, pxL93, pxL94, pxL95, pxL96, pxL97, pxL98, pxL99, pxL100, pxL101, pxL102, pxL103, pxL104, pxL105, pxL106, pxL107, pxL108, pxL109, pxL110, pxL111, pxL112, pxL113, pxL114, pxL115, pxL116, pxL117, pxL118, pxL119, pxL120, pxL121, pxL122, pxL123, pxL124, pxL125, pxL126, pxL200, pxL240, pxL287, pxL388, pxL400, pxL429, pxL431, pxL440, pxL1240, pxL1600, pxL1681, pxL12028, pxL13849, pxL14880, pxL25173, pxL26908, pxL49600, pxL65535, pxL65536, ↓reduceIte, reduceCtorEq, pxJ_add, pxJ_sub, pxJ_mul, pxJ_neg, pxD_lt_t, pxD_lt_f, pxD_le_t, pxD_le_f, pxD_eq_t, pxD_eq_f, pxJ_lt, pxJ_le, pxJ_eq, px_gI, px_gR, px_pI, px_rc, px_ai, px_ar, px_si, px_ln, px_cp, pxJ_div, pxJ_b8, pxJ_byte, px_b2, px_bs, px_rb0, px_rb1, px_min, px_max, px_compare, pxW_some, jw_t_I, px_cpt, jw_r_I, px_cpr, jw_l_I, px_cpl, Option.some.injEq, t7, c2]
    · unfold pxBDue
      rw [List.append_nil, List.take_of_length_le D.2.1]
      exact D
  | succ m ih =>
    intro N h x due hx x1 hN t1 r8 R D
    obtain ⟨N, rfl, hN⟩ := px_fu hN
    have t7 := R.1.1
    have c2 := R.2.2.2.1
    have t78 := D.1.1
    have cap100 := R.1.2.2.2.2.2
    have rcap := R.2.1
    have dr : rs.drop (x - 1).toNat = pxRw rs x :: rs.drop (x + 1 - 1).toNat := by
      have := pxG_dropc (d := ([] : List Int)) (l := rs) (x := x) x1 (by omega)
      rw [this, show x.toNat = (x + 1 - 1).toNat by omega]
    obtain ⟨q, h1, e1, F1, eq, D1⟩ := s_X7_addRow D R (y := x) x1 (by omega)
    have F1' : pxF (pxC 581 583) h h1 := F1
    obtain ⟨h', e', F2, D2⟩ := ih N h1 (x + 1) _ (by omega) (by omega) (by omega) (by rw [F1.t]; exact t1) (by rw [F1.r (by unfold pxC; omega)]; exact r8) (R.fr F1 (fun k f _ _ => by unfold pxC; omega)) D1
    refine ⟨h', ?_, F1'.trans F2, ?_⟩
    · rw [← e', u_X1_putDue_b2]
      unfold g_X1_putDue_b2
      clear ih e' F2 D2 D1 R D
      simp (maxSteps := 4000000) (disch := first | assumption | omega | (simp only [jw_t_I, px_cpt]; done) | (simp only [jw_t_I, px_cpt]; omega)) only [pxL0, pxL1, pxL2, pxL3, pxL4, pxL5, pxL6, pxL7, pxL8, pxL9, pxL10, pxL11, pxL12, pxL13, pxL14, pxL15, pxL16, pxL17, pxL18, pxL19, pxL20, pxL21, pxL22, pxL23, pxL24, pxL25, pxL26, pxL27, pxL28, pxL29, pxL30, pxL31, pxL32, pxL33, pxL34, pxL35, pxL36, pxL37, pxL38, pxL39, pxL40, pxL41, pxL42, pxL43, pxL44, pxL45, pxL46, pxL47, pxL48, pxL49, pxL51, pxL57, pxL58, pxL59, pxL60, pxL61, pxL62, pxL63, pxL64, pxL65, pxL66, pxL67, pxL68, pxL69, pxL70, pxL71, pxL72, pxL73, pxL74, pxL75, pxL76, pxL77, pxL78, pxL79, pxL80, pxL81, pxL82, pxL83, pxL84, pxL85, pxL86, pxL87, pxL88, pxL89, pxL90, pxL91, pxL92, pxL93, pxL94, pxL95, pxL96, pxL97, pxL98, pxL99, pxL100, pxL101, pxL102, pxL103, pxL104, pxL105, pxL106, pxL107, pxL108, pxL109, pxL110, pxL111, pxL112, pxL113, pxL114, pxL115, pxL116, pxL117, pxL118, pxL119, pxL120, pxL121, pxL122, pxL123, pxL124, pxL125, pxL126, pxL200, pxL240, pxL287, pxL388, pxL400, pxL429, pxL431, pxL440, pxL1240, pxL1600, pxL1681, pxL12028, pxL13849, pxL14880, pxL25173, pxL26908, pxL49600, pxL65535, pxL65536, ↓reduceIte, reduceCtorEq, pxJ_add, pxJ_sub, pxJ_mul, pxJ_neg, pxD_lt_t, pxD_lt_f, pxD_le_t, pxD_le_f, pxD_eq_t, pxD_eq_f, pxJ_lt, pxJ_le, pxJ_eq, px_gI, px_gR, px_pI, px_rc, px_ai, px_ar, px_si, px_ln, px_cp, pxJ_div, pxJ_b8, pxJ_byte, px_b2, px_bs, px_rb0, px_rb1, px_min, px_max, px_compare, pxW_some, jw_t_I, px_cpt, jw_r_I, px_cpr, jw_l_I, px_cpl, Option.some.injEq, t7, c2, r8, t78, e1]
    · rw [dr]
      have e : pxBDue due (pxRw rs x :: rs.drop (x + 1 - 1).toNat) = pxBDue (if due.length < 41 then due ++ [pxRw rs x] else due) (rs.drop (x + 1 - 1).toNat) := by
        unfold pxBDue
        by_cases c : due.length < 41
        · rw [if_pos c, List.append_assoc]; rfl
        · have l41 : due.length = 41 := by have := D.2.1; omega
          rw [if_neg c, List.take_append_of_le_length (by omega), List.take_append_of_le_length (by omega)]
      rw [e]
      exact D2
end
