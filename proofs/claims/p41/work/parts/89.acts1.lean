/-! orders over the whole: rows brought, lines joined -/
theorem pxSet_set {α : Type} {l : List α} {x : Int} {a b : α} : pxSet (pxSet l x a) x b = pxSet l x b := by unfold pxSet; exact List.set_set _
theorem pxMix_set {α : Type} {d : α} {P Q : List α} (hl : P.length = Q.length) {i : Int} (i1 : 1 ≤ i) (i2 : i ≤ P.length) : pxSet (P.take (i - 1).toNat ++ Q.drop (i - 1).toNat) i (pxG d P i) = P.take i.toNat ++ Q.drop i.toNat := by
  have l1 : (P.take (i - 1).toNat).length = (i - 1).toNat := by rw [List.length_take]; omega
  have l2 : (P.take i.toNat).length = i.toNat := by rw [List.length_take]; omega
  refine pxG_ext (d := d) ?_ (fun y y1 y2 => ?_)
  · rw [pxSet_len, List.length_append, List.length_append, List.length_drop, List.length_drop]; omega
  · rw [pxSet_len, List.length_append, List.length_drop] at y2
    by_cases e : y = i
    · subst e
      rw [pxG_setE y1 (by rw [List.length_append, List.length_drop]; omega), pxG_appL y1 (by omega), pxG_take y1 (by omega)]
    · rw [pxG_setN i1 y1 e]
      by_cases lt : y < i
      · rw [pxG_appL y1 (by omega), pxG_appL y1 (by omega), pxG_take y1 (by omega), pxG_take y1 (by omega)]
      · rw [pxG_appR (by omega), pxG_appR (by omega), l1, l2, pxG_drop (by omega) (by omega), pxG_drop (by omega) (by omega)]
        congr 1
        omega
theorem pxSet_ins {α : Type} {d : α} {l m : List α} {x j : Int} {a : α} (x1 : 1 ≤ x) (x2 : x ≤ l.length + 1) (j1 : 1 ≤ j) (j2 : j ≤ m.length) : pxSet (pxIns l x m) (x + j - 1) a = pxIns l x (pxSet m j a) := by
  refine pxG_ext (d := d) ?_ (fun y y1 y2 => ?_)
  · rw [pxSet_len, pxIns_len, pxIns_len, pxSet_len]
  · rw [pxSet_len, pxIns_len] at y2
    by_cases e : y = x + j - 1
    · subst e
      rw [pxG_setE y1 (by rw [pxIns_len]; omega), pxIns_in (by omega) (by rw [pxSet_len]; omega) x2 x1, show x + j - 1 - x + 1 = j by omega, pxG_setE j1 j2]
    · rw [pxG_setN (by omega) y1 e]
      by_cases c1 : y < x
      · rw [pxIns_lo y1 c1 x2, pxIns_lo y1 c1 x2]
      · by_cases c2 : y < x + m.length
        · rw [pxIns_in (by omega) c2 x2 x1, pxIns_in (by omega) (by rw [pxSet_len]; omega) x2 x1, pxG_setN j1 (by omega) (by omega)]
        · rw [pxIns_hi (by omega) x2 x1, pxIns_hi (by rw [pxSet_len]; omega) x2 x1, pxSet_len]
theorem pxDel_0 {α : Type} {l : List α} {x : Int} (x1 : 1 ≤ x) (x2 : x ≤ l.length + 1) : pxDel l x 0 = l := by
  unfold pxDel; rw [Int.add_zero, List.take_append_drop]
/-- the doer of orders over the whole -/
def pxWF (h : jw_H) : Prop := (jw_t h 559).1 = 10 ∧ jw_r h 559 0 = some 10 ∧ jw_r h 559 1 = some 255 ∧ jw_r h 559 2 = some 261 ∧ jw_r h 559 3 = some 538 ∧ jw_r h 559 4 = some 531 ∧ jw_r h 559 5 = some 536 ∧ jw_r h 559 6 = some 282 ∧ jw_r h 559 7 = some 560 ∧ jw_r h 559 8 = some 563 ∧ jw_r h 559 9 = some 569 ∧ jw_r h 559 10 = some 570 ∧ jw_t h 569 = (20, 40) ∧ jw_t h 570 = (20, 40)
theorem pxWF.fr {P : Nat → Nat → Prop} {h h' : jw_H} (H : pxWF h) (F : pxF P h h') (hP : ∀ f, f < 11 → ¬ P 559 f) : pxWF h' := by
  obtain ⟨a1, a2, a3, a4, a5, a6, a7, a8, a9, a10, a11, a12, a13, a14⟩ := H
  exact ⟨by rw [F.t]; exact a1, by rw [F.r (hP _ (by omega))]; exact a2, by rw [F.r (hP _ (by omega))]; exact a3, by rw [F.r (hP _ (by omega))]; exact a4, by rw [F.r (hP _ (by omega))]; exact a5, by rw [F.r (hP _ (by omega))]; exact a6, by rw [F.r (hP _ (by omega))]; exact a7, by rw [F.r (hP _ (by omega))]; exact a8, by rw [F.r (hP _ (by omega))]; exact a9, by rw [F.r (hP _ (by omega))]; exact a10, by rw [F.r (hP _ (by omega))]; exact a11, by rw [F.r (hP _ (by omega))]; exact a12, by rw [F.t]; exact a13, by rw [F.t]; exact a14⟩
theorem pxWF.f9 {P : Nat → Nat → Prop} {h h' : jw_H} (H : pxWF h) (F : pxF P h h') (hP : ∀ f, ¬ P 559 f) : pxWF h' := H.fr F (fun f _ => hP f)
/-- the range -/
def pxRn (h : jw_H) (f l : Int) : Prop := pxM h 559 12 = f ∧ pxM h 559 13 = l
theorem pxRn.fr {P : Nat → Nat → Prop} {h h' : jw_H} {f l : Int} (H : pxRn h f l) (F : pxF P h h') (hP : ∀ f, ¬ P 559 f) : pxRn h' f l := ⟨by rw [F.m (hP _)]; exact H.1, by rw [F.m (hP _)]; exact H.2⟩
def pxIX (h : jw_H) (T : pxTx) : Prop := pxIT h 255 T.1 T.2.1 T.2.2.1 T.2.2.2
section
variable {h : jw_H} {ls : pxLs} {mk : Int → Int} {now nx : Int}
theorem s_X9_cut0 (H : pxIT h 255 ls mk now nx) {x : Int} (x0 : 0 ≤ x) (x1 : x ≤ ls.length + 1) : pxW (f_X9_cut h 255 (pxJ x) (pxJ 0)) fun _ h' => pxF (pxC 255 260) h h' ∧ pxIT h' 255 ls mk now nx := by
  by_cases c : x = 0
  · have hl := H.len
    have c2 := H.c2
    have H' := H
    obtain ⟨⟨t0, r0, r1, r2, t4, t5⟩, R, ci, cm, n3, n4⟩ := H
    have q0 := R.1.1
    subst c
    unfold f_X9_cut
    simp (maxSteps := 4000000) (disch := first | assumption | omega | (simp only [jw_t_I, px_cpt, t4]; done) | (simp only [jw_t_I, px_cpt, t4]; omega)) only [pxL0, pxL1, pxL2, pxL3, pxL4, pxL5, pxL6, pxL7, pxL8, pxL9, pxL10, pxL11, pxL12, pxL13, pxL14, pxL15, pxL16, pxL17, pxL18, pxL19, pxL20, pxL21, pxL22, pxL23, pxL24, pxL25, pxL26, pxL27, pxL28, pxL29, pxL30, pxL31, pxL32, pxL33, pxL34, pxL35, pxL36, pxL37, pxL38, pxL39, pxL40, pxL41, pxL42, pxL43, pxL44, pxL45, pxL46, pxL47, pxL48, pxL49, pxL51, pxL57, pxL58, pxL59, pxL60, pxL61, pxL62, pxL63, pxL64, pxL65, pxL66, pxL67, pxL68, pxL69, pxL70, pxL71, pxL72, pxL73, pxL74, pxL75, pxL76, pxL77, pxL78, pxL79, pxL80, pxL81, pxL82, pxL83, pxL84, pxL85, pxL86, pxL87, pxL88, pxL89, pxL90, pxL91, pxL92, pxL93, pxL94, pxL95, pxL96, pxL97, pxL98, pxL99, pxL100, pxL101, pxL102, pxL103, pxL104, pxL105, pxL106, pxL107, pxL108, pxL109, pxL110, pxL111, pxL112, pxL113, pxL114, pxL115, pxL116, pxL117, pxL118, pxL119, pxL120, pxL121, pxL122, pxL123, pxL124, pxL125, pxL126, pxL200, pxL240, pxL287, pxL388, pxL400, pxL429, pxL431, pxL440, pxL1240, pxL1600, pxL1681, pxL12028, pxL13849, pxL14880, pxL25173, pxL26908, pxL49600, pxL65535, pxL65536, ↓reduceIte, reduceCtorEq, pxJ_add, pxJ_sub, pxJ_mul, pxJ_neg, pxD_lt_t, pxD_lt_f, pxD_le_t, pxD_le_f, pxD_eq_t, pxD_eq_f, pxJ_lt, pxJ_le, pxJ_eq, px_gI, px_gR, px_pI, px_rc, px_ai, px_ar, px_si, px_ln, px_cp, pxJ_div, pxJ_b8, pxJ_byte, px_b2, px_bs, px_rb0, px_rb1, px_min, px_max, px_compare, pxW_some, jw_t_I, px_cpt, jw_r_I, px_cpr, jw_l_I, px_cpl, Option.some.injEq, t4, r0, r1, c2]
    exact ⟨pxF.rfl, H'⟩
  · refine (s_X9_cut H (x := x) (n := 0) (by omega) (by omega) (by omega)).mono fun _ h' q => ⟨q.1, ?_⟩
    have q2 := q.2
    rw [pxDel_0 (by omega) x1] at q2
    exact q2
theorem s_X10_bring_b119 {ρ cap : Nat} {rows : List (List Int)} {x : Int} (hd : ρ + 2 < 255 ∨ 260 < ρ) (hd2 : ρ ≠ 559) (x1 : 1 ≤ x) (x2 : x ≤ ls.length + 1) (hs : ls.length + rows.length ≤ 40) : ∀ (m N : Nat) (h : jw_H) (i : Int), i + m = rows.length + 1 → m < N → 1 ≤ i → pxWF h → pxIT h 255 (pxIns ls x ((pxNewR nx rows).take (i - 1).toNat ++ (pxNew nx rows.length).drop (i - 1).toNat)) mk now (nx + rows.length) → pxIR h ρ cap rows →
    pxW (f_X10_bring_b119 N h 559 (some ρ) (pxJ x) (pxJ i)) fun q h' => pxF (pxC 255 260) h h' ∧ q = pxJ 0 ∧ pxIT h' 255 (pxIns ls x (pxNewR nx rows)) mk (x + rows.length - 1) (nx + rows.length) := by
  intro m
  induction m with
  | zero =>
    intro N h i em hN i1 W H R
    obtain ⟨N, rfl, hN⟩ := px_fu hN
    have w0 := W.1
    have w1 := W.2.2.1
    have t9 := H.1.1
    have q7 := R.1.1
    have qc := R.2.2.2.1
    have e : (pxNewR nx rows).take (i - 1).toNat ++ (pxNew nx rows.length).drop (i - 1).toNat = pxNewR nx rows := by
      rw [List.take_of_length_le (by rw [pxNewR_len]; omega), List.drop_of_length_le (by rw [pxNew_len]; omega), List.append_nil]
    rw [e] at H
    have H2 := H.now3 (v := x + rows.length - 1) (by omega) (by omega)
    have F : pxF (pxC 255 260) h (jw_setI h 255 3 (pxJ (x + rows.length - 1))) := pxF.setI (by unfold pxC; omega)
    rw [u_X10_bring_b119]
    unfold g_X10_bring_b119
    simp (maxSteps := 4000000) (disch := first | assumption | omega | (simp only [jw_t_I, px_cpt]; done) | (simp only [jw_t_I, px_cpt]; omega)) only [pxL0, pxL1, pxL2, pxL3, pxL4, pxL5, pxL6, pxL7, pxL8, pxL9, pxL10, pxL11, pxL12, pxL13, pxL14, pxL15, pxL16, pxL17, pxL18, pxL19, pxL20, pxL21, pxL22, pxL23, pxL24, pxL25, pxL26, pxL27, pxL28, pxL29, pxL30, pxL31, pxL32, pxL33, pxL34, pxL35, pxL36, pxL37, pxL38, pxL39, pxL40, pxL41, pxL42, pxL43, pxL44, pxL45, pxL46, pxL47, pxL48, pxL49, pxL51, pxL57, pxL58, pxL59, pxL60, pxL61, pxL62, pxL63, pxL64, pxL65, pxL66, pxL67, pxL68, pxL69, pxL70, pxL71, pxL72, pxL73, pxL74, pxL75, pxL76, pxL77, pxL78, pxL79, pxL80, pxL81, pxL82, pxL83, pxL84, pxL85, pxL86, pxL87, pxL88, pxL89, pxL90, pxL91, pxL92, pxL93, pxL94, pxL95, pxL96, pxL97, pxL98, pxL99, pxL100, pxL101, pxL102, pxL103, pxL104, pxL105, pxL106, pxL107, pxL108, pxL109, pxL110, pxL111, pxL112, pxL113, pxL114, pxL115, pxL116, pxL117, pxL118, pxL119, pxL120, pxL121, pxL122, pxL123, pxL124, pxL125, pxL126, pxL200, pxL240, pxL287, pxL388, pxL400, pxL429, pxL431, pxL440, pxL1240, pxL1600, pxL1681, pxL12028, pxL13849, pxL14880, pxL25173, pxL26908, pxL49600, pxL65535, pxL65536, ↓reduceIte, reduceCtorEq, pxJ_add, pxJ_sub, pxJ_mul, pxJ_neg, pxD_lt_t, pxD_lt_f, pxD_le_t, pxD_le_f, pxD_eq_t, pxD_eq_f, pxJ_lt, pxJ_le, pxJ_eq, px_gI, px_gR, px_pI, px_rc, px_ai, px_ar, px_si, px_ln, px_cp, pxJ_div, pxJ_b8, pxJ_byte, px_b2, px_bs, px_rb0, px_rb1, px_min, px_max, px_compare, pxW_some, jw_t_I, px_cpt, jw_r_I, px_cpr, jw_l_I, px_cpl, Option.some.injEq, w0, w1, t9, q7, qc]
    exact ⟨F, trivial, H2⟩
  | succ m ih =>
    intro N h i em hN i1 W H R
    obtain ⟨N, rfl, hN⟩ := px_fu hN
    have w0 := W.1
    have w1 := W.2.2.1
    have t9 := H.1.1
    have r0 := H.1.2.1
    have t7 := H.2.1.1.1
    have q7 := R.1.1
    have qc := R.2.2.2.1
    have PL : (pxNewR nx rows).length = rows.length := pxNewR_len _ _
    have QL : (pxNew nx rows.length).length = rows.length := by rw [pxNew_len]; omega
    generalize hM : (pxNewR nx rows).take (i - 1).toNat ++ (pxNew nx rows.length).drop (i - 1).toNat = M at H
    have ML : M.length = rows.length := by rw [← hM, List.length_append, List.length_take, List.length_drop]; omega
    have cl : ((pxIns ls x M).length : Int) = ls.length + rows.length := by rw [pxIns_len, ML]; omega
    have K := s_X7_take H.2.1 R (x := x + i - 1) (y := i) (by omega) (by omega) i1 (by omega)
    rw [if_pos (by rw [pxRs_len, cl]; omega)] at K
    rw [u_X10_bring_b119]
    unfold g_X10_bring_b119
    simp (maxSteps := 4000000) (disch := first | assumption | omega | (simp only [jw_t_I, px_cpt]; done) | (simp only [jw_t_I, px_cpt]; omega)) only [pxL0, pxL1, pxL2, pxL3, pxL4, pxL5, pxL6, pxL7, pxL8, pxL9, pxL10, pxL11, pxL12, pxL13, pxL14, pxL15, pxL16, pxL17, pxL18, pxL19, pxL20, pxL21, pxL22, pxL23, pxL24, pxL25, pxL26, pxL27, pxL28, pxL29, pxL30, pxL31, pxL32, pxL33, pxL34, pxL35, pxL36, pxL37, pxL38, pxL39, pxL40, pxL41, pxL42, pxL43, pxL44, pxL45, pxL46, pxL47, pxL48, pxL49, pxL51, pxL57, pxL58, pxL59, pxL60, pxL61, pxL62, pxL63, pxL64, pxL65, pxL66, pxL67, pxL68, pxL69, pxL70, pxL71, pxL72, pxL73, pxL74, pxL75, pxL76, pxL77, pxL78, pxL79, pxL80, pxL81, pxL82, pxL83, pxL84, pxL85, pxL86, pxL87, pxL88, pxL89, pxL90, pxL91, pxL92, pxL93, pxL94, pxL95, pxL96, pxL97, pxL98, pxL99, pxL100, pxL101, pxL102, pxL103, pxL104, pxL105, pxL106, pxL107, pxL108, pxL109, pxL110, pxL111, pxL112, pxL113, pxL114, pxL115, pxL116, pxL117, pxL118, pxL119, pxL120, pxL121, pxL122, pxL123, pxL124, pxL125, pxL126, pxL200, pxL240, pxL287, pxL388, pxL400, pxL429, pxL431, pxL440, pxL1240, pxL1600, pxL1681, pxL12028, pxL13849, pxL14880, pxL25173, pxL26908, pxL49600, pxL65535, pxL65536, ↓reduceIte, reduceCtorEq, pxJ_add, pxJ_sub, pxJ_mul, pxJ_neg, pxD_lt_t, pxD_lt_f, pxD_le_t, pxD_le_f, pxD_eq_t, pxD_eq_f, pxJ_lt, pxJ_le, pxJ_eq, px_gI, px_gR, px_pI, px_rc, px_ai, px_ar, px_si, px_ln, px_cp, pxJ_div, pxJ_b8, pxJ_byte, px_b2, px_bs, px_rb0, px_rb1, px_min, px_max, px_compare, pxW_some, jw_t_I, px_cpt, jw_r_I, px_cpr, jw_l_I, px_cpl, Option.some.injEq, w0, w1, t9, q7, qc, r0, t7]
    refine pxW_b2 K fun _ h1 k => ?_
    have k1 : pxF (pxC 256 258) h h1 := k.1
    have H1 := H.row1 k1 (x := x + i - 1) (by omega) (by omega) k.2
    have eid : pxId (pxIns ls x M) (x + i - 1) = nx + i - 1 := by
      unfold pxId pxAt
      rw [pxIns_in (by omega) (by omega) x2 x1, show x + i - 1 - x + 1 = i by omega, ← hM, pxG_appR (by rw [List.length_take]; omega), List.length_take, pxG_drop (by omega) (by omega)]
      have := pxNew_at (nx := nx) (n := rows.length) (x := i) i1 (by omega)
      unfold pxAt at this
      rw [show i - ((min (i - 1).toNat (pxNewR nx rows).length : Nat) : Int) + (i - 1) = i by omega, this]
    have ea : (nx + i - 1, pxRw rows i) = pxG (0, []) (pxNewR nx rows) i := (pxNewR_at rows nx i i1 (by omega)).symm
    rw [eid, ea, pxSet_ins (d := (0, [])) x1 x2 i1 (by omega), ← hM, pxMix_set (by omega) i1 (by omega)] at H1
    rw [show i.toNat = (i + 1 - 1).toNat by omega] at H1
    refine (ih N h1 (i + 1) (by omega) (by omega) (by omega) (W.f9 k1 (fun f => by unfold pxC; omega)) H1 (R.fr k1 (fun k f _ _ => by unfold pxC; omega))).mono fun _ h' q => ⟨(k1.mono (fun k f z => by unfold pxC at *; omega)).trans q.1, q.2⟩
/-- rows become new lines -/
theorem s_X10_bring {ρ cap : Nat} {rows : List (List Int)} {act f l : Int} {goes : Bool} (hd : ρ + 2 < 255 ∨ 260 < ρ) (hd2 : ρ ≠ 559) (W : pxWF h) (Rn : pxRn h f l) (H : pxIT h 255 ls mk now nx) (R : pxIR h ρ cap rows) (hg : goes = true ↔ act = 99 ∨ act = 101) (a0 : 0 ≤ act) (a1 : act ≤ 1000) (f0 : 0 ≤ f) (f1 : f ≤ ls.length + 1) (l0 : 0 ≤ l) (l1 : l ≤ ls.length) (pg : goes = true → 1 ≤ f ∧ f ≤ l) (pi : act = 105 → 1 ≤ f) (n0 : 0 ≤ nx) (n1 : nx ≤ 2000000) :
    pxW (f_X10_bring h 559 (pxJ act) (some ρ)) fun q h' => pxF (pxC 255 260) h h' ∧ q = pxJ (pxSpBring goes (if goes = true ∨ act = 105 then f else l + 1) f l rows (ls, mk, now, nx)).1 ∧ pxIX h' (pxSpBring goes (if goes = true ∨ act = 105 then f else l + 1) f l rows (ls, mk, now, nx)).2 := by
  have hl := H.len
  have c2 := H.c2
  have rl := R.2.1
  have cap100 := R.1.2.2.2.2.2
  have w0 := W.1
  have w1 := W.2.2.1
  have t9 := H.1.1
  have r0 := H.1.2.1
  have t7 := H.2.1.1.1
  have q7 := R.1.1
  have qc := R.2.2.2.1
  obtain ⟨rf, rl'⟩ := Rn
  generalize hx : (if goes = true ∨ act = 105 then f else l + 1) = x
  generalize hn : (if goes = true then l - f + 1 else 0) = gone
  have g0 : 0 ≤ gone ∧ gone ≤ ls.length := by
    rw [← hn]
    by_cases z : goes = true
    · rw [if_pos z]; have := pg z; omega
    · rw [if_neg z]; omega
  have st : f_X10_bring h 559 (pxJ act) (some ρ) = if 40 < (ls.length : Int) - gone + rows.length then some (pxJ 4, h) else g_X10_bring_b87 h 559 (some ρ) (pxJ gone) (pxJ x) := by
    unfold f_X10_bring g_X10_bring_b12 g_X10_bring_b17 g_X10_bring_b37 g_X10_bring_b74
    by_cases z : goes = true
    · have z' := hg.mp z
      rw [if_pos z] at hn
      rw [if_pos (Or.inl z)] at hx
      subst hx
      have eg : l - f + 1 = gone := hn
      by_cases big : 40 < (ls.length : Int) - gone + rows.length
      · rw [if_pos big]
        rcases z' with z' | z'
        · simp (maxSteps := 4000000) (disch := first | assumption | omega | (simp only [jw_t_I, px_cpt]; done) | (simp only [jw_t_I, px_cpt]; omega)) only [pxL0, pxL1, pxL2, pxL3, pxL4, pxL5, pxL6, pxL7, pxL8, pxL9, pxL10, pxL11, pxL12, pxL13, pxL14, pxL15, pxL16, pxL17, pxL18, pxL19, pxL20, pxL21, pxL22, pxL23, pxL24, pxL25, pxL26, pxL27, pxL28, pxL29, pxL30, pxL31, pxL32, pxL33, pxL34, pxL35, pxL36, pxL37, pxL38, pxL39, pxL40, pxL41, pxL42, pxL43, pxL44, pxL45, pxL46, pxL47, pxL48, pxL49, pxL51, pxL57, pxL58, pxL59, pxL60, pxL61, pxL62, pxL63, pxL64, pxL65, pxL66, pxL67, pxL68, pxL69, pxL70, pxL71, pxL72, pxL73, pxL74, pxL75, pxL76, pxL77, pxL78, pxL79, pxL80, pxL81, pxL82, pxL83, pxL84, pxL85, pxL86, pxL87, pxL88, pxL89, pxL90, pxL91, pxL92, pxL93, pxL94, pxL95, pxL96, pxL97, pxL98, pxL99, pxL100, pxL101, pxL102, pxL103, pxL104, pxL105, pxL106, pxL107, pxL108, pxL109, pxL110, pxL111, pxL112, pxL113, pxL114, pxL115, pxL116, pxL117, pxL118, pxL119, pxL120, pxL121, pxL122, pxL123, pxL124, pxL125, pxL126, pxL200, pxL240, pxL287, pxL388, pxL400, pxL429, pxL431, pxL440, pxL1240, pxL1600, pxL1681, pxL12028, pxL13849, pxL14880, pxL25173, pxL26908, pxL49600, pxL65535, pxL65536, ↓reduceIte, reduceCtorEq, pxJ_add, pxJ_sub, pxJ_mul, pxJ_neg, pxD_lt_t, pxD_lt_f, pxD_le_t, pxD_le_f, pxD_eq_t, pxD_eq_f, pxJ_lt, pxJ_le, pxJ_eq, px_gI, px_gR, px_pI, px_rc, px_ai, px_ar, px_si, px_ln, px_cp, pxJ_div, pxJ_b8, pxJ_byte, px_b2, px_bs, px_rb0, px_rb1, px_min, px_max, px_compare, pxW_some, jw_t_I, px_cpt, jw_r_I, px_cpr, jw_l_I, px_cpl, Option.some.injEq, z', rf, rl', w0, w1, t9, r0, t7, c2, q7, qc, eg]
        · simp (maxSteps := 4000000) (disch := first | assumption | omega | (simp only [jw_t_I, px_cpt]; done) | (simp only [jw_t_I, px_cpt]; omega)) only [pxL0, pxL1, pxL2, pxL3, pxL4, pxL5, pxL6, pxL7, pxL8, pxL9, pxL10, pxL11, pxL12, pxL13, pxL14, pxL15, pxL16, pxL17, pxL18, pxL19, pxL20, pxL21, pxL22, pxL23, pxL24, pxL25, pxL26, pxL27, pxL28, pxL29, pxL30, pxL31, pxL32, pxL33, pxL34, pxL35, pxL36, pxL37, pxL38, pxL39, pxL40, pxL41, pxL42, pxL43, pxL44, pxL45, pxL46, pxL47, pxL48, pxL49, pxL51, pxL57, pxL58, pxL59, pxL60, pxL61, pxL62, pxL63, pxL64, pxL65, pxL66, pxL67, pxL68, pxL69, pxL70, pxL71, pxL72, pxL73, pxL74, pxL75, pxL76, pxL77, pxL78, pxL79, pxL80, pxL81, pxL82, pxL83, pxL84, pxL85, pxL86, pxL87, pxL88, pxL89, pxL90, pxL91, pxL92, pxL93, pxL94, pxL95, pxL96, pxL97, pxL98, pxL99, pxL100, pxL101, pxL102, pxL103, pxL104, pxL105, pxL106, pxL107, pxL108, pxL109, pxL110, pxL111, pxL112, pxL113, pxL114, pxL115, pxL116, pxL117, pxL118, pxL119, pxL120, pxL121, pxL122, pxL123, pxL124, pxL125, pxL126, pxL200, pxL240, pxL287, pxL388, pxL400, pxL429, pxL431, pxL440, pxL1240, pxL1600, pxL1681, pxL12028, pxL13849, pxL14880, pxL25173, pxL26908, pxL49600, pxL65535, pxL65536, ↓reduceIte, reduceCtorEq, pxJ_add, pxJ_sub, pxJ_mul, pxJ_neg, pxD_lt_t, pxD_lt_f, pxD_le_t, pxD_le_f, pxD_eq_t, pxD_eq_f, pxJ_lt, pxJ_le, pxJ_eq, px_gI, px_gR, px_pI, px_rc, px_ai, px_ar, px_si, px_ln, px_cp, pxJ_div, pxJ_b8, pxJ_byte, px_b2, px_bs, px_rb0, px_rb1, px_min, px_max, px_compare, pxW_some, jw_t_I, px_cpt, jw_r_I, px_cpr, jw_l_I, px_cpl, Option.some.injEq, z', rf, rl', w0, w1, t9, r0, t7, c2, q7, qc, eg]
      · rw [if_neg big]
        rcases z' with z' | z'
        · simp (maxSteps := 4000000) (disch := first | assumption | omega | (simp only [jw_t_I, px_cpt]; done) | (simp only [jw_t_I, px_cpt]; omega)) only [pxL0, pxL1, pxL2, pxL3, pxL4, pxL5, pxL6, pxL7, pxL8, pxL9, pxL10, pxL11, pxL12, pxL13, pxL14, pxL15, pxL16, pxL17, pxL18, pxL19, pxL20, pxL21, pxL22, pxL23, pxL24, pxL25, pxL26, pxL27, pxL28, pxL29, pxL30, pxL31, pxL32, pxL33, pxL34, pxL35, pxL36, pxL37, pxL38, pxL39, pxL40, pxL41, pxL42, pxL43, pxL44, pxL45, pxL46, pxL47, pxL48, pxL49, pxL51, pxL57, pxL58, pxL59, pxL60, pxL61, pxL62, pxL63, pxL64, pxL65, pxL66, pxL67, pxL68, pxL69, pxL70, pxL71, pxL72, pxL73, pxL74, pxL75, pxL76, pxL77, pxL78, pxL79, pxL80, pxL81, pxL82, pxL83, pxL84, pxL85, pxL86, pxL87, pxL88, pxL89, pxL90, pxL91, pxL92, pxL93, pxL94, pxL95, pxL96, pxL97, pxL98, pxL99, pxL100, pxL101, pxL102, pxL103, pxL104, pxL105, pxL106, pxL107, pxL108, pxL109, pxL110, pxL111, pxL112, pxL113, pxL114, pxL115, pxL116, pxL117, pxL118, pxL119, pxL120, pxL121, pxL122, pxL123, pxL124, pxL125, pxL126, pxL200, pxL240, pxL287, pxL388, pxL400, pxL429, pxL431, pxL440, pxL1240, pxL1600, pxL1681, pxL12028, pxL13849, pxL14880, pxL25173, pxL26908, pxL49600, pxL65535, pxL65536, ↓reduceIte, reduceCtorEq, pxJ_add, pxJ_sub, pxJ_mul, pxJ_neg, pxD_lt_t, pxD_lt_f, pxD_le_t, pxD_le_f, pxD_eq_t, pxD_eq_f, pxJ_lt, pxJ_le, pxJ_eq, px_gI, px_gR, px_pI, px_rc, px_ai, px_ar, px_si, px_ln, px_cp, pxJ_div, pxJ_b8, pxJ_byte, px_b2, px_bs, px_rb0, px_rb1, px_min, px_max, px_compare, pxW_some, jw_t_I, px_cpt, jw_r_I, px_cpr, jw_l_I, px_cpl, Option.some.injEq, z', rf, rl', w0, w1, t9, r0, t7, c2, q7, qc, eg]
        · simp (maxSteps := 4000000) (disch := first | assumption | omega | (simp only [jw_t_I, px_cpt]; done) | (simp only [jw_t_I, px_cpt]; omega)) only [pxL0, pxL1, pxL2, pxL3, pxL4, pxL5, pxL6, pxL7, pxL8, pxL9, pxL10, pxL11, pxL12, pxL13, pxL14, pxL15, pxL16, pxL17, pxL18, pxL19, pxL20, pxL21, pxL22, pxL23, pxL24, pxL25, pxL26, pxL27, pxL28, pxL29, pxL30, pxL31, pxL32, pxL33, pxL34, pxL35, pxL36, pxL37, pxL38, pxL39, pxL40, pxL41, pxL42, pxL43, pxL44, pxL45, pxL46, pxL47, pxL48, pxL49, pxL51, pxL57, pxL58, pxL59, pxL60, pxL61, pxL62, pxL63, pxL64, pxL65, pxL66, pxL67, pxL68, pxL69, pxL70, pxL71, pxL72, pxL73, pxL74, pxL75, pxL76, pxL77, pxL78, pxL79, pxL80, pxL81, pxL82, pxL83, pxL84, pxL85, pxL86, pxL87, pxL88, pxL89, pxL90, pxL91, pxL92, pxL93, pxL94, pxL95, pxL96, pxL97, pxL98, pxL99, pxL100, pxL101, pxL102, pxL103, pxL104, pxL105, pxL106, pxL107, pxL108, pxL109, pxL110, pxL111, pxL112, pxL113, pxL114, pxL115, pxL116, pxL117, pxL118, pxL119, pxL120, pxL121, pxL122, pxL123, pxL124, pxL125, pxL126, pxL200, pxL240, pxL287, pxL388, pxL400, pxL429, pxL431, pxL440, pxL1240, pxL1600, pxL1681, pxL12028, pxL13849, pxL14880, pxL25173, pxL26908, pxL49600, pxL65535, pxL65536, ↓reduceIte, reduceCtorEq, pxJ_add, pxJ_sub, pxJ_mul, pxJ_neg, pxD_lt_t, pxD_lt_f, pxD_le_t, pxD_le_f, pxD_eq_t, pxD_eq_f, pxJ_lt, pxJ_le, pxJ_eq, px_gI, px_gR, px_pI, px_rc, px_ai, px_ar, px_si, px_ln, px_cp, pxJ_div, pxJ_b8, pxJ_byte, px_b2, px_bs, px_rb0, px_rb1, px_min, px_max, px_compare, pxW_some, jw_t_I, px_cpt, jw_r_I, px_cpr, jw_l_I, px_cpl, Option.some.injEq, z', rf, rl', w0, w1, t9, r0, t7, c2, q7, qc, eg]
    · have z1 : ¬ act = 99 := fun y => z (hg.mpr (Or.inl y))
      have z2 : ¬ act = 101 := fun y => z (hg.mpr (Or.inr y))
      rw [if_neg z] at hn
      subst hn
      by_cases big : 40 < (ls.length : Int) - 0 + rows.length
      · rw [if_pos big]
        simp (maxSteps := 4000000) (disch := first | assumption | omega | (simp only [jw_t_I, px_cpt]; done) | (simp only [jw_t_I, px_cpt]; omega)) only [pxL0, pxL1, pxL2, pxL3, pxL4, pxL5, pxL6, pxL7, pxL8, pxL9, pxL10, pxL11, pxL12, pxL13, pxL14, pxL15, pxL16, pxL17, pxL18, pxL19, pxL20, pxL21, pxL22, pxL23, pxL24, pxL25, pxL26, pxL27, pxL28, pxL29, pxL30, pxL31, pxL32, pxL33, pxL34, pxL35, pxL36, pxL37, pxL38, pxL39, pxL40, pxL41, pxL42, pxL43, pxL44, pxL45, pxL46, pxL47, pxL48, pxL49, pxL51, pxL57, pxL58, pxL59, pxL60, pxL61, pxL62, pxL63, pxL64, pxL65, pxL66, pxL67, pxL68, pxL69, pxL70, pxL71, pxL72, pxL73, pxL74, pxL75, pxL76, pxL77, pxL78, pxL79, pxL80, pxL81, pxL82, pxL83, pxL84, pxL85, pxL86, pxL87, pxL88, pxL89, pxL90, pxL91, pxL92, pxL93, pxL94, pxL95, pxL96, pxL97, pxL98, pxL99, pxL100, pxL101, pxL102, pxL103, pxL104, pxL105, pxL106, pxL107, pxL108, pxL109, pxL110, pxL111, pxL112, pxL113, pxL114, pxL115, pxL116, pxL117, pxL118, pxL119, pxL120, pxL121, pxL122, pxL123, pxL124, pxL125, pxL126, pxL200, pxL240, pxL287, pxL388, pxL400, pxL429, pxL431, pxL440, pxL1240, pxL1600, pxL1681, pxL12028, pxL13849, pxL14880, pxL25173, pxL26908, pxL49600, pxL65535, pxL65536, ↓reduceIte, reduceCtorEq, pxJ_add, pxJ_sub, pxJ_mul, pxJ_neg, pxD_lt_t, pxD_lt_f, pxD_le_t, pxD_le_f, pxD_eq_t, pxD_eq_f, pxJ_lt, pxJ_le, pxJ_eq, px_gI, px_gR, px_pI, px_rc, px_ai, px_ar, px_si, px_ln, px_cp, pxJ_div, pxJ_b8, pxJ_byte, px_b2, px_bs, px_rb0, px_rb1, px_min, px_max, px_compare, pxW_some, jw_t_I, px_cpt, jw_r_I, px_cpr, jw_l_I, px_cpl, Option.some.injEq, rf, rl', w0, w1, t9, r0, t7, c2, q7, qc]
      · rw [if_neg big]
        by_cases i105 : act = 105
        · rw [if_pos (Or.inr i105)] at hx
          simp (maxSteps := 4000000) (disch := first | assumption | omega | (simp only [jw_t_I, px_cpt]; done) | (simp only [jw_t_I, px_cpt]; omega)) only [pxL0, pxL1, pxL2, pxL3, pxL4, pxL5, pxL6, pxL7, pxL8, pxL9, pxL10, pxL11, pxL12, pxL13, pxL14, pxL15, pxL16, pxL17, pxL18, pxL19, pxL20, pxL21, pxL22, pxL23, pxL24, pxL25, pxL26, pxL27, pxL28, pxL29, pxL30, pxL31, pxL32, pxL33, pxL34, pxL35, pxL36, pxL37, pxL38, pxL39, pxL40, pxL41, pxL42, pxL43, pxL44, pxL45, pxL46, pxL47, pxL48, pxL49, pxL51, pxL57, pxL58, pxL59, pxL60, pxL61, pxL62, pxL63, pxL64, pxL65, pxL66, pxL67, pxL68, pxL69, pxL70, pxL71, pxL72, pxL73, pxL74, pxL75, pxL76, pxL77, pxL78, pxL79, pxL80, pxL81, pxL82, pxL83, pxL84, pxL85, pxL86, pxL87, pxL88, pxL89, pxL90, pxL91, pxL92, pxL93, pxL94, pxL95, pxL96, pxL97, pxL98, pxL99, pxL100, pxL101, pxL102, pxL103, pxL104, pxL105, pxL106, pxL107, pxL108, pxL109, pxL110, pxL111, pxL112, pxL113, pxL114, pxL115, pxL116, pxL117, pxL118, pxL119, pxL120, pxL121, pxL122, pxL123, pxL124, pxL125, pxL126, pxL200, pxL240, pxL287, pxL388, pxL400, pxL429, pxL431, pxL440, pxL1240, pxL1600, pxL1681, pxL12028, pxL13849, pxL14880, pxL25173, pxL26908, pxL49600, pxL65535, pxL65536, ↓reduceIte, reduceCtorEq, pxJ_add, pxJ_sub, pxJ_mul, pxJ_neg, pxD_lt_t, pxD_lt_f, pxD_le_t, pxD_le_f, pxD_eq_t, pxD_eq_f, pxJ_lt, pxJ_le, pxJ_eq, px_gI, px_gR, px_pI, px_rc, px_ai, px_ar, px_si, px_ln, px_cp, pxJ_div, pxJ_b8, pxJ_byte, px_b2, px_bs, px_rb0, px_rb1, px_min, px_max, px_compare, pxW_some, jw_t_I, px_cpt, jw_r_I, px_cpr, jw_l_I, px_cpl, Option.some.injEq, i105, rf, rl', w0, w1, t9, r0, t7, c2, q7, qc, hx]
        · rw [if_neg (fun y => y.elim z i105)] at hx
          simp (maxSteps := 4000000) (disch := first | assumption | omega | (simp only [jw_t_I, px_cpt]; done) | (simp only [jw_t_I, px_cpt]; omega)) only [pxL0, pxL1, pxL2, pxL3, pxL4, pxL5, pxL6, pxL7, pxL8, pxL9, pxL10, pxL11, pxL12, pxL13, pxL14, pxL15, pxL16, pxL17, pxL18, pxL19, pxL20, pxL21, pxL22, pxL23, pxL24, pxL25, pxL26, pxL27, pxL28, pxL29, pxL30, pxL31, pxL32, pxL33, pxL34, pxL35, pxL36, pxL37, pxL38, pxL39, pxL40, pxL41, pxL42, pxL43, pxL44, pxL45, pxL46, pxL47, pxL48, pxL49, pxL51, pxL57, pxL58, pxL59, pxL60, pxL61, pxL62, pxL63, pxL64, pxL65, pxL66, pxL67, pxL68, pxL69, pxL70, pxL71, pxL72, pxL73, pxL74, pxL75, pxL76, pxL77, pxL78, pxL79, pxL80, pxL81, pxL82, pxL83, pxL84, pxL85, pxL86, pxL87, pxL88, pxL89, pxL90, pxL91, pxL92, pxL93, pxL94, pxL95, pxL96, pxL97, pxL98, pxL99, pxL100, pxL101, pxL102, pxL103, pxL104, pxL105, pxL106, pxL107, pxL108, pxL109, pxL110, pxL111, pxL112, pxL113, pxL114, pxL115, pxL116, pxL117, pxL118, pxL119, pxL120, pxL121, pxL122, pxL123, pxL124, pxL125, pxL126, pxL200, pxL240, pxL287, pxL388, pxL400, pxL429, pxL431, pxL440, pxL1240, pxL1600, pxL1681, pxL12028, pxL13849, pxL14880, pxL25173, pxL26908, pxL49600, pxL65535, pxL65536, ↓reduceIte, reduceCtorEq, pxJ_add, pxJ_sub, pxJ_mul, pxJ_neg, pxD_lt_t, pxD_lt_f, pxD_le_t, pxD_le_f, pxD_eq_t, pxD_eq_f, pxJ_lt, pxJ_le, pxJ_eq, px_gI, px_gR, px_pI, px_rc, px_ai, px_ar, px_si, px_ln, px_cp, pxJ_div, pxJ_b8, pxJ_byte, px_b2, px_bs, px_rb0, px_rb1, px_min, px_max, px_compare, pxW_some, jw_t_I, px_cpt, jw_r_I, px_cpr, jw_l_I, px_cpl, Option.some.injEq, rf, rl', w0, w1, t9, r0, t7, c2, q7, qc, hx]
  rw [st]
  have eB : pxSpBring goes x f l rows (ls, mk, now, nx) = if 40 < (ls.length : Int) - gone + rows.length then (4, (ls, mk, now, nx)) else (0, (pxIns (if goes = true then pxDel ls f (l - f + 1) else ls) x (pxNewR nx rows), (if goes = true then pxDms mk (pxSub ls f l) else mk), x + rows.length - 1, nx + rows.length)) := by
    unfold pxSpBring
    rw [← hn]
  rw [eB]
  by_cases big : 40 < (ls.length : Int) - gone + rows.length
  · rw [if_pos big, if_pos big]
    exact pxW_some.mpr ⟨pxF.rfl, rfl, H⟩
  · rw [if_neg big, if_neg big]
    have cut : pxW (f_X9_cut h 255 (pxJ f) (pxJ gone)) fun _ h' => pxF (pxC 255 260) h h' ∧ pxIT h' 255 (if goes = true then pxDel ls f (l - f + 1) else ls) (if goes = true then pxDms mk (pxSub ls f l) else mk) now nx := by
      by_cases z : goes = true
      · have := pg z
        simp only [if_pos z] at hn ⊢
        subst hn
        exact s_X9_cut H (by omega) (by omega) (by omega)
      · simp only [if_neg z] at hn ⊢
        subst hn
        exact s_X9_cut0 H f0 f1
    have xb : 1 ≤ x ∧ x ≤ (if goes = true then pxDel ls f (l - f + 1) else ls).length + 1 ∧ ((if goes = true then pxDel ls f (l - f + 1) else ls).length : Int) = ls.length - gone := by
      by_cases z : goes = true
      · have := pg z
        rw [if_pos z] at hn
        rw [if_pos (Or.inl z)] at hx
        have dl := pxDel_len (l := ls) (x := f) (n := l - f + 1) (by omega) (by omega) (by omega)
        rw [if_pos z]
        omega
      · rw [if_neg z] at hn
        rw [if_neg z]
        by_cases i105 : act = 105
        · have := pi i105
          rw [if_pos (Or.inr i105)] at hx
          omega
        · rw [if_neg (fun y => y.elim z i105)] at hx
          omega
    generalize (if goes = true then pxDel ls f (l - f + 1) else ls) = ls1 at cut xb ⊢
    generalize (if goes = true then pxDms mk (pxSub ls f l) else mk) = mk1 at cut ⊢
    obtain ⟨x1, x2, x3⟩ := xb
    unfold g_X10_bring_b87
    simp (maxSteps := 4000000) (disch := first | assumption | omega | (simp only [jw_t_I, px_cpt]; done) | (simp only [jw_t_I, px_cpt]; omega)) only [pxL0, pxL1, pxL2, pxL3, pxL4, pxL5, pxL6, pxL7, pxL8, pxL9, pxL10, pxL11, pxL12, pxL13, pxL14, pxL15, pxL16, pxL17, pxL18, pxL19, pxL20, pxL21, pxL22, pxL23, pxL24, pxL25, pxL26, pxL27, pxL28, pxL29, pxL30, pxL31, pxL32, pxL33, pxL34, pxL35, pxL36, pxL37, pxL38, pxL39, pxL40, pxL41, pxL42, pxL43, pxL44, pxL45, pxL46, pxL47, pxL48, pxL49, pxL51, pxL57, pxL58, pxL59, pxL60, pxL61, pxL62, pxL63, pxL64, pxL65, pxL66, pxL67, pxL68, pxL69, pxL70, pxL71, pxL72, pxL73, pxL74, pxL75, pxL76, pxL77, pxL78, pxL79, pxL80, pxL81, pxL82, pxL83, pxL84, pxL85, pxL86, pxL87, pxL88, pxL89, pxL90, pxL91, pxL92, pxL93, pxL94, pxL95, pxL96, pxL97, pxL98, pxL99, pxL100, pxL101, pxL102, pxL103, pxL104, pxL105, pxL106, pxL107, pxL108, pxL109, pxL110, pxL111, pxL112, pxL113, pxL114, pxL115, pxL116, pxL117, pxL118, pxL119, pxL120, pxL121, pxL122, pxL123, pxL124, pxL125, pxL126, pxL200, pxL240, pxL287, pxL388, pxL400, pxL429, pxL431, pxL440, pxL1240, pxL1600, pxL1681, pxL12028, pxL13849, pxL14880, pxL25173, pxL26908, pxL49600, pxL65535, pxL65536, ↓reduceIte, reduceCtorEq, pxJ_add, pxJ_sub, pxJ_mul, pxJ_neg, pxD_lt_t, pxD_lt_f, pxD_le_t, pxD_le_f, pxD_eq_t, pxD_eq_f, pxJ_lt, pxJ_le, pxJ_eq, px_gI, px_gR, px_pI, px_rc, px_ai, px_ar, px_si, px_ln, px_cp, pxJ_div, pxJ_b8, pxJ_byte, px_b2, px_bs, px_rb0, px_rb1, px_min, px_max, px_compare, pxW_some, jw_t_I, px_cpt, jw_r_I, px_cpr, jw_l_I, px_cpl, Option.some.injEq, w0, w1, rf]
    refine pxW_b2 cut fun _ h1 k => ?_
    obtain ⟨F1, H1⟩ := k
    have W1 := W.f9 F1 (fun f => by unfold pxC; omega)
    have R1 := R.fr F1 (fun k f _ _ => by unfold pxC; omega)
    have w01 := W1.1
    have w11 := W1.2.2.1
    have t91 := H1.1.1
    have q71 := R1.1.1
    have qc1 := R1.2.2.2.1
    simp (maxSteps := 4000000) (disch := first | assumption | omega | (simp only [jw_t_I, px_cpt]; done) | (simp only [jw_t_I, px_cpt]; omega)) only [pxL0, pxL1, pxL2, pxL3, pxL4, pxL5, pxL6, pxL7, pxL8, pxL9, pxL10, pxL11, pxL12, pxL13, pxL14, pxL15, pxL16, pxL17, pxL18, pxL19, pxL20, pxL21, pxL22, pxL23, pxL24, pxL25, pxL26, pxL27, pxL28, pxL29, pxL30, pxL31, pxL32, pxL33, pxL34, pxL35, pxL36, pxL37, pxL38, pxL39, pxL40, pxL41, pxL42, pxL43, pxL44, pxL45, pxL46, pxL47, pxL48, pxL49, pxL51, pxL57, pxL58, pxL59, pxL60, pxL61, pxL62, pxL63, pxL64, pxL65, pxL66, pxL67, pxL68, pxL69, pxL70, pxL71, pxL72, pxL73, pxL74, pxL75, pxL76, pxL77, pxL78, pxL79, pxL80, pxL81, pxL82, pxL83, pxL84, pxL85, pxL86, pxL87, pxL88, pxL89, pxL90, pxL91, pxL92, pxL93, pxL94, pxL95, pxL96, pxL97, pxL98, pxL99, pxL100, pxL101, pxL102, pxL103, pxL104, pxL105, pxL106, pxL107, pxL108, pxL109, pxL110, pxL111, pxL112, pxL113, pxL114, pxL115, pxL116, pxL117, pxL118, pxL119, pxL120, pxL121, pxL122, pxL123, pxL124, pxL125, pxL126, pxL200, pxL240, pxL287, pxL388, pxL400, pxL429, pxL431, pxL440, pxL1240, pxL1600, pxL1681, pxL12028, pxL13849, pxL14880, pxL25173, pxL26908, pxL49600, pxL65535, pxL65536, ↓reduceIte, reduceCtorEq, pxJ_add, pxJ_sub, pxJ_mul, pxJ_neg, pxD_lt_t, pxD_lt_f, pxD_le_t, pxD_le_f, pxD_eq_t, pxD_eq_f, pxJ_lt, pxJ_le, pxJ_eq, px_gI, px_gR, px_pI, px_rc, px_ai, px_ar, px_si, px_ln, px_cp, pxJ_div, pxJ_b8, pxJ_byte, px_b2, px_bs, px_rb0, px_rb1, px_min, px_max, px_compare, pxW_some, jw_t_I, px_cpt, jw_r_I, px_cpr, jw_l_I, px_cpl, Option.some.injEq, w01, w11, t91, q71, qc1]
    refine pxW_b2 (s_X9_open H1 (x := x) (n := rows.length) x1 (by omega) (by omega) (by omega) (by omega) (by omega)) fun q h2 k => ?_
    obtain ⟨F2, rfl, H2⟩ := k
    rw [if_pos (by omega), if_pos (by omega)] at H2
    have F12 := F1.trans F2
    exact (s_X10_bring_b119 (nx := nx) hd hd2 x1 x2 (by omega) rows.length jw_FU h2 1 (by omega) (by unfold jw_FU; omega) (by omega) (W1.f9 F2 (fun f => by unfold pxC; omega)) (by simpa using H2) (R1.fr F2 (fun k f _ _ => by unfold pxC; omega))).mono fun q h' k => ⟨F12.trans k.1, k.2⟩
end
