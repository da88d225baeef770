/-! texts: lines with their ids, marks, the present line -/
theorem pxIR.fr {P : Nat → Nat → Prop} {h h' : jw_H} {ρ cap : Nat} {rs : List (List Int)} (H : pxIR h ρ cap rs) (F : pxF P h h') (hP : ∀ k f, ρ ≤ k → k ≤ ρ + 2 → ¬ P k f) : pxIR h' ρ cap rs := by
  obtain ⟨⟨t0, t1, t2, r0, r1, hc⟩, hn, ok, m2, mx⟩ := H
  have p0 := fun f => hP ρ f (by omega) (by omega)
  have p1 := fun f => hP (ρ + 1) f (by omega) (by omega)
  have p2 := fun f => hP (ρ + 2) f (by omega) (by omega)
  refine ⟨⟨by rw [F.t]; exact t0, by rw [F.t]; exact t1, by rw [F.t]; exact t2, by rw [F.r (p0 0)]; exact r0, by rw [F.r (p0 1)]; exact r1, hc⟩, hn, ok, by rw [F.m (p0 2)]; exact m2, fun x x1 x2 => ⟨by rw [F.m (p1 _)]; exact (mx x x1 x2).1, fun y y1 y2 => by rw [F.m (p2 _)]; exact (mx x x1 x2).2 y y1 y2⟩⟩
theorem pxSR.fr {P : Nat → Nat → Prop} {h h' : jw_H} {ρ cap : Nat} (H : pxSR h ρ cap) (F : pxF P h h') (hP : ∀ k f, ρ ≤ k → k ≤ ρ + 2 → ¬ P k f) : pxSR h' ρ cap := by
  obtain ⟨t0, t1, t2, r0, r1, hc⟩ := H
  exact ⟨by rw [F.t]; exact t0, by rw [F.t]; exact t1, by rw [F.t]; exact t2, by rw [F.r (hP ρ 0 (by omega) (by omega))]; exact r0, by rw [F.r (hP ρ 1 (by omega) (by omega))]; exact r1, hc⟩
abbrev pxLs : Type := List (Int × List Int)
abbrev pxRs (ls : pxLs) : List (List Int) := ls.map Prod.snd
def pxAt (ls : pxLs) (x : Int) : Int × List Int := pxG (0, []) ls x
abbrev pxId (ls : pxLs) (x : Int) : Int := (pxAt ls x).1
theorem pxRs_len (ls : pxLs) : (pxRs ls).length = ls.length := List.length_map _
theorem pxRs_at (ls : pxLs) (x : Int) : pxRw (pxRs ls) x = (pxAt ls x).2 := pxG_map rfl
def pxST (h : jw_H) (t : Nat) : Prop := (jw_t h t).1 = 9 ∧ jw_r h t 0 = some (t + 1) ∧ jw_r h t 1 = some (t + 4) ∧ jw_r h t 2 = some (t + 5) ∧ jw_t h (t + 4) = (20, 40) ∧ jw_t h (t + 5) = (20, 5)
def pxIT (h : jw_H) (t : Nat) (ls : pxLs) (mk : Int → Int) (now nx : Int) : Prop :=
  pxST h t ∧ pxIR h (t + 1) 40 (pxRs ls) ∧ (∀ x : Int, 1 ≤ x → x ≤ ls.length → pxM h (t + 4) (x - 1).toNat = pxId ls x) ∧ (∀ k : Int, 0 ≤ k → k < 5 → pxM h (t + 5) k.toNat = mk k) ∧ pxM h t 3 = now ∧ pxM h t 4 = nx
theorem pxST.fr {P : Nat → Nat → Prop} {h h' : jw_H} {t : Nat} (H : pxST h t) (F : pxF P h h') (hP : ∀ f, f < 3 → ¬ P t f) : pxST h' t := by
  obtain ⟨t0, r0, r1, r2, t4, t5⟩ := H
  exact ⟨by rw [F.t]; exact t0, by rw [F.r (hP 0 (by omega))]; exact r0, by rw [F.r (hP 1 (by omega))]; exact r1, by rw [F.r (hP 2 (by omega))]; exact r2, by rw [F.t]; exact t4, by rw [F.t]; exact t5⟩
theorem pxIT.fr {P : Nat → Nat → Prop} {h h' : jw_H} {t : Nat} {ls : pxLs} {mk : Int → Int} {now nx : Int} (H : pxIT h t ls mk now nx) (F : pxF P h h') (hP : ∀ k f, t ≤ k → k ≤ t + 5 → ¬ P k f) : pxIT h' t ls mk now nx := by
  obtain ⟨S, R, ci, cm, n3, n4⟩ := H
  exact ⟨S.fr F (fun f _ => hP t f (by omega) (by omega)), R.fr F (fun k f a b => hP k f (by omega) (by omega)), fun x x1 x2 => by rw [F.m (hP _ _ (by omega) (by omega))]; exact ci x x1 x2, fun k k1 k2 => by rw [F.m (hP _ _ (by omega) (by omega))]; exact cm k k1 k2, by rw [F.m (hP _ _ (by omega) (by omega))]; exact n3, by rw [F.m (hP _ _ (by omega) (by omega))]; exact n4⟩
theorem pxIT.len {h : jw_H} {t : Nat} {ls : pxLs} {mk : Int → Int} {now nx : Int} (H : pxIT h t ls mk now nx) : ls.length ≤ 40 := by
  have := H.2.1.2.1
  rw [pxRs_len] at this; exact this
theorem pxIT.c2 {h : jw_H} {t : Nat} {ls : pxLs} {mk : Int → Int} {now nx : Int} (H : pxIT h t ls mk now nx) : pxM h (t + 1) 2 = ls.length := by
  rw [H.2.1.2.2.2.1, pxRs_len]
/-- its number, from k on -/
def pxNoF (id : Int) : pxLs → Int → Int
  | [], _ => -1
  | a :: l, k => if a.1 = id then k else pxNoF id l (k + 1)
def pxNo (ls : pxLs) (id : Int) : Int := pxNoF id ls 1
theorem pxAt_drop {ls : pxLs} {x : Int} (h1 : 1 ≤ x) (h2 : x ≤ ls.length) : ls.drop (x - 1).toNat = pxAt ls x :: ls.drop x.toNat := by
  rw [List.drop_eq_getElem_cons (show (x - 1).toNat < ls.length by omega), show (x - 1).toNat + 1 = x.toNat by omega]
  unfold pxAt pxG
  rw [List.getD_eq_getElem?_getD, List.getElem?_eq_getElem (show (x - 1).toNat < ls.length by omega)]
  rfl
/-- marks at this id are dropped -/
def pxDm (mk : Int → Int) (id : Int) : Int → Int := fun j => if mk j = id then -1 else mk j
def pxDms (mk : Int → Int) (ls : pxLs) : Int → Int := ls.foldl (fun m a => pxDm m a.1) mk
/-- new lines -/
def pxNew (nx n : Int) : pxLs := (List.range n.toNat).map fun (i : Nat) => (nx + (i : Int), [])
theorem pxNew_len {nx n : Int} : (pxNew nx n).length = n.toNat := by unfold pxNew; simp
theorem pxNew_at {nx n x : Int} (h1 : 1 ≤ x) (h2 : x ≤ n) : pxAt (pxNew nx n) x = (nx + x - 1, []) := by
  unfold pxAt pxG pxNew
  rw [List.getD_eq_getElem?_getD, List.getElem?_map, List.getElem?_range (by omega)]
  simp only [Option.map_some, Option.getD_some]
  congr 1; omega
theorem pxNew_rs {nx n : Int} : pxRs (pxNew nx n) = List.replicate n.toNat [] := by
  unfold pxRs pxNew
  rw [List.map_map]
  exact List.map_const' .. |>.trans (by rw [List.length_range])
theorem pxRs_ins {ls ms : pxLs} {x : Int} : pxRs (pxIns ls x ms) = pxIns (pxRs ls) x (pxRs ms) := by
  unfold pxRs pxIns; rw [List.map_append, List.map_append, List.map_take, List.map_drop]
theorem pxRs_del {ls : pxLs} {x n : Int} : pxRs (pxDel ls x n) = pxDel (pxRs ls) x n := by
  unfold pxRs pxDel; rw [List.map_append, List.map_take, List.map_drop]
section
variable {h : jw_H} {t : Nat} {ls : pxLs} {mk : Int → Int} {now nx : Int}
theorem s_X9_idOf (H : pxIT h t ls mk now nx) {x : Int} (hx1 : -2147483648 ≤ x) (hx2 : x ≤ 2147483647) : f_X9_idOf h t (pxJ x) = some (pxJ (if 1 ≤ x ∧ x ≤ ls.length then pxId ls x else -1), h) := by
  have hl := H.len
  have c2 := H.c2
  obtain ⟨⟨t0, r0, r1, r2, t4, t5⟩, ⟨⟨q0, -⟩, -⟩, ci, cm, n3, n4⟩ := H
  unfold f_X9_idOf g_X9_idOf_b36 g_X9_idOf_b37
  by_cases hx : 1 ≤ x ∧ x ≤ ls.length
  · rw [if_pos hx]
    simp (disch := first | assumption | omega | (simp only [jw_t_I, px_cpt, t4]; done) | (simp only [jw_t_I, px_cpt, t4]; omega)) only [pxL0, pxL1, pxL2, pxL3, pxL4, pxL5, pxL6, pxL7, pxL8, pxL9, pxL10, pxL11, pxL12, pxL13, pxL14, pxL15, pxL16, pxL17, pxL18, pxL19, pxL20, pxL21, pxL22, pxL23, pxL24, pxL25, pxL26, pxL27, pxL28, pxL29, pxL30, pxL31, pxL32, pxL33, pxL34, pxL35, pxL36, pxL37, pxL38, pxL39, pxL40, pxL41, pxL42, pxL43, pxL44, pxL45, pxL46, pxL47, pxL48, pxL49, pxL51, pxL57, pxL58, pxL59, pxL60, pxL61, pxL62, pxL63, pxL64, pxL65, pxL66, pxL67, pxL68, pxL69, pxL70, pxL71, pxL72, pxL73, pxL74, pxL75, pxL76, pxL77, pxL78, pxL79, pxL80, pxL81, pxL82, pxL83, pxL84, pxL85, pxL86, pxL87, pxL88, pxL89, pxL90, pxL91, pxL92, pxL93, pxL94, pxL95, pxL96, pxL97, pxL98, pxL99, pxL100, pxL101, pxL102, pxL103, pxL104, pxL105, pxL106, pxL107, pxL108, pxL109, pxL110, pxL111, pxL112, pxL113, pxL114, pxL115, pxL116, pxL117, pxL118, pxL119, pxL120, pxL121, pxL122, pxL123, pxL124, pxL125, pxL126, pxL200, pxL240, pxL287, pxL388, pxL400, pxL429, pxL431, pxL440, pxL1240, pxL1600, pxL1681, pxL12028, pxL13849, pxL14880, pxL25173, pxL26908, pxL49600, pxL65535, pxL65536, ↓reduceIte, pxJ_add, pxJ_sub, pxJ_mul, pxJ_neg, pxD_lt_t, pxD_lt_f, pxD_le_t, pxD_le_f, pxD_eq_t, pxD_eq_f, pxJ_lt, pxJ_le, pxJ_eq, px_gI, px_gR, px_pI, px_rc, px_ai, px_ar, px_si, px_ln, px_cp, pxJ_div, pxJ_b8, pxJ_byte, px_b2, px_bs, px_rb0, px_rb1, px_min, px_max, px_compare, pxW_some, jw_t_I, px_cpt, jw_r_I, px_cpr, jw_l_I, px_cpl, Option.some.injEq, t4, r0, r1, c2, ci x hx.1 hx.2]
  · rw [if_neg hx]
    by_cases hy : x < 1
    · simp (disch := first | assumption | omega | (simp only [jw_t_I, px_cpt, t4]; done) | (simp only [jw_t_I, px_cpt, t4]; omega)) only [pxL0, pxL1, pxL2, pxL3, pxL4, pxL5, pxL6, pxL7, pxL8, pxL9, pxL10, pxL11, pxL12, pxL13, pxL14, pxL15, pxL16, pxL17, pxL18, pxL19, pxL20, pxL21, pxL22, pxL23, pxL24, pxL25, pxL26, pxL27, pxL28, pxL29, pxL30, pxL31, pxL32, pxL33, pxL34, pxL35, pxL36, pxL37, pxL38, pxL39, pxL40, pxL41, pxL42, pxL43, pxL44, pxL45, pxL46, pxL47, pxL48, pxL49, pxL51, pxL57, pxL58, pxL59, pxL60, pxL61, pxL62, pxL63, pxL64, pxL65, pxL66, pxL67, pxL68, pxL69, pxL70, pxL71, pxL72, pxL73, pxL74, pxL75, pxL76, pxL77, pxL78, pxL79, pxL80, pxL81, pxL82, pxL83, pxL84, pxL85, pxL86, pxL87, pxL88, pxL89, pxL90, pxL91, pxL92, pxL93, pxL94, pxL95, pxL96, pxL97, pxL98, pxL99, pxL100, pxL101, pxL102, pxL103, pxL104, pxL105, pxL106, pxL107, pxL108, pxL109, pxL110, pxL111, pxL112, pxL113, pxL114, pxL115, pxL116, pxL117, pxL118, pxL119, pxL120, pxL121, pxL122, pxL123, pxL124, pxL125, pxL126, pxL200, pxL240, pxL287, pxL388, pxL400, pxL429, pxL431, pxL440, pxL1240, pxL1600, pxL1681, pxL12028, pxL13849, pxL14880, pxL25173, pxL26908, pxL49600, pxL65535, pxL65536, ↓reduceIte, pxJ_add, pxJ_sub, pxJ_mul, pxJ_neg, pxD_lt_t, pxD_lt_f, pxD_le_t, pxD_le_f, pxD_eq_t, pxD_eq_f, pxJ_lt, pxJ_le, pxJ_eq, px_gI, px_gR, px_pI, px_rc, px_ai, px_ar, px_si, px_ln, px_cp, pxJ_div, pxJ_b8, pxJ_byte, px_b2, px_bs, px_rb0, px_rb1, px_min, px_max, px_compare, pxW_some, jw_t_I, px_cpt, jw_r_I, px_cpr, jw_l_I, px_cpl, Option.some.injEq, t4, r0, r1, c2]
    · simp (disch := first | assumption | omega | (simp only [jw_t_I, px_cpt, t4]; done) | (simp only [jw_t_I, px_cpt, t4]; omega)) only [pxL0, pxL1, pxL2, pxL3, pxL4, pxL5, pxL6, pxL7, pxL8, pxL9, pxL10, pxL11, pxL12, pxL13, pxL14, pxL15, pxL16, pxL17, pxL18, pxL19, pxL20, pxL21, pxL22, pxL23, pxL24, pxL25, pxL26, pxL27, pxL28, pxL29, pxL30, pxL31, pxL32, pxL33, pxL34, pxL35, pxL36, pxL37, pxL38, pxL39, pxL40, pxL41, pxL42, pxL43, pxL44, pxL45, pxL46, pxL47, pxL48, pxL49, pxL51, pxL57, pxL58, pxL59, pxL60, pxL61, pxL62, pxL63, pxL64, pxL65, pxL66, pxL67, pxL68, pxL69, pxL70, pxL71, pxL72, pxL73, pxL74, pxL75, pxL76, pxL77, pxL78, pxL79, pxL80, pxL81, pxL82, pxL83, pxL84, pxL85, pxL86, pxL87, pxL88, pxL89, pxL90, pxL91, pxL92, pxL93, pxL94, pxL95, pxL96, pxL97, pxL98, pxL99, pxL100, pxL101, pxL102, pxL103, pxL104, pxL105, pxL106, pxL107, pxL108, pxL109, pxL110, pxL111, pxL112, pxL113, pxL114, pxL115, pxL116, pxL117, pxL118, pxL119, pxL120, pxL121, pxL122, pxL123, pxL124, pxL125, pxL126, pxL200, pxL240, pxL287, pxL388, pxL400, pxL429, pxL431, pxL440, pxL1240, pxL1600, pxL1681, pxL12028, pxL13849, pxL14880, pxL25173, pxL26908, pxL49600, pxL65535, pxL65536, ↓reduceIte, pxJ_add, pxJ_sub, pxJ_mul, pxJ_neg, pxD_lt_t, pxD_lt_f, pxD_le_t, pxD_le_f, pxD_eq_t, pxD_eq_f, pxJ_lt, pxJ_le, pxJ_eq, px_gI, px_gR, px_pI, px_rc, px_ai, px_ar, px_si, px_ln, px_cp, pxJ_div, pxJ_b8, pxJ_byte, px_b2, px_bs, px_rb0, px_rb1, px_min, px_max, px_compare, pxW_some, jw_t_I, px_cpt, jw_r_I, px_cpr, jw_l_I, px_cpl, Option.some.injEq, t4, r0, r1, c2]
theorem s_X9_numberOf_b2 (H : pxIT h t ls mk now nx) {id : Int} (hi1 : -2147483648 ≤ id) (hi2 : id ≤ 2147483647) : ∀ (m N : Nat) (x : Int), x + m = ls.length + 1 → 1 ≤ x → m < N → f_X9_numberOf_b2 N h t (pxJ id) (pxJ x) = some (pxJ (pxNoF id (ls.drop (x - 1).toNat) x), h) := by
  have hl := H.len
  have c2 := H.c2
  obtain ⟨⟨t0, r0, r1, r2, t4, t5⟩, ⟨⟨q0, -⟩, -⟩, ci, cm, n3, n4⟩ := H
  intro m
  induction m with
  | zero =>
    intro N x hx h1 hN
    obtain ⟨N, rfl, -⟩ := px_fu hN
    rw [u_X9_numberOf_b2, List.drop_of_length_le (by omega)]
    unfold g_X9_numberOf_b2
    simp (disch := first | assumption | omega | (simp only [jw_t_I, px_cpt, t4]; done) | (simp only [jw_t_I, px_cpt, t4]; omega)) only [pxL0, pxL1, pxL2, pxL3, pxL4, pxL5, pxL6, pxL7, pxL8, pxL9, pxL10, pxL11, pxL12, pxL13, pxL14, pxL15, pxL16, pxL17, pxL18, pxL19, pxL20, pxL21, pxL22, pxL23, pxL24, pxL25, pxL26, pxL27, pxL28, pxL29, pxL30, pxL31, pxL32, pxL33, pxL34, pxL35, pxL36, pxL37, pxL38, pxL39, pxL40, pxL41, pxL42, pxL43, pxL44, pxL45, pxL46, pxL47, pxL48, pxL49, pxL51, pxL57, pxL58, pxL59, pxL60, pxL61, pxL62, pxL63, pxL64, pxL65, pxL66, pxL67, pxL68, pxL69, pxL70, pxL71, pxL72, pxL73, pxL74, pxL75, pxL76, pxL77, pxL78, pxL79, pxL80, pxL81, pxL82, pxL83, pxL84, pxL85, pxL86, pxL87, pxL88, pxL89, pxL90, pxL91, pxL92, pxL93, pxL94, pxL95, pxL96, pxL97, pxL98, pxL99, pxL100, pxL101, pxL102, pxL103, pxL104, pxL105, pxL106, pxL107, pxL108, pxL109, pxL110, pxL111, pxL112, pxL113, pxL114, pxL115, pxL116, pxL117, pxL118, pxL119, pxL120, pxL121, pxL122, pxL123, pxL124, pxL125, pxL126, pxL200, pxL240, pxL287, pxL388, pxL400, pxL429, pxL431, pxL440, pxL1240, pxL1600, pxL1681, pxL12028, pxL13849, pxL14880, pxL25173, pxL26908, pxL49600, pxL65535, pxL65536, ↓reduceIte, pxJ_add, pxJ_sub, pxJ_mul, pxJ_neg, pxD_lt_t, pxD_lt_f, pxD_le_t, pxD_le_f, pxD_eq_t, pxD_eq_f, pxJ_lt, pxJ_le, pxJ_eq, px_gI, px_gR, px_pI, px_rc, px_ai, px_ar, px_si, px_ln, px_cp, pxJ_div, pxJ_b8, pxJ_byte, px_b2, px_bs, px_rb0, px_rb1, px_min, px_max, px_compare, pxW_some, jw_t_I, px_cpt, jw_r_I, px_cpr, jw_l_I, px_cpl, Option.some.injEq, t4, r0, r1, c2, pxNoF]
  | succ m ih =>
    intro N x hx h1 hN
    obtain ⟨N, rfl, hN⟩ := px_fu hN
    rw [u_X9_numberOf_b2, pxAt_drop h1 (by omega)]
    unfold g_X9_numberOf_b2 pxNoF
    have e := ci x h1 (by omega)
    have l1 := pxM_lo h (t + 4) (x - 1).toNat
    have l2 := pxM_hi h (t + 4) (x - 1).toNat
    rw [e] at l1 l2
    have ih' := ih N (x + 1) (by omega) (by omega) (by omega)
    rw [show x + 1 - 1 = x by omega] at ih'
    by_cases hc : pxId ls x = id
    · simp (disch := first | assumption | omega | (simp only [jw_t_I, px_cpt, t4]; done) | (simp only [jw_t_I, px_cpt, t4]; omega)) only [pxL0, pxL1, pxL2, pxL3, pxL4, pxL5, pxL6, pxL7, pxL8, pxL9, pxL10, pxL11, pxL12, pxL13, pxL14, pxL15, pxL16, pxL17, pxL18, pxL19, pxL20, pxL21, pxL22, pxL23, pxL24, pxL25, pxL26, pxL27, pxL28, pxL29, pxL30, pxL31, pxL32, pxL33, pxL34, pxL35, pxL36, pxL37, pxL38, pxL39, pxL40, pxL41, pxL42, pxL43, pxL44, pxL45, pxL46, pxL47, pxL48, pxL49, pxL51, pxL57, pxL58, pxL59, pxL60, pxL61, pxL62, pxL63, pxL64, pxL65, pxL66, pxL67, pxL68, pxL69, pxL70, pxL71, pxL72, pxL73, pxL74, pxL75, pxL76, pxL77, pxL78, pxL79, pxL80, pxL81, pxL82, pxL83, pxL84, pxL85, pxL86, pxL87, pxL88, pxL89, pxL90, pxL91, pxL92, pxL93, pxL94, pxL95, pxL96, pxL97, pxL98, pxL99, pxL100, pxL101, pxL102, pxL103, pxL104, pxL105, pxL106, pxL107, pxL108, pxL109, pxL110, pxL111, pxL112, pxL113, pxL114, pxL115, pxL116, pxL117, pxL118, pxL119, pxL120, pxL121, pxL122, pxL123, pxL124, pxL125, pxL126, pxL200, pxL240, pxL287, pxL388, pxL400, pxL429, pxL431, pxL440, pxL1240, pxL1600, pxL1681, pxL12028, pxL13849, pxL14880, pxL25173, pxL26908, pxL49600, pxL65535, pxL65536, ↓reduceIte, pxJ_add, pxJ_sub, pxJ_mul, pxJ_neg, pxD_lt_t, pxD_lt_f, pxD_le_t, pxD_le_f, pxD_eq_t, pxD_eq_f, pxJ_lt, pxJ_le, pxJ_eq, px_gI, px_gR, px_pI, px_rc, px_ai, px_ar, px_si, px_ln, px_cp, pxJ_div, pxJ_b8, pxJ_byte, px_b2, px_bs, px_rb0, px_rb1, px_min, px_max, px_compare, pxW_some, jw_t_I, px_cpt, jw_r_I, px_cpr, jw_l_I, px_cpl, Option.some.injEq, t4, r0, r1, c2, e, if_pos hc]
    · simp (disch := first | assumption | omega | (simp only [jw_t_I, px_cpt, t4]; done) | (simp only [jw_t_I, px_cpt, t4]; omega)) only [pxL0, pxL1, pxL2, pxL3, pxL4, pxL5, pxL6, pxL7, pxL8, pxL9, pxL10, pxL11, pxL12, pxL13, pxL14, pxL15, pxL16, pxL17, pxL18, pxL19, pxL20, pxL21, pxL22, pxL23, pxL24, pxL25, pxL26, pxL27, pxL28, pxL29, pxL30, pxL31, pxL32, pxL33, pxL34, pxL35, pxL36, pxL37, pxL38, pxL39, pxL40, pxL41, pxL42, pxL43, pxL44, pxL45, pxL46, pxL47, pxL48, pxL49, pxL51, pxL57, pxL58, pxL59, pxL60, pxL61, pxL62, pxL63, pxL64, pxL65, pxL66, pxL67, pxL68, pxL69, pxL70, pxL71, pxL72, pxL73, pxL74, pxL75, pxL76, pxL77, pxL78, pxL79, pxL80, pxL81, pxL82, pxL83, pxL84, pxL85, pxL86, pxL87, pxL88, pxL89, pxL90, pxL91, pxL92, pxL93, pxL94, pxL95, pxL96, pxL97, pxL98, pxL99, pxL100, pxL101, pxL102, pxL103, pxL104, pxL105, pxL106, pxL107, pxL108, pxL109, pxL110, pxL111, pxL112, pxL113, pxL114, pxL115, pxL116, pxL117, pxL118, pxL119, pxL120, pxL121, pxL122, pxL123, pxL124, pxL125, pxL126, pxL200, pxL240, pxL287, pxL388, pxL400, pxL429, pxL431, pxL440, pxL1240, pxL1600, pxL1681, pxL12028, pxL13849, pxL14880, pxL25173, pxL26908, pxL49600, pxL65535, pxL65536, ↓reduceIte, pxJ_add, pxJ_sub, pxJ_mul, pxJ_neg, pxD_lt_t, pxD_lt_f, pxD_le_t, pxD_le_f, pxD_eq_t, pxD_eq_f, pxJ_lt, pxJ_le, pxJ_eq, px_gI, px_gR, px_pI, px_rc, px_ai, px_ar, px_si, px_ln, px_cp, pxJ_div, pxJ_b8, pxJ_byte, px_b2, px_bs, px_rb0, px_rb1, px_min, px_max, px_compare, pxW_some, jw_t_I, px_cpt, jw_r_I, px_cpr, jw_l_I, px_cpl, Option.some.injEq, t4, r0, r1, c2, e, if_neg hc, ih']
theorem s_X9_numberOf (H : pxIT h t ls mk now nx) {id : Int} (hi1 : -2147483648 ≤ id) (hi2 : id ≤ 2147483647) : f_X9_numberOf h t (pxJ id) = some (pxJ (pxNo ls id), h) := by
  have hl := H.len
  exact s_X9_numberOf_b2 H hi1 hi2 ls.length jw_FU 1 (by omega) (by omega) (by unfold jw_FU; omega)
theorem pxNoF_in (id : Int) : ∀ (l : pxLs) (k : Int), pxNoF id l k = -1 ∨ (k ≤ pxNoF id l k ∧ pxNoF id l k < k + l.length)
  | [], k => Or.inl rfl
  | a :: l, k => by
    unfold pxNoF
    by_cases hc : a.1 = id
    · rw [if_pos hc]; right; simp only [List.length_cons]; omega
    · rw [if_neg hc]
      have := pxNoF_in id l (k + 1)
      simp only [List.length_cons]; omega
theorem pxNo_in (ls : pxLs) (id : Int) : pxNo ls id = -1 ∨ (1 ≤ pxNo ls id ∧ pxNo ls id ≤ ls.length) := by
  have := pxNoF_in id ls 1
  unfold pxNo; omega
theorem s_X9_markedId (H : pxIT h t ls mk now nx) {k : Int} (h1 : -2147483648 ≤ k) (h2 : k ≤ 2147483647) : f_X9_markedId h t (pxJ k) = some (pxJ (if 0 ≤ k ∧ k < 5 then mk k else -1), h) := by
  obtain ⟨⟨t0, r0, r1, r2, t4, t5⟩, ⟨⟨q0, -⟩, -⟩, ci, cm, n3, n4⟩ := H
  unfold f_X9_markedId g_X9_markedId_b22 g_X9_markedId_b23
  by_cases hx : 0 ≤ k ∧ k < 5
  · rw [if_pos hx]
    simp (disch := first | assumption | omega | (simp only [jw_t_I, px_cpt, t5]; done) | (simp only [jw_t_I, px_cpt, t5]; omega)) only [pxL0, pxL1, pxL2, pxL3, pxL4, pxL5, pxL6, pxL7, pxL8, pxL9, pxL10, pxL11, pxL12, pxL13, pxL14, pxL15, pxL16, pxL17, pxL18, pxL19, pxL20, pxL21, pxL22, pxL23, pxL24, pxL25, pxL26, pxL27, pxL28, pxL29, pxL30, pxL31, pxL32, pxL33, pxL34, pxL35, pxL36, pxL37, pxL38, pxL39, pxL40, pxL41, pxL42, pxL43, pxL44, pxL45, pxL46, pxL47, pxL48, pxL49, pxL51, pxL57, pxL58, pxL59, pxL60, pxL61, pxL62, pxL63, pxL64, pxL65, pxL66, pxL67, pxL68, pxL69, pxL70, pxL71, pxL72, pxL73, pxL74, pxL75, pxL76, pxL77, pxL78, pxL79, pxL80, pxL81, pxL82, pxL83, pxL84, pxL85, pxL86, pxL87, pxL88, pxL89, pxL90, pxL91, pxL92, pxL93, pxL94, pxL95, pxL96, pxL97, pxL98, pxL99, pxL100, pxL101, pxL102, pxL103, pxL104, pxL105, pxL106, pxL107, pxL108, pxL109, pxL110, pxL111, pxL112, pxL113, pxL114, pxL115, pxL116, pxL117, pxL118, pxL119, pxL120, pxL121, pxL122, pxL123, pxL124, pxL125, pxL126, pxL200, pxL240, pxL287, pxL388, pxL400, pxL429, pxL431, pxL440, pxL1240, pxL1600, pxL1681, pxL12028, pxL13849, pxL14880, pxL25173, pxL26908, pxL49600, pxL65535, pxL65536, ↓reduceIte, pxJ_add, pxJ_sub, pxJ_mul, pxJ_neg, pxD_lt_t, pxD_lt_f, pxD_le_t, pxD_le_f, pxD_eq_t, pxD_eq_f, pxJ_lt, pxJ_le, pxJ_eq, px_gI, px_gR, px_pI, px_rc, px_ai, px_ar, px_si, px_ln, px_cp, pxJ_div, pxJ_b8, pxJ_byte, px_b2, px_bs, px_rb0, px_rb1, px_min, px_max, px_compare, pxW_some, jw_t_I, px_cpt, jw_r_I, px_cpr, jw_l_I, px_cpl, Option.some.injEq, t5, r2, cm k hx.1 hx.2]
  · rw [if_neg hx]
    by_cases hy : k < 0
    · simp (disch := first | assumption | omega | (simp only [jw_t_I, px_cpt, t5]; done) | (simp only [jw_t_I, px_cpt, t5]; omega)) only [pxL0, pxL1, pxL2, pxL3, pxL4, pxL5, pxL6, pxL7, pxL8, pxL9, pxL10, pxL11, pxL12, pxL13, pxL14, pxL15, pxL16, pxL17, pxL18, pxL19, pxL20, pxL21, pxL22, pxL23, pxL24, pxL25, pxL26, pxL27, pxL28, pxL29, pxL30, pxL31, pxL32, pxL33, pxL34, pxL35, pxL36, pxL37, pxL38, pxL39, pxL40, pxL41, pxL42, pxL43, pxL44, pxL45, pxL46, pxL47, pxL48, pxL49, pxL51, pxL57, pxL58, pxL59, pxL60, pxL61, pxL62, pxL63, pxL64, pxL65, pxL66, pxL67, pxL68, pxL69, pxL70, pxL71, pxL72, pxL73, pxL74, pxL75, pxL76, pxL77, pxL78, pxL79, pxL80, pxL81, pxL82, pxL83, pxL84, pxL85, pxL86, pxL87, pxL88, pxL89, pxL90, pxL91, pxL92, pxL93, pxL94, pxL95, pxL96, pxL97, pxL98, pxL99, pxL100, pxL101, pxL102, pxL103, pxL104, pxL105, pxL106, pxL107, pxL108, pxL109, pxL110, pxL111, pxL112, pxL113, pxL114, pxL115, pxL116, pxL117, pxL118, pxL119, pxL120, pxL121, pxL122, pxL123, pxL124, pxL125, pxL126, pxL200, pxL240, pxL287, pxL388, pxL400, pxL429, pxL431, pxL440, pxL1240, pxL1600, pxL1681, pxL12028, pxL13849, pxL14880, pxL25173, pxL26908, pxL49600, pxL65535, pxL65536, ↓reduceIte, pxJ_add, pxJ_sub, pxJ_mul, pxJ_neg, pxD_lt_t, pxD_lt_f, pxD_le_t, pxD_le_f, pxD_eq_t, pxD_eq_f, pxJ_lt, pxJ_le, pxJ_eq, px_gI, px_gR, px_pI, px_rc, px_ai, px_ar, px_si, px_ln, px_cp, pxJ_div, pxJ_b8, pxJ_byte, px_b2, px_bs, px_rb0, px_rb1, px_min, px_max, px_compare, pxW_some, jw_t_I, px_cpt, jw_r_I, px_cpr, jw_l_I, px_cpl, Option.some.injEq, t5, r2]
    · simp (disch := first | assumption | omega | (simp only [jw_t_I, px_cpt, t5]; done) | (simp only [jw_t_I, px_cpt, t5]; omega)) only [pxL0, pxL1, pxL2, pxL3, pxL4, pxL5, pxL6, pxL7, pxL8, pxL9, pxL10, pxL11, pxL12, pxL13, pxL14, pxL15, pxL16, pxL17, pxL18, pxL19, pxL20, pxL21, pxL22, pxL23, pxL24, pxL25, pxL26, pxL27, pxL28, pxL29, pxL30, pxL31, pxL32, pxL33, pxL34, pxL35, pxL36, pxL37, pxL38, pxL39, pxL40, pxL41, pxL42, pxL43, pxL44, pxL45, pxL46, pxL47, pxL48, pxL49, pxL51, pxL57, pxL58, pxL59, pxL60, pxL61, pxL62, pxL63, pxL64, pxL65, pxL66, pxL67, pxL68, pxL69, pxL70, pxL71, pxL72, pxL73, pxL74, pxL75, pxL76, pxL77, pxL78, pxL79, pxL80, pxL81, pxL82, pxL83, pxL84, pxL85, pxL86, pxL87, pxL88, pxL89, pxL90, pxL91, pxL92, pxL93, pxL94, pxL95, pxL96, pxL97, pxL98, pxL99, pxL100, pxL101, pxL102, pxL103, pxL104, pxL105, pxL106, pxL107, pxL108, pxL109, pxL110, pxL111, pxL112, pxL113, pxL114, pxL115, pxL116, pxL117, pxL118, pxL119, pxL120, pxL121, pxL122, pxL123, pxL124, pxL125, pxL126, pxL200, pxL240, pxL287, pxL388, pxL400, pxL429, pxL431, pxL440, pxL1240, pxL1600, pxL1681, pxL12028, pxL13849, pxL14880, pxL25173, pxL26908, pxL49600, pxL65535, pxL65536, ↓reduceIte, pxJ_add, pxJ_sub, pxJ_mul, pxJ_neg, pxD_lt_t, pxD_lt_f, pxD_le_t, pxD_le_f, pxD_eq_t, pxD_eq_f, pxJ_lt, pxJ_le, pxJ_eq, px_gI, px_gR, px_pI, px_rc, px_ai, px_ar, px_si, px_ln, px_cp, pxJ_div, pxJ_b8, pxJ_byte, px_b2, px_bs, px_rb0, px_rb1, px_min, px_max, px_compare, pxW_some, jw_t_I, px_cpt, jw_r_I, px_cpr, jw_l_I, px_cpl, Option.some.injEq, t5, r2]
theorem pxIT.mkr (H : pxIT h t ls mk now nx) {k : Int} (h1 : 0 ≤ k) (h2 : k < 5) : -2147483648 ≤ mk k ∧ mk k ≤ 2147483647 := by
  rw [← H.2.2.2.1 k h1 h2]; exact ⟨pxM_lo _ _ _, pxM_hi _ _ _⟩
theorem pxIT.idr (H : pxIT h t ls mk now nx) {x : Int} (h1 : 1 ≤ x) (h2 : x ≤ ls.length) : -2147483648 ≤ pxId ls x ∧ pxId ls x ≤ 2147483647 := by
  rw [← H.2.2.1 x h1 h2]; exact ⟨pxM_lo _ _ _, pxM_hi _ _ _⟩
theorem pxIT.nowr (H : pxIT h t ls mk now nx) : -2147483648 ≤ now ∧ now ≤ 2147483647 := by
  rw [← H.2.2.2.2.1]; exact ⟨pxM_lo _ _ _, pxM_hi _ _ _⟩
theorem pxIT.nxr (H : pxIT h t ls mk now nx) : -2147483648 ≤ nx ∧ nx ≤ 2147483647 := by
  rw [← H.2.2.2.2.2]; exact ⟨pxM_lo _ _ _, pxM_hi _ _ _⟩
theorem s_X9_markedLine (H : pxIT h t ls mk now nx) {k : Int} (h1 : 0 ≤ k) (h2 : k < 5) : f_X9_markedLine h t (pxJ k) = some (pxJ (if mk k = -1 then -1 else pxNo ls (mk k)), h) := by
  have e := s_X9_markedId H (k := k) (by omega) (by omega)
  rw [if_pos ⟨h1, h2⟩] at e
  have r := H.mkr h1 h2
  have t0 := H.1.1
  unfold f_X9_markedLine g_X9_markedLine_b20
  by_cases hc : mk k = -1
  · simp (disch := first | assumption | omega | (simp only [jw_t_I, px_cpt]; done) | (simp only [jw_t_I, px_cpt]; omega)) only [pxL0, pxL1, pxL2, pxL3, pxL4, pxL5, pxL6, pxL7, pxL8, pxL9, pxL10, pxL11, pxL12, pxL13, pxL14, pxL15, pxL16, pxL17, pxL18, pxL19, pxL20, pxL21, pxL22, pxL23, pxL24, pxL25, pxL26, pxL27, pxL28, pxL29, pxL30, pxL31, pxL32, pxL33, pxL34, pxL35, pxL36, pxL37, pxL38, pxL39, pxL40, pxL41, pxL42, pxL43, pxL44, pxL45, pxL46, pxL47, pxL48, pxL49, pxL51, pxL57, pxL58, pxL59, pxL60, pxL61, pxL62, pxL63, pxL64, pxL65, pxL66, pxL67, pxL68, pxL69, pxL70, pxL71, pxL72, pxL73, pxL74, pxL75, pxL76, pxL77, pxL78, pxL79, pxL80, pxL81, pxL82, pxL83, pxL84, pxL85, pxL86, pxL87, pxL88, pxL89, pxL90, pxL91, pxL92, pxL93, pxL94, pxL95, pxL96, pxL97, pxL98, pxL99, pxL100, pxL101, pxL102, pxL103, pxL104, pxL105, pxL106, pxL107, pxL108, pxL109, pxL110, pxL111, pxL112, pxL113, pxL114, pxL115, pxL116, pxL117, pxL118, pxL119, pxL120, pxL121, pxL122, pxL123, pxL124, pxL125, pxL126, pxL200, pxL240, pxL287, pxL388, pxL400, pxL429, pxL431, pxL440, pxL1240, pxL1600, pxL1681, pxL12028, pxL13849, pxL14880, pxL25173, pxL26908, pxL49600, pxL65535, pxL65536, ↓reduceIte, pxJ_add, pxJ_sub, pxJ_mul, pxJ_neg, pxD_lt_t, pxD_lt_f, pxD_le_t, pxD_le_f, pxD_eq_t, pxD_eq_f, pxJ_lt, pxJ_le, pxJ_eq, px_gI, px_gR, px_pI, px_rc, px_ai, px_ar, px_si, px_ln, px_cp, pxJ_div, pxJ_b8, pxJ_byte, px_b2, px_bs, px_rb0, px_rb1, px_min, px_max, px_compare, pxW_some, jw_t_I, px_cpt, jw_r_I, px_cpr, jw_l_I, px_cpl, Option.some.injEq, e, hc]
  · simp (disch := first | assumption | omega | (simp only [jw_t_I, px_cpt]; done) | (simp only [jw_t_I, px_cpt]; omega)) only [pxL0, pxL1, pxL2, pxL3, pxL4, pxL5, pxL6, pxL7, pxL8, pxL9, pxL10, pxL11, pxL12, pxL13, pxL14, pxL15, pxL16, pxL17, pxL18, pxL19, pxL20, pxL21, pxL22, pxL23, pxL24, pxL25, pxL26, pxL27, pxL28, pxL29, pxL30, pxL31, pxL32, pxL33, pxL34, pxL35, pxL36, pxL37, pxL38, pxL39, pxL40, pxL41, pxL42, pxL43, pxL44, pxL45, pxL46, pxL47, pxL48, pxL49, pxL51, pxL57, pxL58, pxL59, pxL60, pxL61, pxL62, pxL63, pxL64, pxL65, pxL66, pxL67, pxL68, pxL69, pxL70, pxL71, pxL72, pxL73, pxL74, pxL75, pxL76, pxL77, pxL78, pxL79, pxL80, pxL81, pxL82, pxL83, pxL84, pxL85, pxL86, pxL87, pxL88, pxL89, pxL90, pxL91, pxL92, pxL93, pxL94, pxL95, pxL96, pxL97, pxL98, pxL99, pxL100, pxL101, pxL102, pxL103, pxL104, pxL105, pxL106, pxL107, pxL108, pxL109, pxL110, pxL111, pxL112, pxL113, pxL114, pxL115, pxL116, pxL117, pxL118, pxL119, pxL120, pxL121, pxL122, pxL123, pxL124, pxL125, pxL126, pxL200, pxL240, pxL287, pxL388, pxL400, pxL429, pxL431, pxL440, pxL1240, pxL1600, pxL1681, pxL12028, pxL13849, pxL14880, pxL25173, pxL26908, pxL49600, pxL65535, pxL65536, ↓reduceIte, pxJ_add, pxJ_sub, pxJ_mul, pxJ_neg, pxD_lt_t, pxD_lt_f, pxD_le_t, pxD_le_f, pxD_eq_t, pxD_eq_f, pxJ_lt, pxJ_le, pxJ_eq, px_gI, px_gR, px_pI, px_rc, px_ai, px_ar, px_si, px_ln, px_cp, pxJ_div, pxJ_b8, pxJ_byte, px_b2, px_bs, px_rb0, px_rb1, px_min, px_max, px_compare, pxW_some, jw_t_I, px_cpt, jw_r_I, px_cpr, jw_l_I, px_cpl, Option.some.injEq, e, hc, s_X9_numberOf H r.1 r.2]
theorem s_X9_setMark (H : pxIT h t ls mk now nx) {k id : Int} (h1 : 0 ≤ k) (h2 : k < 5) (hi1 : -2147483648 ≤ id) (hi2 : id ≤ 2147483647) : pxW (f_X9_setMark h t (pxJ k) (pxJ id)) fun _ h' => pxF (pxC t (t + 5)) h h' ∧ pxIT h' t ls (fun j => if j = k then id else mk j) now nx := by
  obtain ⟨⟨t0, r0, r1, r2, t4, t5⟩, R, ci, cm, n3, n4⟩ := H
  unfold f_X9_setMark
  simp (disch := first | assumption | omega | (simp only [jw_t_I, px_cpt, t5]; done) | (simp only [jw_t_I, px_cpt, t5]; omega)) only [pxL0, pxL1, pxL2, pxL3, pxL4, pxL5, pxL6, pxL7, pxL8, pxL9, pxL10, pxL11, pxL12, pxL13, pxL14, pxL15, pxL16, pxL17, pxL18, pxL19, pxL20, pxL21, pxL22, pxL23, pxL24, pxL25, pxL26, pxL27, pxL28, pxL29, pxL30, pxL31, pxL32, pxL33, pxL34, pxL35, pxL36, pxL37, pxL38, pxL39, pxL40, pxL41, pxL42, pxL43, pxL44, pxL45, pxL46, pxL47, pxL48, pxL49, pxL51, pxL57, pxL58, pxL59, pxL60, pxL61, pxL62, pxL63, pxL64, pxL65, pxL66, pxL67, pxL68, pxL69, pxL70, pxL71, pxL72, pxL73, pxL74, pxL75, pxL76, pxL77, pxL78, pxL79, pxL80, pxL81, pxL82, pxL83, pxL84, pxL85, pxL86, pxL87, pxL88, pxL89, pxL90, pxL91, pxL92, pxL93, pxL94, pxL95, pxL96, pxL97, pxL98, pxL99, pxL100, pxL101, pxL102, pxL103, pxL104, pxL105, pxL106, pxL107, pxL108, pxL109, pxL110, pxL111, pxL112, pxL113, pxL114, pxL115, pxL116, pxL117, pxL118, pxL119, pxL120, pxL121, pxL122, pxL123, pxL124, pxL125, pxL126, pxL200, pxL240, pxL287, pxL388, pxL400, pxL429, pxL431, pxL440, pxL1240, pxL1600, pxL1681, pxL12028, pxL13849, pxL14880, pxL25173, pxL26908, pxL49600, pxL65535, pxL65536, ↓reduceIte, pxJ_add, pxJ_sub, pxJ_mul, pxJ_neg, pxD_lt_t, pxD_lt_f, pxD_le_t, pxD_le_f, pxD_eq_t, pxD_eq_f, pxJ_lt, pxJ_le, pxJ_eq, px_gI, px_gR, px_pI, px_rc, px_ai, px_ar, px_si, px_ln, px_cp, pxJ_div, pxJ_b8, pxJ_byte, px_b2, px_bs, px_rb0, px_rb1, px_min, px_max, px_compare, pxW_some, jw_t_I, px_cpt, jw_r_I, px_cpr, jw_l_I, px_cpl, Option.some.injEq, t5, r2]
  have F : pxF (fun a b => a = t + 5) h (jw_setI h (t + 5) k.toNat (pxJ id)) := pxF.setI rfl
  refine ⟨F.mono (fun a b e => by unfold pxC; omega), ⟨t0, r0, r1, r2, t4, t5⟩, R.fr F (fun a b _ _ => by omega), fun x x1 x2 => by rw [F.m (by omega)]; exact ci x x1 x2, fun j j1 j2 => ?_, by rw [F.m (by omega)]; exact n3, by rw [F.m (by omega)]; exact n4⟩
  dsimp only
  by_cases hj : j = k
  · subst hj; rw [if_pos rfl, pxM_eq hi1 hi2]
  · rw [if_neg hj, pxM_ne (by omega)]; exact cm j j1 j2
theorem s_X9_dropMarks_b2 {id : Int} (hi1 : -2147483648 ≤ id) (hi2 : id ≤ 2147483647) : ∀ (m N : Nat) (h : jw_H) (mk : Int → Int) (x : Int), x + m = 5 → 0 ≤ x → m < N → pxIT h t ls mk now nx →
    pxW (f_X9_dropMarks_b2 N h t (pxJ id) (pxJ x)) fun _ h' => pxF (pxC t (t + 5)) h h' ∧ pxIT h' t ls (fun j => if x ≤ j then pxDm mk id j else mk j) now nx := by
  intro m
  induction m with
  | zero =>
    intro N h mk x hx h0 hN H
    obtain ⟨N, rfl, -⟩ := px_fu hN
    rw [u_X9_dropMarks_b2]
    obtain ⟨⟨t0, r0, r1, r2, t4, t5⟩, R, ci, cm, n3, n4⟩ := H
    unfold g_X9_dropMarks_b2
    simp (disch := first | assumption | omega | (simp only [jw_t_I, px_cpt, t5]; done) | (simp only [jw_t_I, px_cpt, t5]; omega)) only [pxL0, pxL1, pxL2, pxL3, pxL4, pxL5, pxL6, pxL7, pxL8, pxL9, pxL10, pxL11, pxL12, pxL13, pxL14, pxL15, pxL16, pxL17, pxL18, pxL19, pxL20, pxL21, pxL22, pxL23, pxL24, pxL25, pxL26, pxL27, pxL28, pxL29, pxL30, pxL31, pxL32, pxL33, pxL34, pxL35, pxL36, pxL37, pxL38, pxL39, pxL40, pxL41, pxL42, pxL43, pxL44, pxL45, pxL46, pxL47, pxL48, pxL49, pxL51, pxL57, pxL58, pxL59, pxL60, pxL61, pxL62, pxL63, pxL64, pxL65, pxL66, pxL67, pxL68, pxL69, pxL70, pxL71, pxL72, pxL73, pxL74, pxL75, pxL76, pxL77, pxL78, pxL79, pxL80, pxL81, pxL82, pxL83, pxL84, pxL85, pxL86, pxL87, pxL88, pxL89, pxL90, pxL91, pxL92, pxL93, pxL94, pxL95, pxL96, pxL97, pxL98, pxL99, pxL100, pxL101, pxL102, pxL103, pxL104, pxL105, pxL106, pxL107, pxL108, pxL109, pxL110, pxL111, pxL112, pxL113, pxL114, pxL115, pxL116, pxL117, pxL118, pxL119, pxL120, pxL121, pxL122, pxL123, pxL124, pxL125, pxL126, pxL200, pxL240, pxL287, pxL388, pxL400, pxL429, pxL431, pxL440, pxL1240, pxL1600, pxL1681, pxL12028, pxL13849, pxL14880, pxL25173, pxL26908, pxL49600, pxL65535, pxL65536, ↓reduceIte, pxJ_add, pxJ_sub, pxJ_mul, pxJ_neg, pxD_lt_t, pxD_lt_f, pxD_le_t, pxD_le_f, pxD_eq_t, pxD_eq_f, pxJ_lt, pxJ_le, pxJ_eq, px_gI, px_gR, px_pI, px_rc, px_ai, px_ar, px_si, px_ln, px_cp, pxJ_div, pxJ_b8, pxJ_byte, px_b2, px_bs, px_rb0, px_rb1, px_min, px_max, px_compare, pxW_some, jw_t_I, px_cpt, jw_r_I, px_cpr, jw_l_I, px_cpl, Option.some.injEq, t5, r2]
    refine ⟨pxF.rfl, ⟨t0, r0, r1, r2, t4, t5⟩, R, ci, fun j j1 j2 => ?_, n3, n4⟩
    dsimp only
    rw [if_neg (by omega)]; exact cm j j1 j2
  | succ m ih =>
    intro N h mk x hx h0 hN H
    obtain ⟨N, rfl, hN⟩ := px_fu hN
    rw [u_X9_dropMarks_b2]
    have H' := H
    have r := H.mkr h0 (by omega)
    obtain ⟨⟨t0, r0, r1, r2, t4, t5⟩, R, ci, cm, n3, n4⟩ := H
    unfold g_X9_dropMarks_b2 g_X9_dropMarks_b28
    by_cases hc : mk x = id
    · simp (disch := first | assumption | omega | (simp only [jw_t_I, px_cpt, t5]; done) | (simp only [jw_t_I, px_cpt, t5]; omega)) only [pxL0, pxL1, pxL2, pxL3, pxL4, pxL5, pxL6, pxL7, pxL8, pxL9, pxL10, pxL11, pxL12, pxL13, pxL14, pxL15, pxL16, pxL17, pxL18, pxL19, pxL20, pxL21, pxL22, pxL23, pxL24, pxL25, pxL26, pxL27, pxL28, pxL29, pxL30, pxL31, pxL32, pxL33, pxL34, pxL35, pxL36, pxL37, pxL38, pxL39, pxL40, pxL41, pxL42, pxL43, pxL44, pxL45, pxL46, pxL47, pxL48, pxL49, pxL51, pxL57, pxL58, pxL59, pxL60, pxL61, pxL62, pxL63, pxL64, pxL65, pxL66, pxL67, pxL68, pxL69, pxL70, pxL71, pxL72, pxL73, pxL74, pxL75, pxL76, pxL77, pxL78, pxL79, pxL80, pxL81, pxL82, pxL83, pxL84, pxL85, pxL86, pxL87, pxL88, pxL89, pxL90, pxL91, pxL92, pxL93, pxL94, pxL95, pxL96, pxL97, pxL98, pxL99, pxL100, pxL101, pxL102, pxL103, pxL104, pxL105, pxL106, pxL107, pxL108, pxL109, pxL110, pxL111, pxL112, pxL113, pxL114, pxL115, pxL116, pxL117, pxL118, pxL119, pxL120, pxL121, pxL122, pxL123, pxL124, pxL125, pxL126, pxL200, pxL240, pxL287, pxL388, pxL400, pxL429, pxL431, pxL440, pxL1240, pxL1600, pxL1681, pxL12028, pxL13849, pxL14880, pxL25173, pxL26908, pxL49600, pxL65535, pxL65536, ↓reduceIte, pxJ_add, pxJ_sub, pxJ_mul, pxJ_neg, pxD_lt_t, pxD_lt_f, pxD_le_t, pxD_le_f, pxD_eq_t, pxD_eq_f, pxJ_lt, pxJ_le, pxJ_eq, px_gI, px_gR, px_pI, px_rc, px_ai, px_ar, px_si, px_ln, px_cp, pxJ_div, pxJ_b8, pxJ_byte, px_b2, px_bs, px_rb0, px_rb1, px_min, px_max, px_compare, pxW_some, jw_t_I, px_cpt, jw_r_I, px_cpr, jw_l_I, px_cpl, Option.some.injEq, t5, r2, cm x h0 (by omega)]
      have F : pxF (fun a b => a = t + 5) h (jw_setI h (t + 5) x.toNat (pxJ (-1))) := pxF.setI rfl
      have H1 : pxIT (jw_setI h (t + 5) x.toNat (pxJ (-1))) t ls (fun j => if j = x then -1 else mk j) now nx := by
        refine ⟨⟨t0, r0, r1, r2, t4, t5⟩, R.fr F (fun a b _ _ => by omega), fun x x1 x2 => by rw [F.m (by omega)]; exact ci x x1 x2, fun j j1 j2 => ?_, by rw [F.m (by omega)]; exact n3, by rw [F.m (by omega)]; exact n4⟩
        dsimp only
        by_cases hj : j = x
        · subst hj; rw [if_pos rfl, pxM_eq (by omega) (by omega)]
        · rw [if_neg hj, pxM_ne (by omega)]; exact cm j j1 j2
      refine (ih N _ _ (x + 1) (by omega) (by omega) (by omega) H1).mono fun _ h' q => ⟨(F.mono (fun a b e => by unfold pxC; omega)).trans q.1, ?_⟩
      have e : (fun j => if x + 1 ≤ j then pxDm (fun j => if j = x then -1 else mk j) id j else if j = x then -1 else mk j) = fun j => if x ≤ j then pxDm mk id j else mk j := by
        funext j
        unfold pxDm
        by_cases hj : j = x
        · subst hj; rw [if_neg (by omega), if_pos rfl, if_pos (by omega), if_pos hc]
        · simp only [if_neg hj]
          by_cases h2 : x ≤ j
          · rw [if_pos (by omega), if_pos h2]
          · rw [if_neg (by omega), if_neg h2]
      rw [e] at q
      exact q.2
    · simp (disch := first | assumption | omega | (simp only [jw_t_I, px_cpt, t5]; done) | (simp only [jw_t_I, px_cpt, t5]; omega)) only [pxL0, pxL1, pxL2, pxL3, pxL4, pxL5, pxL6, pxL7, pxL8, pxL9, pxL10, pxL11, pxL12, pxL13, pxL14, pxL15, pxL16, pxL17, pxL18, pxL19, pxL20, pxL21, pxL22, pxL23, pxL24, pxL25, pxL26, pxL27, pxL28, pxL29, pxL30, pxL31, pxL32, pxL33, pxL34, pxL35, pxL36, pxL37, pxL38, pxL39, pxL40, pxL41, pxL42, pxL43, pxL44, pxL45, pxL46, pxL47, pxL48, pxL49, pxL51, pxL57, pxL58, pxL59, pxL60, pxL61, pxL62, pxL63, pxL64, pxL65, pxL66, pxL67, pxL68, pxL69, pxL70, pxL71, pxL72, pxL73, pxL74, pxL75, pxL76, pxL77, pxL78, pxL79, pxL80, pxL81, pxL82, pxL83, pxL84, pxL85, pxL86, pxL87, pxL88, pxL89, pxL90, pxL91, pxL92, pxL93, pxL94, pxL95, pxL96, pxL97, pxL98, pxL99, pxL100, pxL101, pxL102, pxL103, pxL104, pxL105, pxL106, pxL107, pxL108, pxL109, pxL110, pxL111, pxL112, pxL113, pxL114, pxL115, pxL116, pxL117, pxL118, pxL119, pxL120, pxL121, pxL122, pxL123, pxL124, pxL125, pxL126, pxL200, pxL240, pxL287, pxL388, pxL400, pxL429, pxL431, pxL440, pxL1240, pxL1600, pxL1681, pxL12028, pxL13849, pxL14880, pxL25173, pxL26908, pxL49600, pxL65535, pxL65536, ↓reduceIte, pxJ_add, pxJ_sub, pxJ_mul, pxJ_neg, pxD_lt_t, pxD_lt_f, pxD_le_t, pxD_le_f, pxD_eq_t, pxD_eq_f, pxJ_lt, pxJ_le, pxJ_eq, px_gI, px_gR, px_pI, px_rc, px_ai, px_ar, px_si, px_ln, px_cp, pxJ_div, pxJ_b8, pxJ_byte, px_b2, px_bs, px_rb0, px_rb1, px_min, px_max, px_compare, pxW_some, jw_t_I, px_cpt, jw_r_I, px_cpr, jw_l_I, px_cpl, Option.some.injEq, t5, r2, cm x h0 (by omega)]
      refine (ih N _ _ (x + 1) (by omega) (by omega) (by omega) H').mono fun _ h' q => ⟨q.1, ?_⟩
      have e : (fun j => if x + 1 ≤ j then pxDm mk id j else mk j) = fun j => if x ≤ j then pxDm mk id j else mk j := by
        funext j
        unfold pxDm
        by_cases hj : j = x
        · subst hj; rw [if_neg (by omega), if_pos (by omega), if_neg hc]
        · by_cases h2 : x ≤ j
          · rw [if_pos (by omega), if_pos h2]
          · rw [if_neg (by omega), if_neg h2]
      rw [e] at q
      exact q.2
theorem pxIT.cg (H : pxIT h t ls mk now nx) {mk' : Int → Int} (e : ∀ k, 0 ≤ k → k < 5 → mk k = mk' k) : pxIT h t ls mk' now nx :=
  ⟨H.1, H.2.1, H.2.2.1, fun k k1 k2 => by rw [H.2.2.2.1 k k1 k2]; exact e k k1 k2, H.2.2.2.2⟩
theorem s_X9_dropMarks (H : pxIT h t ls mk now nx) {id : Int} (hi1 : -2147483648 ≤ id) (hi2 : id ≤ 2147483647) : pxW (f_X9_dropMarks h t (pxJ id)) fun _ h' => pxF (pxC t (t + 5)) h h' ∧ pxIT h' t ls (pxDm mk id) now nx := by
  unfold f_X9_dropMarks
  exact (s_X9_dropMarks_b2 hi1 hi2 5 jw_FU h mk 0 (by omega) (by omega) (by unfold jw_FU; omega) H).mono fun _ h' q => ⟨q.1, q.2.cg (fun k k1 k2 => if_pos k1)⟩
end
