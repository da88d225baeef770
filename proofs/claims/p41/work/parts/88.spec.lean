/-! what acts do to a text and what is stored -/
abbrev pxTx := pxLs × (Int → Int) × Int × Int
abbrev pxSto := List (List Int) × List (List Int) × (Int → List (List Int))
/-- rows as new lines -/
def pxNewR : Int → List (List Int) → pxLs
  | _, [] => []
  | n, r :: rs => (n, r) :: pxNewR (n + 1) rs
def pxSpBring (goes : Bool) (x f l : Int) (rows : List (List Int)) (T : pxTx) : Int × pxTx :=
  if 40 < (T.1.length : Int) - (if goes = true then l - f + 1 else 0) + rows.length then (4, T)
  else (0, (pxIns (if goes = true then pxDel T.1 f (l - f + 1) else T.1) x (pxNewR T.2.2.2 rows), (if goes = true then pxDms T.2.1 (pxSub T.1 f l) else T.2.1), x + rows.length - 1, T.2.2.2 + rows.length))
def pxSpDel (f l : Int) (T : pxTx) : pxTx := (pxDel T.1 f (l - f + 1), pxDms T.2.1 (pxSub T.1 f l), min f ((T.1.length : Int) - (l - f + 1)), T.2.2.2)
def pxCat (rs : List (List Int)) : Nat → Int → List Int
  | 0, _ => []
  | m + 1, x => pxRw rs x ++ pxCat rs m (x + 1)
def pxJoE (f l : Int) : Int := if f = l then l + 1 else l
def pxJoW (f l : Int) (ls : pxLs) : List Int := pxCat (pxRs ls) (pxJoE f l - f + 1).toNat f
def pxSpJoin (f l : Int) (T : pxTx) : Int × pxTx :=
  if (T.1.length : Int) < pxJoE f l then (1, T) else if 30 < (pxJoW f l T.1).length then (4, T)
  else (0, (pxDel (pxSet T.1 f (pxId T.1 f, pxJoW f l T.1)) (f + 1) (pxJoE f l - f), pxDms T.2.1 (pxSub T.1 (f + 1) (pxJoE f l)), f, T.2.2.2))
def pxPart (n : Int) : Nat → Int → pxLs → Int → Option (pxLs × Int × Int)
  | 0, x, ls, nx => some (ls, nx, x)
  | m + 1, x, ls, nx => if pxLn (pxRs ls) x ≤ n then pxPart n m (x + 1) ls nx else if 40 ≤ ls.length then none
    else pxPart n m (x + 2) (pxIns (pxSet ls x (pxId ls x, (pxRw (pxRs ls) x).take n.toNat)) (x + 1) [(nx, (pxRw (pxRs ls) x).drop n.toNat)]) (nx + 1)
def pxSpPart (n f l : Int) (T : pxTx) : Int × pxTx :=
  (pxPart n (l - f + 1).toNat f T.1 T.2.2.2).elim (4, T) (fun v => (0, (v.1, T.2.1, v.2.2 - 1, v.2.1)))
def pxUniq : Nat → Int → pxLs → (Int → Int) → pxLs × (Int → Int) × Int
  | 0, x, ls, mm => (ls, mm, x)
  | m + 1, x, ls, mm => if pxRw (pxRs ls) x = pxRw (pxRs ls) (x - 1) then pxUniq m x (pxDel ls x 1) (pxDm mm (pxId ls x)) else pxUniq m (x + 1) ls mm
def pxSpUniq (f l : Int) (T : pxTx) : pxTx := ((pxUniq (l - f).toNat (f + 1) T.1 T.2.1).1, (pxUniq (l - f).toNat (f + 1) T.1 T.2.1).2.1, (pxUniq (l - f).toNat (f + 1) T.1 T.2.1).2.2 - 1, T.2.2.2)
def pxMoA (f l t : Int) : Int := if t < f then t + 1 else t - (l - f + 1) + 1
def pxSpMove (f l t : Int) (T : pxTx) : Int × pxTx :=
  if t < 0 then (-t, T) else if f ≤ t ∧ t < l then (1, T)
  else (0, (pxIns (pxDel T.1 f (l - f + 1)) (pxMoA f l t) (pxSub T.1 f l), T.2.1, pxMoA f l t + (l - f + 1) - 1, T.2.2.2))
def pxSpCopy (f l t : Int) (T : pxTx) : Int × pxTx :=
  if t < 0 then (-t, T) else if 40 < (T.1.length : Int) + (l - f + 1) then (4, T)
  else (0, (pxIns T.1 (t + 1) (pxNewR T.2.2.2 (pxSub (pxRs T.1) f l)), T.2.1, t + (l - f + 1), T.2.2.2 + (l - f + 1)))
/-- whether two neighbours stand in the wrong order -/
def pxWrong (place : Int) (fall : Bool) (a b : List Int) : Bool := if fall = true then decide (pxCmp (a.drop place.toNat) (b.drop place.toNat) < 0) else decide (0 < pxCmp (a.drop place.toNat) (b.drop place.toNat))
def pxSwap {α : Type} (d : α) (ls : List α) (x : Int) : List α := pxSet (pxSet ls x (pxG d ls (x - 1))) (x - 1) (pxG d ls x)
def pxSift (place : Int) (fall : Bool) : Nat → Int → pxLs → pxLs
  | 0, _, ls => ls
  | m + 1, x, ls => if pxWrong place fall (pxAt ls (x - 1)).2 (pxAt ls x).2 = true then pxSift place fall m (x - 1) (pxSwap (0, []) ls x) else ls
def pxSort (place : Int) (fall : Bool) (f : Int) : Nat → Int → pxLs → pxLs
  | 0, _, ls => ls
  | m + 1, x, ls => pxSort place fall f m (x + 1) (pxSift place fall (x - f).toNat x ls)
def pxSpSort (place : Int) (fall : Bool) (f l : Int) (T : pxTx) : pxTx := (pxSort place fall f (l - f).toNat (f + 1) T.1, T.2.1, l, T.2.2.2)
/-- lines with other rows -/
def pxReR (ls : pxLs) (rs : List (List Int)) : pxLs := (ls.map (·.1)).zip rs
def pxUF (fl : Int → List (List Int)) (k : Int) (rs : List (List Int)) : Int → List (List Int) := fun j => if j = k then rs else fl j
theorem pxG_mapi {α β : Type} {d : α} {e : β} {f : α → β} {l : List α} {x : Int} (x1 : 1 ≤ x) (x2 : x ≤ l.length) : pxG e (l.map f) x = f (pxG d l x) := by
  unfold pxG
  rw [List.getD_eq_getElem?_getD, List.getD_eq_getElem?_getD, List.getElem?_map, List.getElem?_eq_getElem (show (x - 1).toNat < l.length by omega)]
  rfl
section
variable {h h' : jw_H} {t : Nat} {ls : pxLs} {mk : Int → Int} {now nx : Int}
theorem pxIT.rows {P : Nat → Nat → Prop} (H : pxIT h t ls mk now nx) (F : pxF P h h') (hP : ∀ k f, (k = t ∨ k = t + 4 ∨ k = t + 5) → ¬ P k f) {ls' : pxLs} (R : pxIR h' (t + 1) 40 (pxRs ls')) (hl : ls'.length = ls.length) (hi : ∀ x : Int, 1 ≤ x → x ≤ ls.length → pxId ls' x = pxId ls x) : pxIT h' t ls' mk now nx := by
  obtain ⟨S, R0, ci, cm, n3, n4⟩ := H
  refine ⟨S.fr F (fun f _ => hP _ _ (by omega)), R, fun x x1 x2 => ?_, fun k k1 k2 => ?_, ?_, ?_⟩
  · rw [F.m (hP _ _ (by omega)), hi x x1 (by omega)]; exact ci x x1 (by omega)
  · rw [F.m (hP _ _ (by omega))]; exact cm k k1 k2
  · rw [F.m (hP _ _ (by omega))]; exact n3
  · rw [F.m (hP _ _ (by omega))]; exact n4
theorem pxRs_set {x : Int} {a : Int × List Int} : pxRs (pxSet ls x a) = pxSet (pxRs ls) x a.2 := by
  unfold pxRs pxSet; exact List.map_set
theorem pxIT.row1 (H : pxIT h t ls mk now nx) (F : pxF (pxC (t + 1) (t + 3)) h h') {x : Int} {r : List Int} (x1 : 1 ≤ x) (x2 : x ≤ ls.length) (R : pxIR h' (t + 1) 40 (pxSet (pxRs ls) x r)) : pxIT h' t (pxSet ls x (pxId ls x, r)) mk now nx := by
  refine H.rows F (fun k f z => by unfold pxC; omega) (by rw [pxRs_set]; exact R) (by rw [pxSet_len]) (fun y y1 y2 => ?_)
  unfold pxId pxAt
  by_cases e : y = x
  · subst e; rw [pxG_setE y1 y2]
  · rw [pxG_setN x1 y1 e]
theorem pxIT.id1 (H : pxIT h t ls mk now nx) {x id : Int} (x1 : 1 ≤ x) (x2 : x ≤ ls.length) (i1 : -2147483648 ≤ id) (i2 : id ≤ 2147483647) : pxIT (jw_setI h (t + 4) (x - 1).toNat (pxJ id)) t (pxSet ls x (id, (pxAt ls x).2)) mk now nx := by
  have F : pxF (fun k f => k = t + 4 ∧ f = (x - 1).toNat) h (jw_setI h (t + 4) (x - 1).toNat (pxJ id)) := pxF.setI ⟨rfl, rfl⟩
  obtain ⟨S, R0, ci, cm, n3, n4⟩ := H
  have eR : pxRs (pxSet ls x (id, (pxAt ls x).2)) = pxRs ls := by
    rw [pxRs_set]
    have : (pxAt ls x).2 = pxRw (pxRs ls) x := (pxRs_at ls x).symm
    show pxSet (pxRs ls) x (pxAt ls x).2 = _
    rw [this]
    exact pxSet_id (by rw [pxRs_len]; exact x2)
  refine ⟨S.fr F (fun f _ => by omega), ?_, fun y y1 y2 => ?_, fun k k1 k2 => ?_, ?_, ?_⟩
  · rw [eR]; exact R0.fr F (fun k f _ _ => by omega)
  · rw [pxSet_len] at y2
    unfold pxId pxAt
    by_cases e : y = x
    · subst e; rw [pxG_setE y1 y2, pxM_eq i1 i2]
    · rw [pxG_setN x1 y1 e, pxM_ne (by omega)]; exact ci y y1 y2
  · rw [F.m (by omega)]; exact cm k k1 k2
  · rw [F.m (by omega)]; exact n3
  · rw [F.m (by omega)]; exact n4
theorem pxIT.now3 (H : pxIT h t ls mk now nx) {v : Int} (v1 : -2147483648 ≤ v) (v2 : v ≤ 2147483647) : pxIT (jw_setI h t 3 (pxJ v)) t ls mk v nx := by
  have F : pxF (fun k f => k = t ∧ f = 3) h (jw_setI h t 3 (pxJ v)) := pxF.setI ⟨rfl, rfl⟩
  obtain ⟨S, R0, ci, cm, n3, n4⟩ := H
  exact ⟨S.fr F (fun f _ => by omega), R0.fr F (fun k f _ _ => by omega), fun x x1 x2 => by rw [F.m (by omega)]; exact ci x x1 x2, fun k k1 k2 => by rw [F.m (by omega)]; exact cm k k1 k2, pxM_eq v1 v2, by rw [F.m (by omega)]; exact n4⟩
theorem pxIT.nxt4 (H : pxIT h t ls mk now nx) {v : Int} (v1 : -2147483648 ≤ v) (v2 : v ≤ 2147483647) : pxIT (jw_setI h t 4 (pxJ v)) t ls mk now v := by
  have F : pxF (fun k f => k = t ∧ f = 4) h (jw_setI h t 4 (pxJ v)) := pxF.setI ⟨rfl, rfl⟩
  obtain ⟨S, R0, ci, cm, n3, n4⟩ := H
  exact ⟨S.fr F (fun f _ => by omega), R0.fr F (fun k f _ _ => by omega), fun x x1 x2 => by rw [F.m (by omega)]; exact ci x x1 x2, fun k k1 k2 => by rw [F.m (by omega)]; exact cm k k1 k2, by rw [F.m (by omega)]; exact n3, pxM_eq v1 v2⟩
theorem pxNewR_len : ∀ (rows : List (List Int)) (n : Int), (pxNewR n rows).length = rows.length
  | [], _ => rfl
  | _ :: rs, n => by show (pxNewR (n + 1) rs).length + 1 = rs.length + 1; rw [pxNewR_len rs]
theorem pxNewR_rs : ∀ (rows : List (List Int)) (n : Int), pxRs (pxNewR n rows) = rows
  | [], _ => rfl
  | r :: rs, n => by show r :: pxRs (pxNewR (n + 1) rs) = r :: rs; rw [pxNewR_rs rs]
theorem pxNewR_at : ∀ (rows : List (List Int)) (n x : Int), 1 ≤ x → x ≤ rows.length → pxAt (pxNewR n rows) x = (n + x - 1, pxRw rows x)
  | [], _, x, h1, h2 => by simp at h2; omega
  | r :: rs, n, x, h1, h2 => by
    by_cases e : x = 1
    · subst e
      show (n, r) = (n + 1 - 1, r)
      rw [show n + 1 - 1 = n by omega]
    · have := pxNewR_at rs (n + 1) (x - 1) (by omega) (by simp at h2; omega)
      unfold pxAt pxRw pxG at this ⊢
      have e1 : (x - 1).toNat = (x - 1 - 1).toNat + 1 := by omega
      show (((n, r) :: pxNewR (n + 1) rs).getD (x - 1).toNat (0, [])) = (n + x - 1, ((r :: rs).getD (x - 1).toNat []))
      rw [e1, List.getD_cons_succ, List.getD_cons_succ, this, show n + 1 + (x - 1) - 1 = n + x - 1 by omega]
/-- lines put in order by their numbers -/
theorem s_X9_arrange_b7 {sp ν : Nat} {num : List Int} {mk2 : Int → Int} {now2 nx2 : Int} (hd : sp + 5 < t ∨ t + 5 < sp) (hv : ν < t ∨ t + 5 < ν) (nl : num.length = ls.length) (nb : ∀ x : Int, 1 ≤ x → x ≤ ls.length → 1 ≤ pxG 0 num x ∧ pxG 0 num x ≤ ls.length) : ∀ (m N : Nat) (h : jw_H) (x : Int), x + m = ls.length + 1 → m < N → 1 ≤ x → pxIT h t ((num.take (x - 1).toNat).map (pxAt ls) ++ ls.drop (x - 1).toNat) mk now nx → pxIT h sp ls mk2 now2 nx2 → jw_t h ν = (20, 40) → (∀ y : Int, 1 ≤ y → y ≤ ls.length → pxM h ν (y - 1).toNat = pxG 0 num y) →
    pxW (f_X9_arrange_b7 N h t (some ν) (some sp) (pxJ x)) fun _ h' => pxF (pxC t (t + 5)) h h' ∧ pxIT h' t (num.map (pxAt ls)) mk now nx := by
  intro m
  induction m with
  | zero =>
    intro N h x em hN x1 H Hs tv mv
    obtain ⟨N, rfl, hN⟩ := px_fu hN
    have hl := Hs.len
    have r0 := H.1.2.1
    have t9 := H.1.1
    have t7 := H.2.1.1.1
    have c2 := H.c2
    have el : ((num.take (x - 1).toNat).map (pxAt ls) ++ ls.drop (x - 1).toNat).length = ls.length := by
      rw [List.length_append, List.length_map, List.length_take, List.length_drop]; omega
    have e : (num.take (x - 1).toNat).map (pxAt ls) ++ ls.drop (x - 1).toNat = num.map (pxAt ls) := by
      rw [List.drop_of_length_le (by omega), List.append_nil, List.take_of_length_le (by omega)]
    rw [el] at c2
    rw [e] at H
    rw [u_X9_arrange_b7]
    unfold g_X9_arrange_b7
    simp (maxSteps := 4000000) (disch := first | assumption | omega | (simp only [jw_t_I, px_cpt]; done) | (simp only [jw_t_I, px_cpt]; omega)) only [pxL0, pxL1, pxL2, pxL3, pxL4, pxL5, pxL6, pxL7, pxL8, pxL9, pxL10, pxL11, pxL12, pxL13, pxL14, pxL15, pxL16, pxL17, pxL18, pxL19, pxL20, pxL21, pxL22, pxL23, pxL24, pxL25, pxL26, pxL27, pxL28, pxL29, pxL30, pxL31, pxL32, pxL33, pxL34, pxL35, pxL36, pxL37, pxL38, pxL39, pxL40, pxL41, pxL42, pxL43, pxL44, pxL45, pxL46, pxL47, pxL48, pxL49, pxL51, pxL57, pxL58, pxL59, pxL60, pxL61, pxL62, pxL63, pxL64, pxL65, pxL66, pxL67, pxL68, pxL69, pxL70, pxL71, pxL72, pxL73, pxL74, pxL75, pxL76, pxL77, pxL78, pxL79, pxL80, pxL81, pxL82, pxL83, pxL84, pxL85, pxL86, pxL87, pxL88, pxL89, pxL90, pxL91, pxL92, pxL93, pxL94, pxL95, pxL96, pxL97, pxL98, pxL99, pxL100, pxL101, pxL102, pxL103, pxL104, pxL105, pxL106, pxL107, pxL108, pxL109, pxL110, pxL111, pxL112, pxL113, pxL114, pxL115, pxL116, pxL117, pxL118, pxL119, pxL120, pxL121, pxL122, pxL123, pxL124, pxL125, pxL126, pxL200, pxL240, pxL287, pxL388, pxL400, pxL429, pxL431, pxL440, pxL1240, pxL1600, pxL1681, pxL12028, pxL13849, pxL14880, pxL25173, pxL26908, pxL49600, pxL65535, pxL65536, ↓reduceIte, reduceCtorEq, pxJ_add, pxJ_sub, pxJ_mul, pxJ_neg, pxD_lt_t, pxD_lt_f, pxD_le_t, pxD_le_f, pxD_eq_t, pxD_eq_f, pxJ_lt, pxJ_le, pxJ_eq, px_gI, px_gR, px_pI, px_rc, px_ai, px_ar, px_si, px_ln, px_cp, pxJ_div, pxJ_b8, pxJ_byte, px_b2, px_bs, px_rb0, px_rb1, px_min, px_max, px_compare, pxW_some, jw_t_I, px_cpt, jw_r_I, px_cpr, jw_l_I, px_cpl, Option.some.injEq, r0, t9, t7, c2]
    exact ⟨pxF.rfl, H⟩
  | succ m ih =>
    intro N h x em hN x1 H Hs tv mv
    obtain ⟨N, rfl, hN⟩ := px_fu hN
    have hl := Hs.len
    have r0 := H.1.2.1
    have r1 := H.1.2.2.1
    have t9 := H.1.1
    have t4 := H.1.2.2.2.2.1
    have t7 := H.2.1.1.1
    have c2 := H.c2
    have s0 := Hs.1.2.1
    have t9s := Hs.1.1
    generalize eL : (num.take (x - 1).toNat).map (pxAt ls) ++ ls.drop (x - 1).toNat = cur at H c2
    have el : cur.length = ls.length := by
      rw [← eL, List.length_append, List.length_map, List.length_take, List.length_drop]; omega
    rw [el] at c2
    obtain ⟨nb1, nb2⟩ := nb x x1 (by omega)
    have ln : jw_ln h (some ν) = some (pxJ 40) := by rw [px_ln (by rw [tv]; simp), tv]; rfl
    have ln4 : jw_ln h (some (t + 4)) = some (pxJ 40) := by rw [px_ln (by rw [t4]; simp), t4]; rfl
    have ai : jw_ai h 20 (some ν) (pxJ (x - 1)) = some (pxJ (pxG 0 num x)) := by rw [px_ai (by rw [tv]) (by omega) (by rw [tv]; show x - 1 < ((40 : Nat) : Int); omega) (by omega), mv x x1 (by omega)]
    have K := s_X7_take H.2.1 Hs.2.1 (x := x) (by omega) (by omega) nb1 (by rw [pxRs_len]; exact nb2)
    rw [if_pos (by rw [pxRs_len]; omega)] at K
    rw [u_X9_arrange_b7]
    unfold g_X9_arrange_b7
    simp (maxSteps := 4000000) (disch := first | assumption | omega | (simp only [jw_t_I, px_cpt]; done) | (simp only [jw_t_I, px_cpt]; omega)) only [pxL0, pxL1, pxL2, pxL3, pxL4, pxL5, pxL6, pxL7, pxL8, pxL9, pxL10, pxL11, pxL12, pxL13, pxL14, pxL15, pxL16, pxL17, pxL18, pxL19, pxL20, pxL21, pxL22, pxL23, pxL24, pxL25, pxL26, pxL27, pxL28, pxL29, pxL30, pxL31, pxL32, pxL33, pxL34, pxL35, pxL36, pxL37, pxL38, pxL39, pxL40, pxL41, pxL42, pxL43, pxL44, pxL45, pxL46, pxL47, pxL48, pxL49, pxL51, pxL57, pxL58, pxL59, pxL60, pxL61, pxL62, pxL63, pxL64, pxL65, pxL66, pxL67, pxL68, pxL69, pxL70, pxL71, pxL72, pxL73, pxL74, pxL75, pxL76, pxL77, pxL78, pxL79, pxL80, pxL81, pxL82, pxL83, pxL84, pxL85, pxL86, pxL87, pxL88, pxL89, pxL90, pxL91, pxL92, pxL93, pxL94, pxL95, pxL96, pxL97, pxL98, pxL99, pxL100, pxL101, pxL102, pxL103, pxL104, pxL105, pxL106, pxL107, pxL108, pxL109, pxL110, pxL111, pxL112, pxL113, pxL114, pxL115, pxL116, pxL117, pxL118, pxL119, pxL120, pxL121, pxL122, pxL123, pxL124, pxL125, pxL126, pxL200, pxL240, pxL287, pxL388, pxL400, pxL429, pxL431, pxL440, pxL1240, pxL1600, pxL1681, pxL12028, pxL13849, pxL14880, pxL25173, pxL26908, pxL49600, pxL65535, pxL65536, ↓reduceIte, reduceCtorEq, pxJ_add, pxJ_sub, pxJ_mul, pxJ_neg, pxD_lt_t, pxD_lt_f, pxD_le_t, pxD_le_f, pxD_eq_t, pxD_eq_f, pxJ_lt, pxJ_le, pxJ_eq, px_gI, px_gR, px_pI, px_rc, px_ai, px_ar, px_si, px_ln, px_cp, pxJ_div, pxJ_b8, pxJ_byte, px_b2, px_bs, px_rb0, px_rb1, px_min, px_max, px_compare, pxW_some, jw_t_I, px_cpt, jw_r_I, px_cpr, jw_l_I, px_cpl, Option.some.injEq, r0, t9, t7, c2, ln, r1, ln4, ai, s0, t9s]
    refine pxW_b2 K fun _ h1 k => ?_
    have k1 : pxF (pxC (t + 1) (t + 3)) h h1 := k.1.mono (fun k f z => by unfold pxC at *; omega)
    have H1 := H.row1 k1 x1 (by omega) k.2
    have Hs1 := Hs.fr k1 (fun k f _ _ => by unfold pxC; omega)
    have r11 := H1.1.2.2.1
    have t91 := H1.1.1
    have t41 := H1.1.2.2.2.2.1
    have t9s1 := Hs1.1.1
    have io := s_X9_idOf Hs1 (x := pxG 0 num x) (by omega) (by omega)
    rw [if_pos ⟨nb1, nb2⟩] at io
    have ir := Hs1.idr nb1 nb2
    have H2 := H1.id1 (x := x) (id := pxId ls (pxG 0 num x)) x1 (by rw [pxSet_len]; omega) ir.1 ir.2
    have F2 : pxF (fun k f => k = t + 4 ∧ f = (x - 1).toNat) h1 (jw_setI h1 (t + 4) (x - 1).toNat (pxJ (pxId ls (pxG 0 num x)))) := pxF.setI ⟨rfl, rfl⟩
    have e2 : pxSet (pxSet cur x (pxId cur x, pxRw (pxRs ls) (pxG 0 num x))) x (pxId ls (pxG 0 num x), (pxAt (pxSet cur x (pxId cur x, pxRw (pxRs ls) (pxG 0 num x))) x).2) = (num.take (x + 1 - 1).toNat).map (pxAt ls) ++ ls.drop (x + 1 - 1).toNat := by
      have a1 : (pxAt (pxSet cur x (pxId cur x, pxRw (pxRs ls) (pxG 0 num x))) x).2 = pxRw (pxRs ls) (pxG 0 num x) := by
        unfold pxAt; rw [pxG_setE x1 (by omega)]
      rw [a1, pxRs_at]
      have a2 : (pxId ls (pxG 0 num x), (pxAt ls (pxG 0 num x)).2) = pxAt ls (pxG 0 num x) := rfl
      rw [a2]
      refine pxG_ext (d := (0, [])) ?_ (fun y y1 y2 => ?_)
      · rw [pxSet_len, pxSet_len, List.length_append, List.length_map, List.length_take, List.length_drop]; omega
      · rw [pxSet_len, pxSet_len, el] at y2
        by_cases e : y = x
        · subst e
          rw [pxG_setE y1 (by rw [pxSet_len]; omega), pxG_appL y1 (by rw [List.length_map, List.length_take]; omega), pxG_mapi (d := (0 : Int)) y1 (by rw [List.length_take]; omega), pxG_take y1 (by omega)]
        · rw [pxG_setN x1 y1 e, pxG_setN x1 y1 e, ← eL]
          have lt1 : ((num.take (x - 1).toNat).map (pxAt ls)).length = (x - 1).toNat := by rw [List.length_map, List.length_take]; omega
          have lt2 : ((num.take (x + 1 - 1).toNat).map (pxAt ls)).length = (x + 1 - 1).toNat := by rw [List.length_map, List.length_take]; omega
          by_cases lt : y < x
          · rw [pxG_appL y1 (by omega), pxG_appL y1 (by omega), pxG_mapi (d := (0 : Int)) y1 (by rw [List.length_take]; omega), pxG_mapi (d := (0 : Int)) y1 (by rw [List.length_take]; omega), pxG_take y1 (by omega), pxG_take y1 (by omega)]
          · rw [pxG_appR (by omega), pxG_appR (by omega), lt1, lt2, pxG_drop (by omega) (by omega), pxG_drop (by omega) (by omega)]
            congr 1
            omega
    rw [e2] at H2
    have si : jw_si h1 20 (some (t + 4)) (pxJ (x - 1)) (pxJ (pxId ls (pxG 0 num x))) = some (jw_setI h1 (t + 4) (x - 1).toNat (pxJ (pxId ls (pxG 0 num x)))) := px_si (by rw [t41]) (by omega) (by rw [t41]; show x - 1 < ((40 : Nat) : Int); omega) (by omega)
    simp (maxSteps := 4000000) (disch := first | assumption | omega | (simp only [jw_t_I, px_cpt]; done) | (simp only [jw_t_I, px_cpt]; omega)) only [pxL0, pxL1, pxL2, pxL3, pxL4, pxL5, pxL6, pxL7, pxL8, pxL9, pxL10, pxL11, pxL12, pxL13, pxL14, pxL15, pxL16, pxL17, pxL18, pxL19, pxL20, pxL21, pxL22, pxL23, pxL24, pxL25, pxL26, pxL27, pxL28, pxL29, pxL30, pxL31, pxL32, pxL33, pxL34, pxL35, pxL36, pxL37, pxL38, pxL39, pxL40, pxL41, pxL42, pxL43, pxL44, pxL45, pxL46, pxL47, pxL48, pxL49, pxL51, pxL57, pxL58, pxL59, pxL60, pxL61, pxL62, pxL63, pxL64, pxL65, pxL66, pxL67, pxL68, pxL69, pxL70, pxL71, pxL72, pxL73, pxL74, pxL75, pxL76, pxL77, pxL78, pxL79, pxL80, pxL81, pxL82, pxL83, pxL84, pxL85, pxL86, pxL87, pxL88, pxL89, pxL90, pxL91, pxL92, pxL93, pxL94, pxL95, pxL96, pxL97, pxL98, pxL99, pxL100, pxL101, pxL102, pxL103, pxL104, pxL105, pxL106, pxL107, pxL108, pxL109, pxL110, pxL111, pxL112, pxL113, pxL114, pxL115, pxL116, pxL117, pxL118, pxL119, pxL120, pxL121, pxL122, pxL123, pxL124, pxL125, pxL126, pxL200, pxL240, pxL287, pxL388, pxL400, pxL429, pxL431, pxL440, pxL1240, pxL1600, pxL1681, pxL12028, pxL13849, pxL14880, pxL25173, pxL26908, pxL49600, pxL65535, pxL65536, ↓reduceIte, reduceCtorEq, pxJ_add, pxJ_sub, pxJ_mul, pxJ_neg, pxD_lt_t, pxD_lt_f, pxD_le_t, pxD_le_f, pxD_eq_t, pxD_eq_f, pxJ_lt, pxJ_le, pxJ_eq, px_gI, px_gR, px_pI, px_rc, px_ai, px_ar, px_si, px_ln, px_cp, pxJ_div, pxJ_b8, pxJ_byte, px_b2, px_bs, px_rb0, px_rb1, px_min, px_max, px_compare, pxW_some, jw_t_I, px_cpt, jw_r_I, px_cpr, jw_l_I, px_cpl, Option.some.injEq, r11, t91, t9s1, io, si]
    refine (ih N _ (x + 1) (by omega) (by omega) (by omega) H2 (Hs1.fr F2 (fun k f _ _ => by omega)) (by show jw_t h1 ν = _; rw [k1.t]; exact tv) (fun y y1 y2 => by rw [F2.m (by omega), k1.m (by unfold pxC; omega)]; exact mv y y1 y2)).mono fun _ h' q => ⟨(k1.mono (fun k f z => by unfold pxC at *; omega)).trans ((F2.mono (fun k f z => by unfold pxC; omega)).trans q.1), q.2⟩
end
