/-! orders line by line: the acts -/
def pxWr (W : pxWk) (r : List Int) : pxWk := (W.1, W.2.1, W.2.2.1, W.2.2.2.1, W.2.2.2.2.1, r, W.2.2.2.2.2.2)
def pxWd (W : pxWk) (d : List (List Int)) : pxWk := (W.1, W.2.1, W.2.2.1, W.2.2.2.1, W.2.2.2.2.1, W.2.2.2.2.2.1, d)
def pxWg (W : pxWk) : pxWk := (W.1, W.2.1, W.2.2.1, W.2.2.2.1, true, W.2.2.2.2.2.1, W.2.2.2.2.2.2)
def pxBTell (s : List Int) (p : Int) (W : pxWk) (Fr : pxFh) (S : pxSto) (rep : Bool) : Int × pxBe :=
  if pxP s p = 61 then (if S.2.1.length < 100 then (0, W, Fr, (S.1, S.2.1 ++ [pxDig W.2.1], S.2.2), rep) else (4, W, Fr, S, rep))
  else if pxP s p = 72 then (if S.1.length < 40 then (0, W, Fr, (S.1 ++ [W.2.2.2.2.2.1], S.2.1, S.2.2), rep) else (4, W, Fr, S, rep))
  else if pxP s p = 104 then (0, W, Fr, ([W.2.2.2.2.2.1], S.2.1, S.2.2), rep)
  else if pxP s p = 107 then (0, W, (Fr.1, (fun j => if j = pxP s (p + 1) - 97 then W.1 else Fr.2.1 j), Fr.2.2), S, rep)
  else if pxP s p = 110 then (if (pxDig W.2.1 ++ [32] ++ W.2.2.2.2.2.1).length ≤ 30 ∧ S.2.1.length < 100 then (0, W, Fr, (S.1, S.2.1 ++ [pxDig W.2.1 ++ [32] ++ W.2.2.2.2.2.1], S.2.2), rep) else (4, W, Fr, S, rep))
  else if pxP s p = 112 then (if W.2.2.2.2.2.1.length ≤ 30 ∧ S.2.1.length < 100 then (0, W, Fr, (S.1, S.2.1 ++ [W.2.2.2.2.2.1], S.2.2), rep) else (4, W, Fr, S, rep))
  else (if (S.2.2 (pxP s (p + 1) - 48)).length < 40 then (0, W, Fr, (S.1, S.2.1, pxUF S.2.2 (pxP s (p + 1) - 48) (S.2.2 (pxP s (p + 1) - 48) ++ [W.2.2.2.2.2.1])), rep) else (4, W, Fr, S, rep))
def pxBJoin (T : pxTx) (W : pxWk) (Fr : pxFh) (S : pxSto) (rep : Bool) : Int × pxBe :=
  if W.2.2.1 < (T.1.length : Int) then
    (if (W.2.2.2.2.2.1.length : Int) + pxLn (pxRs T.1) (W.2.2.1 + 1) ≤ 30 then (0, (W.1, W.2.2.1 + 1, W.2.2.1 + 1, W.2.2.2.1, W.2.2.2.2.1, W.2.2.2.2.2.1 ++ pxRw (pxRs T.1) (W.2.2.1 + 1), W.2.2.2.2.2.2), pxBDrop Fr (pxId T.1 (W.2.2.1 + 1)), S, rep) else (4, W, Fr, S, rep))
  else (0, W, Fr, S, rep)
def pxBPart (n : Int) (W : pxWk) (Fr : pxFh) (S : pxSto) (rep : Bool) : Int × pxBe :=
  if n < (W.2.2.2.2.2.1.length : Int) then (0, pxWd (pxWr W (W.2.2.2.2.2.1.take n.toNat)) (pxBDue W.2.2.2.2.2.2 [W.2.2.2.2.2.1.drop n.toNat]), Fr, S, rep) else (0, W, Fr, S, rep)
/-- an act at p, of an order whose where is of kind wh, and over or not -/
def pxBAct (s : List Int) (p wh : Int) (over : Bool) (T : pxTx) (W : pxWk) (Fr : pxFh) (S : pxSto) (rep : Bool) : Int × pxBe :=
  if pxP s p = 62 ∨ pxP s p = 115 ∨ pxP s p = 122 ∨ pxP s p = 60 then (if 30 < (pxChg s p W.2.2.2.2.2.1).1.length then (4, W, Fr, S, rep) else (0, pxWr W (pxChg s p W.2.2.2.2.2.1).1, Fr, S, (rep || (pxChg s p W.2.2.2.2.2.1).2)))
  else if pxP s p = 97 then (0, pxWd W (pxBDue W.2.2.2.2.2.2 (pxTold s 61 (p + 1))), Fr, S, rep)
  else if pxP s p = 99 then (if wh = 3 ∧ over = false then (0, pxWg W, pxBDrop Fr W.1, S, rep) else (pxBPut (pxTold s 61 (p + 1)) (pxBDrop Fr W.1)).elim (4, W, Fr, S, rep) (fun z => (0, pxWg W, z, S, rep)))
  else if pxP s p = 100 then (0, pxWg W, pxBDrop Fr W.1, S, rep)
  else if pxP s p = 101 then (if S.1.length = 1 then (0, pxWr W (pxRw S.1 1), Fr, ([W.2.2.2.2.2.1], S.2.1, S.2.2), rep) else (5, W, Fr, S, rep))
  else if pxP s p = 105 then (pxBPut (pxTold s 61 (p + 1)) Fr).elim (4, W, Fr, S, rep) (fun z => (0, W, z, S, rep))
  else if pxP s p = 106 then pxBJoin T W Fr S rep
  else if pxP s p = 114 then (0, pxWd W (pxBDue W.2.2.2.2.2.2 (S.2.2 (pxP s (p + 1) - 48))), Fr, S, rep)
  else if pxP s p = 117 then (if S.1 = [] then (5, W, Fr, S, rep) else (0, pxWd W (pxBDue W.2.2.2.2.2.2 S.1), Fr, S, rep))
  else if pxP s p = 118 then pxBPart (pxNumV s (p + 1)) W Fr S rep
  else pxBTell s p W Fr S rep
theorem pxIY.file {P : Nat → Nat → Prop} {h h' : jw_H} {S : pxSto} {k : Int} {rs : List (List Int)} (Y : pxIY h S) (F : pxF P h h') (k0 : 0 ≤ k) (hP : ∀ k' f, P k' f → 261 + 8 + 3 * k.toNat ≤ k' ∧ k' ≤ 261 + 8 + 3 * k.toNat + 2) (R : pxIR h' (261 + 8 + 3 * k.toNat) 40 rs) : pxIY h' (S.1, S.2.1, pxUF S.2.2 k rs) := by
  refine ⟨Y.1.fr F (fun k' f z y => by have := hP _ _ y; omega), Y.2.1.fr F (fun k' f z1 z2 y => by have := hP _ _ y; omega), Y.2.2.1.fr F (fun k' f z1 z2 y => by have := hP _ _ y; omega), fun j j0 j1 => ?_⟩
  show pxIR h' (261 + 8 + 3 * j.toNat) 40 (if j = k then rs else S.2.2 j)
  by_cases e : j = k
  · subst e; rw [if_pos rfl]; exact R
  · rw [if_neg e]
    exact (Y.2.2.2 j j0 j1).fr F (fun k' f z1 z2 y => by have := hP _ _ y; omega)
theorem pxIY.held {P : Nat → Nat → Prop} {h h' : jw_H} {S : pxSto} {rs : List (List Int)} (Y : pxIY h S) (F : pxF P h h') (hP : ∀ k' f, P k' f → 262 ≤ k' ∧ k' ≤ 264) (R : pxIR h' 262 40 rs) : pxIY h' (rs, S.2.1, S.2.2) :=
  ⟨Y.1.fr F (fun k' f z y => by have := hP _ _ y; omega), R, Y.2.2.1.fr F (fun k' f z1 z2 y => by have := hP _ _ y; omega), fun j j0 j1 => (Y.2.2.2 j j0 j1).fr F (fun k' f z1 z2 y => by have := hP _ _ y; omega)⟩
section
variable {T : pxTx} {W : pxWk} {Fr : pxFh} {S : pxSto} {rep : Bool} {h h' : jw_H} {P : Nat → Nat → Prop}
theorem pxBS.setS {S' : pxSto} (H : pxBS h T (W, Fr, S, rep)) (F : pxF P h h') (hP : ∀ k f, P k f → 261 ≤ k ∧ k ≤ 281) (Y : pxIY h' S') : pxBS h' T (W, Fr, S', rep) := by
  obtain ⟨a1, a2, a3, a4, a5, a6, a7, ⟨rs, a8⟩, a9, a10⟩ := pxBS_i.mp H
  exact ⟨a1.fr F (fun f z y => by have := hP _ _ y; omega), a2.fr F (fun f z y => by have := hP _ _ y; omega), a3.fr F (fun f z y => by have := hP _ _ y; omega), pxIT.fr a4 F (fun k f _ _ y => by have := hP _ _ y; omega), a5.fr F (fun k f _ _ y => by have := hP _ _ y; omega), Y, a7.fr F (fun k f z y => by have := hP _ _ y; omega), ⟨rs, a8.fr F (fun k f _ _ y => by have := hP _ _ y; omega)⟩, by rw [F.m (fun y => by have := hP _ _ y; omega)]; exact a9, a10⟩
/-- the work's row has changed, and what the matcher and the changer use -/
theorem pxBS.setRow {r : List Int} {rep' : Bool} (H : pxBS h T (W, Fr, S, rep)) (F : pxF P h h') (hP : ∀ k f, P k f → (k = 531 ∧ 5 ≤ f) ∨ (532 ≤ k ∧ k ≤ 535) ∨ (k = 536 ∧ 3 ≤ f) ∨ k = 537 ∨ (578 ≤ k ∧ k ≤ 580)) (R : pxIR h' 578 1 [r]) (m : pxM h' 536 5 = if rep' = true then 1 else 0) : pxBS h' T (pxWr W r, Fr, S, rep') := by
  obtain ⟨a1, a2, a3, a4, a5, a6, ⟨b1, b2, b3, b4, b5, b6, b7, b8⟩, ⟨rs, a8⟩, a9, a10⟩ := pxBS_i.mp H
  exact ⟨a1.fr F (fun f z y => by have := hP _ _ y; omega), a2.fr F (fun f z y => by have := hP _ _ y; omega), a3.fr F (fun f z y => by have := hP _ _ y; omega), pxIT.fr a4 F (fun k f _ _ y => by have := hP _ _ y; omega), a5.fr F (fun k f _ _ y => by have := hP _ _ y; omega), pxIS.fr a6 F (fun k f _ _ y => by have := hP _ _ y; omega), ⟨by rw [F.m (fun y => by have := hP _ _ y; omega)]; exact b1, by rw [F.m (fun y => by have := hP _ _ y; omega)]; exact b2, by rw [F.m (fun y => by have := hP _ _ y; omega)]; exact b3, by rw [F.m (fun y => by have := hP _ _ y; omega)]; exact b4, by rw [F.m (fun y => by have := hP _ _ y; omega)]; exact b5, R, b7.fr F (fun k f _ _ y => by have := hP _ _ y; omega), b8⟩, ⟨rs, a8.fr F (fun k f _ _ y => by have := hP _ _ y; omega)⟩, m, a10⟩
theorem pxBS.setSp {rs : List (List Int)} (H : pxBS h T (W, Fr, S, rep)) (F : pxF P h h') (hP : ∀ k f, P k f → 584 ≤ k ∧ k ≤ 586) (R : pxIR h' 584 60 rs) : pxBS h' T (W, Fr, S, rep) := by
  obtain ⟨a1, a2, a3, a4, a5, a6, a7, -, a9, a10⟩ := pxBS_i.mp H
  exact ⟨a1.fr F (fun f z y => by have := hP _ _ y; omega), a2.fr F (fun f z y => by have := hP _ _ y; omega), a3.fr F (fun f z y => by have := hP _ _ y; omega), pxIT.fr a4 F (fun k f _ _ y => by have := hP _ _ y; omega), a5.fr F (fun k f _ _ y => by have := hP _ _ y; omega), pxIS.fr a6 F (fun k f _ _ y => by have := hP _ _ y; omega), a7.fr F (fun k f z y => by have := hP _ _ y; omega), ⟨rs, R⟩, by rw [F.m (fun y => by have := hP _ _ y; omega)]; exact a9, a10⟩
theorem pxBS.setGo (H : pxBS h T (W, Fr, S, rep)) : pxBS (jw_setI h 571 16 (pxJ 1)) T (pxWg W, Fr, S, rep) := by
  obtain ⟨a1, a2, a3, a4, a5, a6, ⟨b1, b2, b3, b4, b5, b6, b7, b8⟩, ⟨rs, a8⟩, a9, a10⟩ := pxBS_i.mp H
  have F : pxF (fun k f => k = 571 ∧ f = 16) h (jw_setI h 571 16 (pxJ 1)) := pxF.setI ⟨rfl, rfl⟩
  exact ⟨a1.fr F (fun f z => by omega), a2.fr F (fun f z => by omega), a3.fr F (fun f z => by omega), pxIT.fr a4 F (fun k f _ _ => by omega), a5.fr F (fun k f _ _ => by omega), pxIS.fr a6 F (fun k f _ _ => by omega), ⟨by rw [F.m (by omega)]; exact b1, by rw [F.m (by omega)]; exact b2, by rw [F.m (by omega)]; exact b3, by rw [F.m (by omega)]; exact b4, pxM_eq (z := 1) (by omega) (by omega), b6.fr F (fun k f _ _ => by omega), b7.fr F (fun k f _ _ => by omega), b8⟩, ⟨rs, a8.fr F (fun k f _ _ => by omega)⟩, by rw [F.m (by omega)]; exact a9, a10⟩
theorem s_X1_goAway (H : pxBS h T (W, Fr, S, rep)) : ∃ h', f_X1_goAway h 571 = some ((), h') ∧ pxF (fun k f => (572 ≤ k ∧ k ≤ 577) ∨ (k = 571 ∧ f = 16)) h h' ∧ pxBS h' T (pxWg W, pxBDrop Fr W.1, S, rep) := by
  have H1 := H.setGo
  obtain ⟨a1, a2, a3, a4, ⟨now, a5⟩, a6, ⟨b1, b2, b3, b4, b5, b6, b7, b8⟩, ⟨rs, a8⟩, a9, a10, a11, a12⟩ := pxBS_i.mp H1
  have lo := pxM_lo (jw_setI h 571 16 (pxJ 1)) 571 10
  have hi := pxM_hi (jw_setI h 571 16 (pxJ 1)) 571 10
  rw [b1] at lo hi
  obtain ⟨u, h2, e2, F2, I2⟩ := s_X9_dropMarks a5 (id := W.1) lo hi
  have F2' : pxF (fun k f => 572 ≤ k ∧ k ≤ 577) (jw_setI h 571 16 (pxJ 1)) h2 := F2.mono (fun k f z => by unfold pxC at z; omega)
  refine ⟨h2, ?_, (pxF.setI (P := fun k f => (572 ≤ k ∧ k ≤ 577) ∨ (k = 571 ∧ f = 16)) (by omega)).trans (F2'.mono (fun k f z => Or.inl z)), H1.setF F2' (fun k f z => z) ⟨now, I2⟩ a10 a11⟩
  have t1 : (jw_t h 571).1 = 1 := H.1.1
  have t11 := a1.1
  have r6 : jw_r h 571 6 = some 572 := H.1.2.2.2.2.2.2.2.1
  have r61 := a1.2.2.2.2.2.2.2.1
  have t9 := a5.1.1
  have b1' : pxM (jw_setI h 571 16 (pxJ 1)) 571 10 = W.1 := b1
  unfold f_X1_goAway
  clear H H1 a1 a2 a3 a4 a5 a6 b6 b7 a8 I2 F2 F2'
  simp (maxSteps := 4000000) (disch := first | assumption | omega | (simp only [jw_t_I, px_cpt, t1]; done) | (simp only [jw_t_I, px_cpt, t1]; omega)) only [pxL0, pxL1, pxL2, pxL3, pxL4, pxL5, pxL6, pxL7, pxL8, pxL9, pxL10, pxL11, pxL12, pxL13, pxL14, pxL15, pxL16, pxL17, pxL18, pxL19, pxL20, pxL21, pxL22, pxL23, pxL24, pxL25, pxL26, pxL27, pxL28, pxL29, pxL30, pxL31, pxL32, pxL33, pxL34, pxL35, pxL36, pxL37, pxL38, pxL39, pxL40, pxL41, pxL42, pxL43, pxL44, pxL45, pxL46, pxL47, pxL48, pxL49, pxL51, pxL57, pxL58, pxL59, pxL60, pxL61, pxL62, pxL63, pxL64, pxL65, pxL66, pxL67, pxL68, pxL69, pxL70, pxL71, pxL72, pxL73, pxL74, pxL75, pxL76, pxL77, pxL78, pxL79, pxL80, pxL81, pxL82, pxL83, pxL84, pxL85, pxL86, pxL87, pxL88, pxL89, pxL90, pxL91, pxL92, pxL93, pxL94, pxL95, pxL96, pxL97, pxL98, pxL99, pxL100, pxL101, pxL102, pxL103, pxL104, pxL105, pxL106, pxL107, pxL108, pxL109, pxL110, pxL111, pxL112, pxL113, pxL114, pxL115, pxL116, pxL117, pxL118, pxL119, pxL120, pxL121, pxL122, pxL123, pxL124, pxL125, pxL126, pxL200, pxL240, pxL287, pxL388, pxL400, pxL429, pxL431, pxL440, pxL1240, pxL1600, pxL1681, pxL12028, pxL13849, pxL14880, pxL25173, pxL26908, pxL49600, pxL65535, pxL65536, ↓reduceIte, reduceCtorEq, pxJ_add, pxJ_sub, pxJ_mul, pxJ_neg, pxD_lt_t, pxD_lt_f, pxD_le_t, pxD_le_f, pxD_eq_t, pxD_eq_f, pxJ_lt, pxJ_le, pxJ_eq, px_gI, px_gR, px_pI, px_rc, px_ai, px_ar, px_si, px_ln, px_cp, pxJ_div, pxJ_b8, pxJ_byte, px_b2, px_bs, px_rb0, px_rb1, px_min, px_max, px_compare, pxW_some, jw_t_I, px_cpt, jw_r_I, px_cpr, jw_l_I, px_cpl, Option.some.injEq, t1, px_pB1, r6, r61, t11, b1', t9, e2]
end
