/-! orders over the whole: what is told, held, written, read -/
def pxIY (h : jw_H) (S : pxSto) : Prop := pxIS h 261 S.1 S.2.1 S.2.2
/-- what an act comes to: a reason, or a new text and new stores -/
def pxTR (r : Int × pxTx × pxSto) (S : pxSto) (h' : jw_H) : Prop := (r.1 = 0 → pxIX h' r.2.1 ∧ pxIY h' r.2.2) ∧ (r.1 ≠ 0 → (∃ T', pxIX h' T') ∧ pxIY h' S)
def pxQT : Nat → Nat → Prop := fun k _ => 255 ≤ k ∧ k ≤ 281
def pxSpPr (pre : Int → List Int) (f l : Int) (T : pxTx) (S : pxSto) : Int × pxTx × pxSto :=
  (pxPrint pre (pxRs T.1) (l - f + 1).toNat f S.2.1).elim (4, T, S) (fun o => (0, (T.1, T.2.1, l, T.2.2.2), (S.1, o, S.2.2)))
def pxSpEq (l : Int) (T : pxTx) (S : pxSto) : Int × pxTx × pxSto := if S.2.1.length < 100 then (0, T, (S.1, S.2.1 ++ [pxDig l], S.2.2)) else (4, T, S)
def pxSpHold (f l : Int) (T : pxTx) (S : pxSto) : Int × pxTx × pxSto := (0, (T.1, T.2.1, l, T.2.2.2), (pxSub (pxRs T.1) f l, S.2.1, S.2.2))
def pxSpMore (f l : Int) (T : pxTx) (S : pxSto) : Int × pxTx × pxSto := if (S.1.length : Int) + (l - f + 1) ≤ 40 then (0, (T.1, T.2.1, l, T.2.2.2), (S.1 ++ pxSub (pxRs T.1) f l, S.2.1, S.2.2)) else (4, T, S)
def pxSpMark (k l : Int) (T : pxTx) (S : pxSto) : Int × pxTx × pxSto := (0, (T.1, (fun j => if j = k then pxId T.1 l else T.2.1 j), T.2.2.1, T.2.2.2), S)
def pxSpWrite (k f l : Int) (T : pxTx) (S : pxSto) : Int × pxTx × pxSto := (0, T, (S.1, S.2.1, pxUF S.2.2 k (pxSub (pxRs T.1) f l)))
def pxSpTell (s : List Int) (p f l : Int) (T : pxTx) (S : pxSto) : Int × pxTx × pxSto :=
  if pxP s p = 112 then pxSpPr (fun _ => []) f l T S
  else if pxP s p = 110 then pxSpPr (fun r => pxDig r ++ [32]) f l T S
  else if pxP s p = 61 then pxSpEq l T S
  else if pxP s p = 104 then pxSpHold f l T S
  else if pxP s p = 72 then pxSpMore f l T S
  else if pxP s p = 107 then pxSpMark (pxP s (p + 1) - 97) l T S
  else pxSpWrite (pxP s (p + 1) - 48) f l T S
section
variable {h : jw_H} {T : pxTx} {S : pxSto} {f l : Int}
theorem s_X10_writeFile_b16 {ρ : Nat} {f l : Int} (hd : 260 < ρ) (hd2 : ρ + 2 < 559) (f1 : 1 ≤ f) (l1 : l ≤ T.1.length) : ∀ (m N : Nat) (h : jw_H) (x : Int) (rs : List (List Int)), x + m = l + 1 → 1 ≤ x → m < N → pxWF h → pxM h 559 13 = l → pxIX h T → pxIR h ρ 40 rs → rs.length + m ≤ 40 →
    pxW (f_X10_writeFile_b16 N h 559 (some ρ) (pxJ x)) fun q h' => pxF (pxC ρ (ρ + 2)) h h' ∧ q = pxJ 0 ∧ pxIR h' ρ 40 (rs ++ ((pxRs T.1).drop (x - 1).toNat).take m) := by
  intro m
  induction m with
  | zero =>
    intro N h x rs hx h1 hN W rl H R hm
    obtain ⟨N, rfl, -⟩ := px_fu hN
    have l40 := pxIT.len H
    have w0 := W.1
    rw [u_X10_writeFile_b16]
    unfold g_X10_writeFile_b16
    simp (maxSteps := 4000000) (disch := first | assumption | omega | (simp only [jw_t_I, px_cpt]; done) | (simp only [jw_t_I, px_cpt]; omega)) only [pxL0, pxL1, pxL2, pxL3, pxL4, pxL5, pxL6, pxL7, pxL8, pxL9, pxL10, pxL11, pxL12, pxL13, pxL14, pxL15, pxL16, pxL17, pxL18, pxL19, pxL20, pxL21, pxL22, pxL23, pxL24, pxL25, pxL26, pxL27, pxL28, pxL29, pxL30, pxL31, pxL32, pxL33, pxL34, pxL35, pxL36, pxL37, pxL38, pxL39, pxL40, pxL41, pxL42, pxL43, pxL44, pxL45, pxL46, pxL47, pxL48, pxL49, pxL51, pxL57, pxL58, pxL59, pxL60, pxL61, pxL62, pxL63, pxL64, pxL65, pxL66, pxL67, pxL68, pxL69, pxL70, pxL71, pxL72, pxL73, pxL74, pxL75, pxL76, pxL77, pxL78, pxL79, pxL80, pxL81, pxL82, pxL83, pxL84, pxL85, pxL86, pxL87, pxL88, pxL89, pxL90, pxL91, pxL92, pxL93, pxL94, pxL95, pxL96, pxL97, pxL98, pxL99, pxL100, pxL101, pxL102, pxL103, pxL104, pxL105, pxL106, pxL107, pxL108, pxL109, pxL110, pxL111, pxL112, pxL113, pxL114, pxL115, pxL116, pxL117, pxL118, pxL119, pxL120, pxL121, pxL122, pxL123, pxL124, pxL125, pxL126, pxL200, pxL240, pxL287, pxL388, pxL400, pxL429, pxL431, pxL440, pxL1240, pxL1600, pxL1681, pxL12028, pxL13849, pxL14880, pxL25173, pxL26908, pxL49600, pxL65535, pxL65536, ↓reduceIte, reduceCtorEq, pxJ_add, pxJ_sub, pxJ_mul, pxJ_neg, pxD_lt_t, pxD_lt_f, pxD_le_t, pxD_le_f, pxD_eq_t, pxD_eq_f, pxJ_lt, pxJ_le, pxJ_eq, px_gI, px_gR, px_pI, px_rc, px_ai, px_ar, px_si, px_ln, px_cp, pxJ_div, pxJ_b8, pxJ_byte, px_b2, px_bs, px_rb0, px_rb1, px_min, px_max, px_compare, pxW_some, jw_t_I, px_cpt, jw_r_I, px_cpr, jw_l_I, px_cpl, Option.some.injEq, w0, rl, List.take_zero, List.append_nil]
    exact ⟨pxF.rfl, trivial, R⟩
  | succ m ih =>
    intro N h x rs hx h1 hN W rl H R hm
    obtain ⟨N, rfl, hN⟩ := px_fu hN
    have l40 := pxIT.len H
    have w0 := W.1
    have w1 := W.2.2.1
    have t9 := H.1.1
    have r0 := H.1.2.1
    have t7 := R.1.1
    have rl' : ((pxRs T.1).length : Int) = T.1.length := by rw [pxRs_len]
    have K := s_X7_addRow R H.2.1 (y := x) h1 (by omega)
    rw [u_X10_writeFile_b16]
    unfold g_X10_writeFile_b16
    simp (maxSteps := 4000000) (disch := first | assumption | omega | (simp only [jw_t_I, px_cpt]; done) | (simp only [jw_t_I, px_cpt]; omega)) only [pxL0, pxL1, pxL2, pxL3, pxL4, pxL5, pxL6, pxL7, pxL8, pxL9, pxL10, pxL11, pxL12, pxL13, pxL14, pxL15, pxL16, pxL17, pxL18, pxL19, pxL20, pxL21, pxL22, pxL23, pxL24, pxL25, pxL26, pxL27, pxL28, pxL29, pxL30, pxL31, pxL32, pxL33, pxL34, pxL35, pxL36, pxL37, pxL38, pxL39, pxL40, pxL41, pxL42, pxL43, pxL44, pxL45, pxL46, pxL47, pxL48, pxL49, pxL51, pxL57, pxL58, pxL59, pxL60, pxL61, pxL62, pxL63, pxL64, pxL65, pxL66, pxL67, pxL68, pxL69, pxL70, pxL71, pxL72, pxL73, pxL74, pxL75, pxL76, pxL77, pxL78, pxL79, pxL80, pxL81, pxL82, pxL83, pxL84, pxL85, pxL86, pxL87, pxL88, pxL89, pxL90, pxL91, pxL92, pxL93, pxL94, pxL95, pxL96, pxL97, pxL98, pxL99, pxL100, pxL101, pxL102, pxL103, pxL104, pxL105, pxL106, pxL107, pxL108, pxL109, pxL110, pxL111, pxL112, pxL113, pxL114, pxL115, pxL116, pxL117, pxL118, pxL119, pxL120, pxL121, pxL122, pxL123, pxL124, pxL125, pxL126, pxL200, pxL240, pxL287, pxL388, pxL400, pxL429, pxL431, pxL440, pxL1240, pxL1600, pxL1681, pxL12028, pxL13849, pxL14880, pxL25173, pxL26908, pxL49600, pxL65535, pxL65536, ↓reduceIte, reduceCtorEq, pxJ_add, pxJ_sub, pxJ_mul, pxJ_neg, pxD_lt_t, pxD_lt_f, pxD_le_t, pxD_le_f, pxD_eq_t, pxD_eq_f, pxJ_lt, pxJ_le, pxJ_eq, px_gI, px_gR, px_pI, px_rc, px_ai, px_ar, px_si, px_ln, px_cp, pxJ_div, pxJ_b8, pxJ_byte, px_b2, px_bs, px_rb0, px_rb1, px_min, px_max, px_compare, pxW_some, jw_t_I, px_cpt, jw_r_I, px_cpr, jw_l_I, px_cpl, Option.some.injEq, w0, rl, w1, t9, r0, t7]
    refine pxW_b2 K fun q h1' k => ?_
    obtain ⟨F, -, K1⟩ := k
    rw [if_pos (by omega)] at K1
    refine (ih N h1' (x + 1) (rs ++ [pxRw (pxRs T.1) x]) (by omega) (by omega) (by omega) (W.f9 F (fun f => by unfold pxC; omega)) (by rw [F.m (by unfold pxC; omega)]; exact rl) (pxIT.fr H F (fun k f _ _ => by unfold pxC; omega)) K1 (by rw [List.length_append, List.length_singleton]; omega)).mono fun q h' k => ⟨F.trans k.1, k.2.1, ?_⟩
    have e : rs ++ ((pxRs T.1).drop (x - 1).toNat).take (m + 1) = rs ++ [pxRw (pxRs T.1) x] ++ ((pxRs T.1).drop (x + 1 - 1).toNat).take m := by
      rw [pxG_dropc (d := []) h1 (by omega), List.take_succ_cons, show x + 1 - 1 = x by omega, List.append_assoc]; rfl
    rw [e]
    exact k.2.2
theorem s_X10_writeFile {k : Int} (W : pxWF h) (Rn : pxRn h f l) (H : pxIX h T) (Y : pxIY h S) (k0 : 0 ≤ k) (k1 : k < 4) (f1 : 1 ≤ f) (fl : f ≤ l + 1) (l1 : l ≤ T.1.length) :
    pxW (f_X10_writeFile h 559 (some (261 + 8 + 3 * k.toNat))) fun q h' => pxF pxQT h h' ∧ q = pxJ 0 ∧ pxTR (pxSpWrite k f l T S) S h' := by
  have l40 := pxIT.len H
  have w0 := W.1
  obtain ⟨rf, rl⟩ := id Rn
  have R := Y.2.2.2 k k0 k1
  have t7 := R.1.1
  unfold f_X10_writeFile
  simp (maxSteps := 4000000) (disch := first | assumption | omega | (simp only [jw_t_I, px_cpt]; done) | (simp only [jw_t_I, px_cpt]; omega)) only [pxL0, pxL1, pxL2, pxL3, pxL4, pxL5, pxL6, pxL7, pxL8, pxL9, pxL10, pxL11, pxL12, pxL13, pxL14, pxL15, pxL16, pxL17, pxL18, pxL19, pxL20, pxL21, pxL22, pxL23, pxL24, pxL25, pxL26, pxL27, pxL28, pxL29, pxL30, pxL31, pxL32, pxL33, pxL34, pxL35, pxL36, pxL37, pxL38, pxL39, pxL40, pxL41, pxL42, pxL43, pxL44, pxL45, pxL46, pxL47, pxL48, pxL49, pxL51, pxL57, pxL58, pxL59, pxL60, pxL61, pxL62, pxL63, pxL64, pxL65, pxL66, pxL67, pxL68, pxL69, pxL70, pxL71, pxL72, pxL73, pxL74, pxL75, pxL76, pxL77, pxL78, pxL79, pxL80, pxL81, pxL82, pxL83, pxL84, pxL85, pxL86, pxL87, pxL88, pxL89, pxL90, pxL91, pxL92, pxL93, pxL94, pxL95, pxL96, pxL97, pxL98, pxL99, pxL100, pxL101, pxL102, pxL103, pxL104, pxL105, pxL106, pxL107, pxL108, pxL109, pxL110, pxL111, pxL112, pxL113, pxL114, pxL115, pxL116, pxL117, pxL118, pxL119, pxL120, pxL121, pxL122, pxL123, pxL124, pxL125, pxL126, pxL200, pxL240, pxL287, pxL388, pxL400, pxL429, pxL431, pxL440, pxL1240, pxL1600, pxL1681, pxL12028, pxL13849, pxL14880, pxL25173, pxL26908, pxL49600, pxL65535, pxL65536, ↓reduceIte, reduceCtorEq, pxJ_add, pxJ_sub, pxJ_mul, pxJ_neg, pxD_lt_t, pxD_lt_f, pxD_le_t, pxD_le_f, pxD_eq_t, pxD_eq_f, pxJ_lt, pxJ_le, pxJ_eq, px_gI, px_gR, px_pI, px_rc, px_ai, px_ar, px_si, px_ln, px_cp, pxJ_div, pxJ_b8, pxJ_byte, px_b2, px_bs, px_rb0, px_rb1, px_min, px_max, px_compare, pxW_some, jw_t_I, px_cpt, jw_r_I, px_cpr, jw_l_I, px_cpl, Option.some.injEq]
  refine pxW_b2 (s_X7_shrink R (x := 0) (by omega) (by omega)) fun _ h1 q => ?_
  obtain ⟨F1, R1⟩ := q
  have e0 : (if (0 : Int) ≤ 0 ∧ (0 : Int) < (S.2.2 k).length then (S.2.2 k).take (0 : Int).toNat else S.2.2 k) = [] := by
    by_cases c : (0 : Int) ≤ 0 ∧ (0 : Int) < (S.2.2 k).length
    · rw [if_pos c]; rfl
    · rw [if_neg c]; exact List.length_eq_zero_iff.mp (by omega)
  rw [e0] at R1
  have W1 := W.f9 F1 (fun f => by unfold pxC; omega)
  have H1 : pxIX h1 T := pxIT.fr H F1 (fun k f _ _ => by unfold pxC; omega)
  have w01 := W1.1
  have rf1 : pxM h1 559 12 = f := by rw [F1.m (by unfold pxC; omega)]; exact rf
  have rl1 : pxM h1 559 13 = l := by rw [F1.m (by unfold pxC; omega)]; exact rl
  simp (maxSteps := 4000000) (disch := first | assumption | omega | (simp only [jw_t_I, px_cpt]; done) | (simp only [jw_t_I, px_cpt]; omega)) only [pxL0, pxL1, pxL2, pxL3, pxL4, pxL5, pxL6, pxL7, pxL8, pxL9, pxL10, pxL11, pxL12, pxL13, pxL14, pxL15, pxL16, pxL17, pxL18, pxL19, pxL20, pxL21, pxL22, pxL23, pxL24, pxL25, pxL26, pxL27, pxL28, pxL29, pxL30, pxL31, pxL32, pxL33, pxL34, pxL35, pxL36, pxL37, pxL38, pxL39, pxL40, pxL41, pxL42, pxL43, pxL44, pxL45, pxL46, pxL47, pxL48, pxL49, pxL51, pxL57, pxL58, pxL59, pxL60, pxL61, pxL62, pxL63, pxL64, pxL65, pxL66, pxL67, pxL68, pxL69, pxL70, pxL71, pxL72, pxL73, pxL74, pxL75, pxL76, pxL77, pxL78, pxL79, pxL80, pxL81, pxL82, pxL83, pxL84, pxL85, pxL86, pxL87, pxL88, pxL89, pxL90, pxL91, pxL92, pxL93, pxL94, pxL95, pxL96, pxL97, pxL98, pxL99, pxL100, pxL101, pxL102, pxL103, pxL104, pxL105, pxL106, pxL107, pxL108, pxL109, pxL110, pxL111, pxL112, pxL113, pxL114, pxL115, pxL116, pxL117, pxL118, pxL119, pxL120, pxL121, pxL122, pxL123, pxL124, pxL125, pxL126, pxL200, pxL240, pxL287, pxL388, pxL400, pxL429, pxL431, pxL440, pxL1240, pxL1600, pxL1681, pxL12028, pxL13849, pxL14880, pxL25173, pxL26908, pxL49600, pxL65535, pxL65536, ↓reduceIte, reduceCtorEq, pxJ_add, pxJ_sub, pxJ_mul, pxJ_neg, pxD_lt_t, pxD_lt_f, pxD_le_t, pxD_le_f, pxD_eq_t, pxD_eq_f, pxJ_lt, pxJ_le, pxJ_eq, px_gI, px_gR, px_pI, px_rc, px_ai, px_ar, px_si, px_ln, px_cp, pxJ_div, pxJ_b8, pxJ_byte, px_b2, px_bs, px_rb0, px_rb1, px_min, px_max, px_compare, pxW_some, jw_t_I, px_cpt, jw_r_I, px_cpr, jw_l_I, px_cpl, Option.some.injEq, w01, rf1]
  refine (s_X10_writeFile_b16 (T := T) (f := f) (by omega) (by omega) f1 l1 (l - f + 1).toNat jw_FU h1 f [] (by omega) f1 (by unfold jw_FU; omega) W1 rl1 H1 R1 (by simp; omega)).mono fun q h' z => ?_
  obtain ⟨F2, e2, R2⟩ := z
  have F12 := F1.trans F2
  refine ⟨F12.mono (fun k' f z => by unfold pxC at z; unfold pxQT; omega), e2, fun _ => ⟨pxIT.fr H F12 (fun k f _ _ => by unfold pxC; omega), ?_⟩, fun z => absurd rfl z⟩
  refine ⟨Y.1.fr F12 (fun k' f z => by unfold pxC; omega), Y.2.1.fr F12 (fun k' f z1 z2 => by unfold pxC; omega), Y.2.2.1.fr F12 (fun k' f z1 z2 => by unfold pxC; omega), fun j j0 j1 => ?_⟩
  show pxIR h' (261 + 8 + 3 * j.toNat) 40 (if j = k then pxSub (pxRs T.1) f l else S.2.2 j)
  by_cases e : j = k
  · subst e
    rw [if_pos rfl]
    rw [List.nil_append] at R2
    exact R2
  · rw [if_neg e]
    exact (Y.2.2.2 j j0 j1).fr F12 (fun k' f z1 z2 => by unfold pxC; omega)
theorem s_X10_tell_b234 {h1 : jw_H} {x2 : Int32} {v : Int} (W : pxWF h1) (rl : pxM h1 559 13 = v) (H : pxIX h1 T) (v0 : 0 ≤ v) (v1 : v ≤ 1000) : g_X10_tell_b234 h1 559 x2 = some (x2, jw_setI h1 255 3 (pxJ v)) ∧ pxIX (jw_setI h1 255 3 (pxJ v)) (T.1, T.2.1, v, T.2.2.2) ∧ pxF (fun k f => k = 255 ∧ f = 3) h1 (jw_setI h1 255 3 (pxJ v)) := by
  have w0 := W.1
  have w1 := W.2.2.1
  have t9 := H.1.1
  refine ⟨?_, pxIT.now3 H (by omega) (by omega), pxF.setI ⟨rfl, rfl⟩⟩
  unfold g_X10_tell_b234
  simp (maxSteps := 4000000) (disch := first | assumption | omega | (simp only [jw_t_I, px_cpt]; done) | (simp only [jw_t_I, px_cpt]; omega)) only [pxL0, pxL1, pxL2, pxL3, pxL4, pxL5, pxL6, pxL7, pxL8, pxL9, pxL10, pxL11, pxL12, pxL13, pxL14, pxL15, pxL16, pxL17, pxL18, pxL19, pxL20, pxL21, pxL22, pxL23, pxL24, pxL25, pxL26, pxL27, pxL28, pxL29, pxL30, pxL31, pxL32, pxL33, pxL34, pxL35, pxL36, pxL37, pxL38, pxL39, pxL40, pxL41, pxL42, pxL43, pxL44, pxL45, pxL46, pxL47, pxL48, pxL49, pxL51, pxL57, pxL58, pxL59, pxL60, pxL61, pxL62, pxL63, pxL64, pxL65, pxL66, pxL67, pxL68, pxL69, pxL70, pxL71, pxL72, pxL73, pxL74, pxL75, pxL76, pxL77, pxL78, pxL79, pxL80, pxL81, pxL82, pxL83, pxL84, pxL85, pxL86, pxL87, pxL88, pxL89, pxL90, pxL91, pxL92, pxL93, pxL94, pxL95, pxL96, pxL97, pxL98, pxL99, pxL100, pxL101, pxL102, pxL103, pxL104, pxL105, pxL106, pxL107, pxL108, pxL109, pxL110, pxL111, pxL112, pxL113, pxL114, pxL115, pxL116, pxL117, pxL118, pxL119, pxL120, pxL121, pxL122, pxL123, pxL124, pxL125, pxL126, pxL200, pxL240, pxL287, pxL388, pxL400, pxL429, pxL431, pxL440, pxL1240, pxL1600, pxL1681, pxL12028, pxL13849, pxL14880, pxL25173, pxL26908, pxL49600, pxL65535, pxL65536, ↓reduceIte, reduceCtorEq, pxJ_add, pxJ_sub, pxJ_mul, pxJ_neg, pxD_lt_t, pxD_lt_f, pxD_le_t, pxD_le_f, pxD_eq_t, pxD_eq_f, pxJ_lt, pxJ_le, pxJ_eq, px_gI, px_gR, px_pI, px_rc, px_ai, px_ar, px_si, px_ln, px_cp, pxJ_div, pxJ_b8, pxJ_byte, px_b2, px_bs, px_rb0, px_rb1, px_min, px_max, px_compare, pxW_some, jw_t_I, px_cpt, jw_r_I, px_cpr, jw_l_I, px_cpl, Option.some.injEq, w0, w1, t9, rl]
theorem s_X10_tell {oo : Nat} {s : List Int} {p : Int} (ho : oo < 252) (t5 : (jw_t h oo).1 = 5) (f3 : pxM h oo 3 = pxP s p) (W : pxWF h) (Rn : pxRn h f l) (H : pxIX h T) (Y : pxIY h S) (f1 : 1 ≤ f) (fl : f ≤ l + 1) (l1 : l ≤ T.1.length) (ne : pxP s p ≠ 119 → f ≤ l)
    (c : pxP s p = 112 ∨ pxP s p = 110 ∨ pxP s p = 61 ∨ pxP s p = 104 ∨ pxP s p = 72 ∨ (pxP s p = 107 ∧ pxM h oo 5 = pxP s (p + 1) - 97 ∧ 97 ≤ pxP s (p + 1) ∧ pxP s (p + 1) ≤ 101) ∨ (pxP s p = 119 ∧ pxM h oo 5 = pxP s (p + 1) - 48 ∧ 48 ≤ pxP s (p + 1) ∧ pxP s (p + 1) ≤ 51)) :
    pxW (f_X10_tell h 559 (some oo)) fun q h' => pxF pxQT h h' ∧ q = pxJ (pxSpTell s p f l T S).1 ∧ pxTR (pxSpTell s p f l T S) S h' := by
  have l40 := pxIT.len H
  have w0 := W.1
  have w1 := W.2.2.1
  have w2 := W.2.2.2.1
  have t9 := H.1.1
  have r0 := H.1.2.1
  have t8 := Y.1.1
  have rl' : ((pxRs T.1).length : Int) = T.1.length := by rw [pxRs_len]
  obtain ⟨rf, rl⟩ := id Rn
  -- behind a change of the stores, the present line is the last one
  have fin : ∀ {h1 : jw_H} {r : Int × pxTx × pxSto} {S1 : pxSto}, pxF (pxC 261 281) h h1 → pxIY h1 S1 → (r.1 = 0 → r.2.1 = (T.1, T.2.1, l, T.2.2.2) ∧ r.2.2 = S1) → (r.1 ≠ 0 → S1 = S) → pxW (g_X10_tell_b234 h1 559 (pxJ r.1)) fun q h' => pxF pxQT h h' ∧ q = pxJ r.1 ∧ pxTR r S h' := by
    intro h1 r S1 F1 Y1 q0 q1
    obtain ⟨e, Hn, Fn⟩ := s_X10_tell_b234 (T := T) (x2 := pxJ r.1) (v := l) (W.f9 F1 (fun f => by unfold pxC; omega)) (by rw [F1.m (by unfold pxC; omega)]; exact rl) (pxIT.fr H F1 (fun k f _ _ => by unfold pxC; omega)) (by omega) (by omega)
    rw [e]
    have Yn : pxIY (jw_setI h1 255 3 (pxJ l)) S1 := pxIS.fr Y1 Fn (fun k f _ _ => by omega)
    refine pxW_some.mpr ⟨(F1.mono (fun k f z => by unfold pxC at z; unfold pxQT; omega)).trans (Fn.mono (fun k f z => by unfold pxQT; omega)), rfl, fun z => ?_, fun z => ?_⟩
    · obtain ⟨a, b⟩ := q0 z
      rw [a, b]; exact ⟨Hn, Yn⟩
    · rw [← q1 z]; exact ⟨⟨_, Hn⟩, Yn⟩
  unfold f_X10_tell pxSpTell
  by_cases c1 : pxP s p = 112
  · rw [if_pos c1]
    have K := s_X8_print Y H.2.1 (Or.inl (by omega)) (x := f) (y := l) (num := -1) f1 fl (by omega) (Or.inl rfl)
    have e1 : (fun r : Int => if (-1 : Int) = -1 then ([] : List Int) else pxDig (-1 + r - f) ++ [32]) = fun _ => [] := by funext r; rw [if_pos rfl]
    rw [e1, show l - f + 1 = l - f + 1 from rfl] at K
    simp (maxSteps := 4000000) (disch := first | assumption | omega | (simp only [jw_t_I, px_cpt]; done) | (simp only [jw_t_I, px_cpt]; omega)) only [pxL0, pxL1, pxL2, pxL3, pxL4, pxL5, pxL6, pxL7, pxL8, pxL9, pxL10, pxL11, pxL12, pxL13, pxL14, pxL15, pxL16, pxL17, pxL18, pxL19, pxL20, pxL21, pxL22, pxL23, pxL24, pxL25, pxL26, pxL27, pxL28, pxL29, pxL30, pxL31, pxL32, pxL33, pxL34, pxL35, pxL36, pxL37, pxL38, pxL39, pxL40, pxL41, pxL42, pxL43, pxL44, pxL45, pxL46, pxL47, pxL48, pxL49, pxL51, pxL57, pxL58, pxL59, pxL60, pxL61, pxL62, pxL63, pxL64, pxL65, pxL66, pxL67, pxL68, pxL69, pxL70, pxL71, pxL72, pxL73, pxL74, pxL75, pxL76, pxL77, pxL78, pxL79, pxL80, pxL81, pxL82, pxL83, pxL84, pxL85, pxL86, pxL87, pxL88, pxL89, pxL90, pxL91, pxL92, pxL93, pxL94, pxL95, pxL96, pxL97, pxL98, pxL99, pxL100, pxL101, pxL102, pxL103, pxL104, pxL105, pxL106, pxL107, pxL108, pxL109, pxL110, pxL111, pxL112, pxL113, pxL114, pxL115, pxL116, pxL117, pxL118, pxL119, pxL120, pxL121, pxL122, pxL123, pxL124, pxL125, pxL126, pxL200, pxL240, pxL287, pxL388, pxL400, pxL429, pxL431, pxL440, pxL1240, pxL1600, pxL1681, pxL12028, pxL13849, pxL14880, pxL25173, pxL26908, pxL49600, pxL65535, pxL65536, ↓reduceIte, reduceCtorEq, pxJ_add, pxJ_sub, pxJ_mul, pxJ_neg, pxD_lt_t, pxD_lt_f, pxD_le_t, pxD_le_f, pxD_eq_t, pxD_eq_f, pxJ_lt, pxJ_le, pxJ_eq, px_gI, px_gR, px_pI, px_rc, px_ai, px_ar, px_si, px_ln, px_cp, pxJ_div, pxJ_b8, pxJ_byte, px_b2, px_bs, px_rb0, px_rb1, px_min, px_max, px_compare, pxW_some, jw_t_I, px_cpt, jw_r_I, px_cpr, jw_l_I, px_cpl, Option.some.injEq, c1, f3, w0, w2, w1, t9, r0, rf, rl]
    refine pxW_b2 K fun q h1 k => ?_
    obtain ⟨F1, rfl, Y1⟩ := k
    unfold pxSpPr
    cases hp : pxPrint (fun _ => []) (pxRs T.1) (l - f + 1).toNat f S.2.1 with
    | none =>
      rw [hp] at Y1
      exact fin (r := (4, T, S)) (S1 := S) F1 Y1 (fun z => absurd z (by show ¬ (4 : Int) = 0; omega)) (fun _ => rfl)
    | some o =>
      rw [hp] at Y1
      exact fin (r := (0, (T.1, T.2.1, l, T.2.2.2), (S.1, o, S.2.2))) (S1 := (S.1, o, S.2.2)) F1 Y1 (fun _ => ⟨rfl, rfl⟩) (fun z => absurd rfl z)
  rw [if_neg c1]
  by_cases c2 : pxP s p = 110
  · rw [if_pos c2]
    have fl' := ne (by omega)
    have K := s_X8_print Y H.2.1 (Or.inl (by omega)) (x := f) (y := l) (num := f) f1 fl (by omega) (Or.inr ⟨by omega, by omega⟩)
    have e1 : (fun r : Int => if f = -1 then ([] : List Int) else pxDig (f + r - f) ++ [32]) = fun r => pxDig r ++ [32] := by funext r; rw [if_neg (by omega), show f + r - f = r by omega]
    rw [e1] at K
    simp (maxSteps := 4000000) (disch := first | assumption | omega | (simp only [jw_t_I, px_cpt]; done) | (simp only [jw_t_I, px_cpt]; omega)) only [pxL0, pxL1, pxL2, pxL3, pxL4, pxL5, pxL6, pxL7, pxL8, pxL9, pxL10, pxL11, pxL12, pxL13, pxL14, pxL15, pxL16, pxL17, pxL18, pxL19, pxL20, pxL21, pxL22, pxL23, pxL24, pxL25, pxL26, pxL27, pxL28, pxL29, pxL30, pxL31, pxL32, pxL33, pxL34, pxL35, pxL36, pxL37, pxL38, pxL39, pxL40, pxL41, pxL42, pxL43, pxL44, pxL45, pxL46, pxL47, pxL48, pxL49, pxL51, pxL57, pxL58, pxL59, pxL60, pxL61, pxL62, pxL63, pxL64, pxL65, pxL66, pxL67, pxL68, pxL69, pxL70, pxL71, pxL72, pxL73, pxL74, pxL75, pxL76, pxL77, pxL78, pxL79, pxL80, pxL81, pxL82, pxL83, pxL84, pxL85, pxL86, pxL87, pxL88, pxL89, pxL90, pxL91, pxL92, pxL93, pxL94, pxL95, pxL96, pxL97, pxL98, pxL99, pxL100, pxL101, pxL102, pxL103, pxL104, pxL105, pxL106, pxL107, pxL108, pxL109, pxL110, pxL111, pxL112, pxL113, pxL114, pxL115, pxL116, pxL117, pxL118, pxL119, pxL120, pxL121, pxL122, pxL123, pxL124, pxL125, pxL126, pxL200, pxL240, pxL287, pxL388, pxL400, pxL429, pxL431, pxL440, pxL1240, pxL1600, pxL1681, pxL12028, pxL13849, pxL14880, pxL25173, pxL26908, pxL49600, pxL65535, pxL65536, ↓reduceIte, reduceCtorEq, pxJ_add, pxJ_sub, pxJ_mul, pxJ_neg, pxD_lt_t, pxD_lt_f, pxD_le_t, pxD_le_f, pxD_eq_t, pxD_eq_f, pxJ_lt, pxJ_le, pxJ_eq, px_gI, px_gR, px_pI, px_rc, px_ai, px_ar, px_si, px_ln, px_cp, pxJ_div, pxJ_b8, pxJ_byte, px_b2, px_bs, px_rb0, px_rb1, px_min, px_max, px_compare, pxW_some, jw_t_I, px_cpt, jw_r_I, px_cpr, jw_l_I, px_cpl, Option.some.injEq, c2, f3, w0, w2, w1, t9, r0, rf, rl]
    refine pxW_b2 K fun q h1 k => ?_
    obtain ⟨F1, rfl, Y1⟩ := k
    unfold pxSpPr
    cases hp : pxPrint (fun r => pxDig r ++ [32]) (pxRs T.1) (l - f + 1).toNat f S.2.1 with
    | none =>
      rw [hp] at Y1
      exact fin (r := (4, T, S)) (S1 := S) F1 Y1 (fun z => absurd z (by show ¬ (4 : Int) = 0; omega)) (fun _ => rfl)
    | some o =>
      rw [hp] at Y1
      exact fin (r := (0, (T.1, T.2.1, l, T.2.2.2), (S.1, o, S.2.2))) (S1 := (S.1, o, S.2.2)) F1 Y1 (fun _ => ⟨rfl, rfl⟩) (fun z => absurd rfl z)
  rw [if_neg c2]
  by_cases c3 : pxP s p = 61
  · rw [if_pos c3]
    have fl' := ne (by omega)
    have K := s_X8_printNumber Y (n := l) (by omega) (by omega)
    simp (maxSteps := 4000000) (disch := first | assumption | omega | (simp only [jw_t_I, px_cpt]; done) | (simp only [jw_t_I, px_cpt]; omega)) only [pxL0, pxL1, pxL2, pxL3, pxL4, pxL5, pxL6, pxL7, pxL8, pxL9, pxL10, pxL11, pxL12, pxL13, pxL14, pxL15, pxL16, pxL17, pxL18, pxL19, pxL20, pxL21, pxL22, pxL23, pxL24, pxL25, pxL26, pxL27, pxL28, pxL29, pxL30, pxL31, pxL32, pxL33, pxL34, pxL35, pxL36, pxL37, pxL38, pxL39, pxL40, pxL41, pxL42, pxL43, pxL44, pxL45, pxL46, pxL47, pxL48, pxL49, pxL51, pxL57, pxL58, pxL59, pxL60, pxL61, pxL62, pxL63, pxL64, pxL65, pxL66, pxL67, pxL68, pxL69, pxL70, pxL71, pxL72, pxL73, pxL74, pxL75, pxL76, pxL77, pxL78, pxL79, pxL80, pxL81, pxL82, pxL83, pxL84, pxL85, pxL86, pxL87, pxL88, pxL89, pxL90, pxL91, pxL92, pxL93, pxL94, pxL95, pxL96, pxL97, pxL98, pxL99, pxL100, pxL101, pxL102, pxL103, pxL104, pxL105, pxL106, pxL107, pxL108, pxL109, pxL110, pxL111, pxL112, pxL113, pxL114, pxL115, pxL116, pxL117, pxL118, pxL119, pxL120, pxL121, pxL122, pxL123, pxL124, pxL125, pxL126, pxL200, pxL240, pxL287, pxL388, pxL400, pxL429, pxL431, pxL440, pxL1240, pxL1600, pxL1681, pxL12028, pxL13849, pxL14880, pxL25173, pxL26908, pxL49600, pxL65535, pxL65536, ↓reduceIte, reduceCtorEq, pxJ_add, pxJ_sub, pxJ_mul, pxJ_neg, pxD_lt_t, pxD_lt_f, pxD_le_t, pxD_le_f, pxD_eq_t, pxD_eq_f, pxJ_lt, pxJ_le, pxJ_eq, px_gI, px_gR, px_pI, px_rc, px_ai, px_ar, px_si, px_ln, px_cp, pxJ_div, pxJ_b8, pxJ_byte, px_b2, px_bs, px_rb0, px_rb1, px_min, px_max, px_compare, pxW_some, jw_t_I, px_cpt, jw_r_I, px_cpr, jw_l_I, px_cpl, Option.some.injEq, c3, f3, w0, w2, rl]
    refine pxW_b2 K fun q h1 k => ?_
    obtain ⟨F1, rfl, Y1⟩ := k
    have H1 : pxIX h1 T := pxIT.fr H F1 (fun k f _ _ => by unfold pxC; omega)
    unfold pxSpEq
    have F1' : pxF pxQT h h1 := F1.mono (fun k f z => by unfold pxC at z; unfold pxQT; omega)
    by_cases d : S.2.1.length < 100
    · rw [if_pos d] at Y1
      rw [if_pos d, if_pos d]
      exact pxW_some.mpr ⟨F1', rfl, fun _ => ⟨H1, Y1⟩, fun z => absurd rfl z⟩
    · rw [if_neg d] at Y1
      rw [if_neg d, if_neg d]
      exact pxW_some.mpr ⟨F1', rfl, fun z => absurd z (by show ¬ (4 : Int) = 0; omega), fun _ => ⟨⟨_, H1⟩, Y1⟩⟩
  rw [if_neg c3]
  by_cases c4 : pxP s p = 104
  · rw [if_pos c4]
    have K := s_X8_hold Y H.2.1 (Or.inl (by omega)) (x := f) (y := l) f1 fl (by omega) (by omega)
    simp (maxSteps := 4000000) (disch := first | assumption | omega | (simp only [jw_t_I, px_cpt]; done) | (simp only [jw_t_I, px_cpt]; omega)) only [pxL0, pxL1, pxL2, pxL3, pxL4, pxL5, pxL6, pxL7, pxL8, pxL9, pxL10, pxL11, pxL12, pxL13, pxL14, pxL15, pxL16, pxL17, pxL18, pxL19, pxL20, pxL21, pxL22, pxL23, pxL24, pxL25, pxL26, pxL27, pxL28, pxL29, pxL30, pxL31, pxL32, pxL33, pxL34, pxL35, pxL36, pxL37, pxL38, pxL39, pxL40, pxL41, pxL42, pxL43, pxL44, pxL45, pxL46, pxL47, pxL48, pxL49, pxL51, pxL57, pxL58, pxL59, pxL60, pxL61, pxL62, pxL63, pxL64, pxL65, pxL66, pxL67, pxL68, pxL69, pxL70, pxL71, pxL72, pxL73, pxL74, pxL75, pxL76, pxL77, pxL78, pxL79, pxL80, pxL81, pxL82, pxL83, pxL84, pxL85, pxL86, pxL87, pxL88, pxL89, pxL90, pxL91, pxL92, pxL93, pxL94, pxL95, pxL96, pxL97, pxL98, pxL99, pxL100, pxL101, pxL102, pxL103, pxL104, pxL105, pxL106, pxL107, pxL108, pxL109, pxL110, pxL111, pxL112, pxL113, pxL114, pxL115, pxL116, pxL117, pxL118, pxL119, pxL120, pxL121, pxL122, pxL123, pxL124, pxL125, pxL126, pxL200, pxL240, pxL287, pxL388, pxL400, pxL429, pxL431, pxL440, pxL1240, pxL1600, pxL1681, pxL12028, pxL13849, pxL14880, pxL25173, pxL26908, pxL49600, pxL65535, pxL65536, ↓reduceIte, reduceCtorEq, pxJ_add, pxJ_sub, pxJ_mul, pxJ_neg, pxD_lt_t, pxD_lt_f, pxD_le_t, pxD_le_f, pxD_eq_t, pxD_eq_f, pxJ_lt, pxJ_le, pxJ_eq, px_gI, px_gR, px_pI, px_rc, px_ai, px_ar, px_si, px_ln, px_cp, pxJ_div, pxJ_b8, pxJ_byte, px_b2, px_bs, px_rb0, px_rb1, px_min, px_max, px_compare, pxW_some, jw_t_I, px_cpt, jw_r_I, px_cpr, jw_l_I, px_cpl, Option.some.injEq, c4, f3, w0, w2, w1, t9, r0, rf, rl]
    refine pxW_b2 K fun q h1 k => ?_
    obtain ⟨F1, Y1⟩ := k
    exact fin (r := pxSpHold f l T S) (S1 := (pxSub (pxRs T.1) f l, S.2.1, S.2.2)) F1 Y1 (fun _ => ⟨rfl, rfl⟩) (fun z => absurd rfl z)
  rw [if_neg c4]
  by_cases c5 : pxP s p = 72
  · rw [if_pos c5]
    have K := s_X8_holdMore Y H.2.1 (Or.inl (by omega)) (x := f) (y := l) f1 fl (by omega)
    simp (maxSteps := 4000000) (disch := first | assumption | omega | (simp only [jw_t_I, px_cpt]; done) | (simp only [jw_t_I, px_cpt]; omega)) only [pxL0, pxL1, pxL2, pxL3, pxL4, pxL5, pxL6, pxL7, pxL8, pxL9, pxL10, pxL11, pxL12, pxL13, pxL14, pxL15, pxL16, pxL17, pxL18, pxL19, pxL20, pxL21, pxL22, pxL23, pxL24, pxL25, pxL26, pxL27, pxL28, pxL29, pxL30, pxL31, pxL32, pxL33, pxL34, pxL35, pxL36, pxL37, pxL38, pxL39, pxL40, pxL41, pxL42, pxL43, pxL44, pxL45, pxL46, pxL47, pxL48, pxL49, pxL51, pxL57, pxL58, pxL59, pxL60, pxL61, pxL62, pxL63, pxL64, pxL65, pxL66, pxL67, pxL68, pxL69, pxL70, pxL71, pxL72, pxL73, pxL74, pxL75, pxL76, pxL77, pxL78, pxL79, pxL80, pxL81, pxL82, pxL83, pxL84, pxL85, pxL86, pxL87, pxL88, pxL89, pxL90, pxL91, pxL92, pxL93, pxL94, pxL95, pxL96, pxL97, pxL98, pxL99, pxL100, pxL101, pxL102, pxL103, pxL104, pxL105, pxL106, pxL107, pxL108, pxL109, pxL110, pxL111, pxL112, pxL113, pxL114, pxL115, pxL116, pxL117, pxL118, pxL119, pxL120, pxL121, pxL122, pxL123, pxL124, pxL125, pxL126, pxL200, pxL240, pxL287, pxL388, pxL400, pxL429, pxL431, pxL440, pxL1240, pxL1600, pxL1681, pxL12028, pxL13849, pxL14880, pxL25173, pxL26908, pxL49600, pxL65535, pxL65536, ↓reduceIte, reduceCtorEq, pxJ_add, pxJ_sub, pxJ_mul, pxJ_neg, pxD_lt_t, pxD_lt_f, pxD_le_t, pxD_le_f, pxD_eq_t, pxD_eq_f, pxJ_lt, pxJ_le, pxJ_eq, px_gI, px_gR, px_pI, px_rc, px_ai, px_ar, px_si, px_ln, px_cp, pxJ_div, pxJ_b8, pxJ_byte, px_b2, px_bs, px_rb0, px_rb1, px_min, px_max, px_compare, pxW_some, jw_t_I, px_cpt, jw_r_I, px_cpr, jw_l_I, px_cpl, Option.some.injEq, c5, f3, w0, w2, w1, t9, r0, rf, rl]
    refine pxW_b2 K fun q h1 k => ?_
    obtain ⟨F1, rfl, Y1⟩ := k
    unfold pxSpMore
    by_cases d : (S.1.length : Int) + (l - f + 1) ≤ 40
    · rw [if_pos d] at Y1
      rw [if_pos d, if_pos d]
      exact fin (r := (0, (T.1, T.2.1, l, T.2.2.2), (S.1 ++ pxSub (pxRs T.1) f l, S.2.1, S.2.2))) (S1 := (S.1 ++ pxSub (pxRs T.1) f l, S.2.1, S.2.2)) F1 Y1 (fun _ => ⟨rfl, rfl⟩) (fun z => absurd rfl z)
    · rw [if_neg d] at Y1
      rw [if_neg d, if_neg d]
      exact fin (r := (4, T, S)) (S1 := S) F1 Y1 (fun z => absurd z (by show ¬ (4 : Int) = 0; omega)) (fun _ => rfl)
  rw [if_neg c5]
  by_cases c6 : pxP s p = 107
  · rw [if_pos c6]
    have fl' := ne (by omega)
    obtain ⟨n5, n6, n7⟩ : pxM h oo 5 = pxP s (p + 1) - 97 ∧ 97 ≤ pxP s (p + 1) ∧ pxP s (p + 1) ≤ 101 := by
      rcases c with c | c | c | c | c | c | c
      · omega
      · omega
      · omega
      · omega
      · omega
      · exact c.2
      · omega
    have io := s_X9_idOf H (x := l) (by omega) (by omega)
    rw [if_pos ⟨by omega, l1⟩] at io
    have ir := pxIT.idr H (x := l) (by omega) l1
    have K := s_X9_setMark H (k := pxP s (p + 1) - 97) (id := pxId T.1 l) (by omega) (by omega) ir.1 ir.2
    simp (maxSteps := 4000000) (disch := first | assumption | omega | (simp only [jw_t_I, px_cpt]; done) | (simp only [jw_t_I, px_cpt]; omega)) only [pxL0, pxL1, pxL2, pxL3, pxL4, pxL5, pxL6, pxL7, pxL8, pxL9, pxL10, pxL11, pxL12, pxL13, pxL14, pxL15, pxL16, pxL17, pxL18, pxL19, pxL20, pxL21, pxL22, pxL23, pxL24, pxL25, pxL26, pxL27, pxL28, pxL29, pxL30, pxL31, pxL32, pxL33, pxL34, pxL35, pxL36, pxL37, pxL38, pxL39, pxL40, pxL41, pxL42, pxL43, pxL44, pxL45, pxL46, pxL47, pxL48, pxL49, pxL51, pxL57, pxL58, pxL59, pxL60, pxL61, pxL62, pxL63, pxL64, pxL65, pxL66, pxL67, pxL68, pxL69, pxL70, pxL71, pxL72, pxL73, pxL74, pxL75, pxL76, pxL77, pxL78, pxL79, pxL80, pxL81, pxL82, pxL83, pxL84, pxL85, pxL86, pxL87, pxL88, pxL89, pxL90, pxL91, pxL92, pxL93, pxL94, pxL95, pxL96, pxL97, pxL98, pxL99, pxL100, pxL101, pxL102, pxL103, pxL104, pxL105, pxL106, pxL107, pxL108, pxL109, pxL110, pxL111, pxL112, pxL113, pxL114, pxL115, pxL116, pxL117, pxL118, pxL119, pxL120, pxL121, pxL122, pxL123, pxL124, pxL125, pxL126, pxL200, pxL240, pxL287, pxL388, pxL400, pxL429, pxL431, pxL440, pxL1240, pxL1600, pxL1681, pxL12028, pxL13849, pxL14880, pxL25173, pxL26908, pxL49600, pxL65535, pxL65536, ↓reduceIte, reduceCtorEq, pxJ_add, pxJ_sub, pxJ_mul, pxJ_neg, pxD_lt_t, pxD_lt_f, pxD_le_t, pxD_le_f, pxD_eq_t, pxD_eq_f, pxJ_lt, pxJ_le, pxJ_eq, px_gI, px_gR, px_pI, px_rc, px_ai, px_ar, px_si, px_ln, px_cp, pxJ_div, pxJ_b8, pxJ_byte, px_b2, px_bs, px_rb0, px_rb1, px_min, px_max, px_compare, pxW_some, jw_t_I, px_cpt, jw_r_I, px_cpr, jw_l_I, px_cpl, Option.some.injEq, c6, f3, w0, w1, n5, rl, t9, io]
    refine pxW_b2 K fun q h1 k => ?_
    obtain ⟨F1, H1⟩ := k
    exact pxW_some.mpr ⟨F1.mono (fun k f z => by unfold pxC at z; unfold pxQT; omega), rfl, fun _ => ⟨H1, pxIS.fr Y F1 (fun k f _ _ => by unfold pxC; omega)⟩, fun z => absurd rfl z⟩
  rw [if_neg c6]
  obtain ⟨c7, n5, n6, n7⟩ : pxP s p = 119 ∧ pxM h oo 5 = pxP s (p + 1) - 48 ∧ 48 ≤ pxP s (p + 1) ∧ pxP s (p + 1) ≤ 51 := by
    rcases c with c | c | c | c | c | c | c
    · omega
    · omega
    · omega
    · omega
    · omega
    · omega
    · exact c
  have fi := s_X8_file Y.1 (k := pxP s (p + 1) - 48) (by omega) (by omega)
  rw [if_pos ⟨by omega, by omega⟩] at fi
  have K := s_X10_writeFile (k := pxP s (p + 1) - 48) W Rn H Y (by omega) (by omega) f1 fl l1
  simp (maxSteps := 4000000) (disch := first | assumption | omega | (simp only [jw_t_I, px_cpt]; done) | (simp only [jw_t_I, px_cpt]; omega)) only [pxL0, pxL1, pxL2, pxL3, pxL4, pxL5, pxL6, pxL7, pxL8, pxL9, pxL10, pxL11, pxL12, pxL13, pxL14, pxL15, pxL16, pxL17, pxL18, pxL19, pxL20, pxL21, pxL22, pxL23, pxL24, pxL25, pxL26, pxL27, pxL28, pxL29, pxL30, pxL31, pxL32, pxL33, pxL34, pxL35, pxL36, pxL37, pxL38, pxL39, pxL40, pxL41, pxL42, pxL43, pxL44, pxL45, pxL46, pxL47, pxL48, pxL49, pxL51, pxL57, pxL58, pxL59, pxL60, pxL61, pxL62, pxL63, pxL64, pxL65, pxL66, pxL67, pxL68, pxL69, pxL70, pxL71, pxL72, pxL73, pxL74, pxL75, pxL76, pxL77, pxL78, pxL79, pxL80, pxL81, pxL82, pxL83, pxL84, pxL85, pxL86, pxL87, pxL88, pxL89, pxL90, pxL91, pxL92, pxL93, pxL94, pxL95, pxL96, pxL97, pxL98, pxL99, pxL100, pxL101, pxL102, pxL103, pxL104, pxL105, pxL106, pxL107, pxL108, pxL109, pxL110, pxL111, pxL112, pxL113, pxL114, pxL115, pxL116, pxL117, pxL118, pxL119, pxL120, pxL121, pxL122, pxL123, pxL124, pxL125, pxL126, pxL200, pxL240, pxL287, pxL388, pxL400, pxL429, pxL431, pxL440, pxL1240, pxL1600, pxL1681, pxL12028, pxL13849, pxL14880, pxL25173, pxL26908, pxL49600, pxL65535, pxL65536, ↓reduceIte, reduceCtorEq, pxJ_add, pxJ_sub, pxJ_mul, pxJ_neg, pxD_lt_t, pxD_lt_f, pxD_le_t, pxD_le_f, pxD_eq_t, pxD_eq_f, pxJ_lt, pxJ_le, pxJ_eq, px_gI, px_gR, px_pI, px_rc, px_ai, px_ar, px_si, px_ln, px_cp, pxJ_div, pxJ_b8, pxJ_byte, px_b2, px_bs, px_rb0, px_rb1, px_min, px_max, px_compare, pxW_some, jw_t_I, px_cpt, jw_r_I, px_cpr, jw_l_I, px_cpl, Option.some.injEq, c7, f3, w0, w2, n5, fi]
  refine pxW_b2 K fun q h1 k => ?_
  obtain ⟨F1, rfl, R1⟩ := k
  exact pxW_some.mpr ⟨F1, rfl, R1⟩
end
