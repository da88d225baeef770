/-! orders over the whole: a run -/
theorem pxInnr_came {s : List Int} : ∀ (ps : List Int) (came : Int) (T : pxTx) (S : pxSto) (rep : Bool), came ≤ (pxInnr s ps came T S rep).2.1
  | [], came, T, S, rep => Int.le_refl _
  | q :: r, came, T, S, rep => by
    unfold pxInnr
    by_cases c : 60 ≤ came
    · rw [if_pos c]; dsimp only; omega
    · rw [if_neg c]
      by_cases d : (pxOne s q T S rep).1.1 ≠ 0
      · rw [if_pos d]; dsimp only; omega
      · rw [if_neg d]
        have := pxInnr_came (s := s) r (came + 1) (pxOne s q T S rep).1.2.1 (pxOne s q T S rep).1.2.2 (pxOne s q T S rep).2
        omega
theorem pxMets_came {s ps : List Int} : ∀ (ids : List Int) (came : Int) (T : pxTx) (S : pxSto) (rep : Bool), came ≤ (pxMets s ps ids came T S rep).2.1
  | [], came, T, S, rep => Int.le_refl _
  | id :: r, came, T, S, rep => by
    unfold pxMets
    by_cases c : pxNo T.1 id = -1
    · rw [if_pos c]; exact pxMets_came r came T S rep
    · rw [if_neg c]
      have i1 := pxInnr_came (s := s) ps came (T.1, T.2.1, pxNo T.1 id, T.2.2.2) S rep
      by_cases d : (pxInnr s ps came (T.1, T.2.1, pxNo T.1 id, T.2.2.2) S rep).1 ≠ 0
      · rw [if_pos d]; exact i1
      · rw [if_neg d]
        have := pxMets_came (s := s) (ps := ps) r (pxInnr s ps came (T.1, T.2.1, pxNo T.1 id, T.2.2.2) S rep).2.1 (pxInnr s ps came (T.1, T.2.1, pxNo T.1 id, T.2.2.2) S rep).2.2.1 (pxInnr s ps came (T.1, T.2.1, pxNo T.1 id, T.2.2.2) S rep).2.2.2.1 (pxInnr s ps came (T.1, T.2.1, pxNo T.1 id, T.2.2.2) S rep).2.2.2.2
        omega
/-- a step of a run: the reason, the next place, how many were come to, text, stores, whether one was replaced -/
def pxStep (s : List Int) (L : List (Int × List Int)) (j : Nat) (t : Int × List Int) (came : Int) (T : pxTx) (S : pxSto) (rep : Bool) : Int × Nat × Int × pxTx × pxSto × Bool :=
  if 60 ≤ came then (7, j, came, T, S, rep)
  else if pxSteer (pxAc s t.1) = true then
    (if (pxWh s t.1).2.2.1 ≠ 0 ∧ (pxRng s t.1 T).1 ≠ 0 then ((pxRng s t.1 T).1, j, came + 1, T, S, rep)
     else ((pxStr s L j t.1 (pxRng s t.1 T).2.1 (pxRng s t.1 T).2.2 T rep).1, (pxStr s L j t.1 (pxRng s t.1 T).2.1 (pxRng s t.1 T).2.2 T rep).2.1, came + 1, (pxStr s L j t.1 (pxRng s t.1 T).2.1 (pxRng s t.1 T).2.2 T rep).2.2.1, S, (pxStr s L j t.1 (pxRng s t.1 T).2.1 (pxRng s t.1 T).2.2 T rep).2.2.2))
  else if (pxRng s t.1 T).1 ≠ 0 then ((pxRng s t.1 T).1, j, came + 1, T, S, rep)
  else if pxAc s t.1 = 103 ∨ pxAc s t.1 = 71 ∨ pxAc s t.1 = 123 then
    ((pxGp s t.1 t.2 (pxRng s t.1 T).2.1 (pxRng s t.1 T).2.2 (came + 1) T S rep).1, j + 1, (pxGp s t.1 t.2 (pxRng s t.1 T).2.1 (pxRng s t.1 T).2.2 (came + 1) T S rep).2.1, (pxGp s t.1 t.2 (pxRng s t.1 T).2.1 (pxRng s t.1 T).2.2 (came + 1) T S rep).2.2.1, (pxGp s t.1 t.2 (pxRng s t.1 T).2.1 (pxRng s t.1 T).2.2 (came + 1) T S rep).2.2.2.1, (pxGp s t.1 t.2 (pxRng s t.1 T).2.1 (pxRng s t.1 T).2.2 (came + 1) T S rep).2.2.2.2)
  else ((pxDo s (pxWh s t.1).2.1 (pxRng s t.1 T).2.1 (pxRng s t.1 T).2.2 T S rep).1.1, j + 1, came + 1, (pxDo s (pxWh s t.1).2.1 (pxRng s t.1 T).2.1 (pxRng s t.1 T).2.2 T S rep).1.2.1, (pxDo s (pxWh s t.1).2.1 (pxRng s t.1 T).2.1 (pxRng s t.1 T).2.2 T S rep).1.2.2, (pxDo s (pxWh s t.1).2.1 (pxRng s t.1 T).2.1 (pxRng s t.1 T).2.2 T S rep).2)
/-- the deeds behind an order -/
def pxDeed (c call : Int) (T : pxTx) (D : List (Int × pxSn)) : List (Int × pxSn) := if c = 58 ∨ c = 98 ∨ c = 84 ∨ c = 113 then D else pxPush D (call, pxSnap T)
/-- a run: how many were done, the reason, text, stores, deeds -/
def pxRunL (s : List Int) (L : List (Int × List Int)) (call : Int) : Nat → Nat → Int → Int → pxTx → pxSto → Bool → List (Int × pxSn) → Int × Int × pxTx × pxSto × List (Int × pxSn)
  | 0, _, done, _, T, S, _, D => (done, 0, T, S, D)
  | m + 1, j, done, came, T, S, rep, D => (L[j]?).elim (done, 0, T, S, D) fun t =>
    if (pxStep s L j t came T S rep).1 ≠ 0 then (done, (pxStep s L j t came T S rep).1, T, S, D)
    else pxRunL s L call m (pxStep s L j t came T S rep).2.1 (done + 1) (pxStep s L j t came T S rep).2.2.1 (pxStep s L j t came T S rep).2.2.2.1 (pxStep s L j t came T S rep).2.2.2.2.1 (pxStep s L j t came T S rep).2.2.2.2.2 (pxDeed (pxAc s t.1) call T D)
def pxQP : Nat → Nat → Prop := fun k f => pxQH k f ∨ (k = 559 ∧ (f = 14 ∨ f = 16)) ∨ (282 ≤ k ∧ k ≤ 530) ∨ (k = 536 ∧ f = 5)
/-- what stands between orders of a run -/
def pxRS (nB : Int) (h : jw_H) (b : Nat) (s : List Int) (L : List (Int × List Int)) (T : pxTx) (S : pxSto) (rep : Bool) (came : Int) (D : List (Int × pxSn)) : Prop := pxPr h b s L ∧ pxGS nB h T S rep came ∧ pxHI h D ∧ pxSSX h 538 ∧ pxM h 559 16 = 0
/-- what a run leaves -/
def pxRE (nB : Int) (h h' : jw_H) (T : pxTx) (S : pxSto) (D : List (Int × pxSn)) (r : Int) : Prop := pxF pxQP h h' ∧ (∃ rep', pxAux h' rep') ∧ pxIX h' T ∧ pxIY h' S ∧ pxHI h' D ∧ pxSSX h' 538 ∧ pxM h' 559 16 = r ∧ pxInv T ∧ pxInvS S ∧ T.2.2.2 ≤ nB
section
variable {b j k : Nat} {s : List Int} {L : List (Int × List Int)} {c r dn call nB : Int} {T : pxTx} {S : pxSto} {rep : Bool} {D : List (Int × pxSn)} {k25 : jw_H → Nat → Int32 → Int32 → Int32 → Int32 → Option (Int32 × jw_H)}
theorem s_b178 {h : jw_H} (W : pxWF h) (t5 : (jw_t h (12 + 4 * k)).1 = 5) (f3 : pxM h (12 + 4 * k) 3 = c) (m16 : pxM h 559 16 = r) (HN : pxHN h D T) (X : pxSX h 255) (c0 : -2147483648 ≤ call) (c1 : call ≤ 2147483647) (d0 : 0 ≤ dn) (d1 : dn ≤ 60) :
    (r = 0 → ∃ h', g_X10_perform_b178 k25 h 559 (pxJ call) (pxJ dn) (pxJ dn) (some (12 + 4 * k)) = k25 h' 559 (pxJ call) (pxJ (dn + 1)) (pxJ (pxM h 559 14)) (pxJ (dn + 1)) ∧ pxF (fun k _ => k = 282 ∨ k = 284) h h' ∧ pxHI h' (pxDeed c call T D)) ∧
    (r ≠ 0 → ∃ h', g_X10_perform_b178 k25 h 559 (pxJ call) (pxJ dn) (pxJ dn) (some (12 + 4 * k)) = some (pxJ dn, h') ∧ pxF (pxC 255 260) h h' ∧ pxIX h' T ∧ pxHI h' D) := by
  have w0 := W.1
  have w1 := W.2.2.1
  have w6 := W.2.2.2.2.2.2.2.1
  have HN' := HN
  obtain ⟨B, HD, -, -⟩ := HN'
  have t3 := HD.1.1
  have r1 := pxM_lo h 559 16
  have r2 := pxM_hi h 559 16
  rw [m16] at r1 r2
  have dd := s_X5_isDeed t5 f3
  refine ⟨fun z => ?_, fun z => ?_⟩
  · unfold pxDeed
    rw [z] at m16
    by_cases cd : c = 58 ∨ c = 98 ∨ c = 84 ∨ c = 113
    · rw [if_pos cd] at dd ⊢
      refine ⟨h, ?_, pxF.rfl, ⟨B, HD⟩⟩
      unfold g_X10_perform_b178 g_X10_perform_b215
      clear HN HD X W cd
      simp (maxSteps := 4000000) (disch := first | assumption | omega | (simp only [jw_t_I, px_cpt, t5]; done) | (simp only [jw_t_I, px_cpt, t5]; omega)) only [pxL0, pxL1, pxL2, pxL3, pxL4, pxL5, pxL6, pxL7, pxL8, pxL9, pxL10, pxL11, pxL12, pxL13, pxL14, pxL15, pxL16, pxL17, pxL18, pxL19, pxL20, pxL21, pxL22, pxL23, pxL24, pxL25, pxL26, pxL27, pxL28, pxL29, pxL30, pxL31, pxL32, pxL33, pxL34, pxL35, pxL36, pxL37, pxL38, pxL39, pxL40, pxL41, pxL42, pxL43, pxL44, pxL45, pxL46, pxL47, pxL48, pxL49, pxL51, pxL57, pxL58, pxL59, pxL60, pxL61, pxL62, pxL63, pxL64, pxL65, pxL66, pxL67, pxL68, pxL69, pxL70, pxL71, pxL72, pxL73, pxL74, pxL75, pxL76, pxL77, pxL78, pxL79, pxL80, pxL81, pxL82, pxL83, pxL84, pxL85, pxL86, pxL87, pxL88, pxL89, pxL90, pxL91, pxL92, pxL93, pxL94, pxL95, pxL96, pxL97, pxL98, pxL99, pxL100, pxL101, pxL102, pxL103, pxL104, pxL105, pxL106, pxL107, pxL108, pxL109, pxL110, pxL111, pxL112, pxL113, pxL114, pxL115, pxL116, pxL117, pxL118, pxL119, pxL120, pxL121, pxL122, pxL123, pxL124, pxL125, pxL126, pxL200, pxL240, pxL287, pxL388, pxL400, pxL429, pxL431, pxL440, pxL1240, pxL1600, pxL1681, pxL12028, pxL13849, pxL14880, pxL25173, pxL26908, pxL49600, pxL65535, pxL65536, ↓reduceIte, reduceCtorEq, pxJ_add, pxJ_sub, pxJ_mul, pxJ_neg, pxD_lt_t, pxD_lt_f, pxD_le_t, pxD_le_f, pxD_eq_t, pxD_eq_f, pxJ_lt, pxJ_le, pxJ_eq, px_gI, px_gR, px_pI, px_rc, px_ai, px_ar, px_si, px_ln, px_cp, pxJ_div, pxJ_b8, pxJ_byte, px_b2, px_bs, px_rb0, px_rb1, px_min, px_max, px_compare, pxW_some, jw_t_I, px_cpt, jw_r_I, px_cpr, jw_l_I, px_cpl, Option.some.injEq, t5, w0, m16, dd]
    · rw [if_neg cd] at dd ⊢
      obtain ⟨h1, e1, F1, H1⟩ := s_X3_store HN c0 c1
      refine ⟨h1, ?_, F1, H1⟩
      have w01 : (jw_t h1 559).1 = 10 := by rw [F1.t]; exact w0
      have m14 : pxM h1 559 14 = pxM h 559 14 := F1.m (by omega)
      unfold g_X10_perform_b178 g_X10_perform_b215
      clear HN HD X W cd H1 F1
      simp (maxSteps := 4000000) (disch := first | assumption | omega | (simp only [jw_t_I, px_cpt, t5]; done) | (simp only [jw_t_I, px_cpt, t5]; omega)) only [pxL0, pxL1, pxL2, pxL3, pxL4, pxL5, pxL6, pxL7, pxL8, pxL9, pxL10, pxL11, pxL12, pxL13, pxL14, pxL15, pxL16, pxL17, pxL18, pxL19, pxL20, pxL21, pxL22, pxL23, pxL24, pxL25, pxL26, pxL27, pxL28, pxL29, pxL30, pxL31, pxL32, pxL33, pxL34, pxL35, pxL36, pxL37, pxL38, pxL39, pxL40, pxL41, pxL42, pxL43, pxL44, pxL45, pxL46, pxL47, pxL48, pxL49, pxL51, pxL57, pxL58, pxL59, pxL60, pxL61, pxL62, pxL63, pxL64, pxL65, pxL66, pxL67, pxL68, pxL69, pxL70, pxL71, pxL72, pxL73, pxL74, pxL75, pxL76, pxL77, pxL78, pxL79, pxL80, pxL81, pxL82, pxL83, pxL84, pxL85, pxL86, pxL87, pxL88, pxL89, pxL90, pxL91, pxL92, pxL93, pxL94, pxL95, pxL96, pxL97, pxL98, pxL99, pxL100, pxL101, pxL102, pxL103, pxL104, pxL105, pxL106, pxL107, pxL108, pxL109, pxL110, pxL111, pxL112, pxL113, pxL114, pxL115, pxL116, pxL117, pxL118, pxL119, pxL120, pxL121, pxL122, pxL123, pxL124, pxL125, pxL126, pxL200, pxL240, pxL287, pxL388, pxL400, pxL429, pxL431, pxL440, pxL1240, pxL1600, pxL1681, pxL12028, pxL13849, pxL14880, pxL25173, pxL26908, pxL49600, pxL65535, pxL65536, ↓reduceIte, reduceCtorEq, pxJ_add, pxJ_sub, pxJ_mul, pxJ_neg, pxD_lt_t, pxD_lt_f, pxD_le_t, pxD_le_f, pxD_eq_t, pxD_eq_f, pxJ_lt, pxJ_le, pxJ_eq, px_gI, px_gR, px_pI, px_rc, px_ai, px_ar, px_si, px_ln, px_cp, pxJ_div, pxJ_b8, pxJ_byte, px_b2, px_bs, px_rb0, px_rb1, px_min, px_max, px_compare, pxW_some, jw_t_I, px_cpt, jw_r_I, px_cpr, jw_l_I, px_cpl, Option.some.injEq, t5, w0, m16, dd, w6, t3, e1, w01, m14]
  · obtain ⟨a, h1, e1, F1, I1⟩ := s_X3_restore HN X
    refine ⟨h1, ?_, F1, I1, ⟨B, HD.fr F1 (fun k f _ => by unfold pxC; omega)⟩⟩
    unfold g_X10_perform_b178
    clear HN HD X W I1 F1
    simp (maxSteps := 4000000) (disch := first | assumption | omega | (simp only [jw_t_I, px_cpt, t5]; done) | (simp only [jw_t_I, px_cpt, t5]; omega)) only [pxL0, pxL1, pxL2, pxL3, pxL4, pxL5, pxL6, pxL7, pxL8, pxL9, pxL10, pxL11, pxL12, pxL13, pxL14, pxL15, pxL16, pxL17, pxL18, pxL19, pxL20, pxL21, pxL22, pxL23, pxL24, pxL25, pxL26, pxL27, pxL28, pxL29, pxL30, pxL31, pxL32, pxL33, pxL34, pxL35, pxL36, pxL37, pxL38, pxL39, pxL40, pxL41, pxL42, pxL43, pxL44, pxL45, pxL46, pxL47, pxL48, pxL49, pxL51, pxL57, pxL58, pxL59, pxL60, pxL61, pxL62, pxL63, pxL64, pxL65, pxL66, pxL67, pxL68, pxL69, pxL70, pxL71, pxL72, pxL73, pxL74, pxL75, pxL76, pxL77, pxL78, pxL79, pxL80, pxL81, pxL82, pxL83, pxL84, pxL85, pxL86, pxL87, pxL88, pxL89, pxL90, pxL91, pxL92, pxL93, pxL94, pxL95, pxL96, pxL97, pxL98, pxL99, pxL100, pxL101, pxL102, pxL103, pxL104, pxL105, pxL106, pxL107, pxL108, pxL109, pxL110, pxL111, pxL112, pxL113, pxL114, pxL115, pxL116, pxL117, pxL118, pxL119, pxL120, pxL121, pxL122, pxL123, pxL124, pxL125, pxL126, pxL200, pxL240, pxL287, pxL388, pxL400, pxL429, pxL431, pxL440, pxL1240, pxL1600, pxL1681, pxL12028, pxL13849, pxL14880, pxL25173, pxL26908, pxL49600, pxL65535, pxL65536, ↓reduceIte, reduceCtorEq, pxJ_add, pxJ_sub, pxJ_mul, pxJ_neg, pxD_lt_t, pxD_lt_f, pxD_le_t, pxD_le_f, pxD_eq_t, pxD_eq_f, pxJ_lt, pxJ_le, pxJ_eq, px_gI, px_gR, px_pI, px_rc, px_ai, px_ar, px_si, px_ln, px_cp, pxJ_div, pxJ_b8, pxJ_byte, px_b2, px_bs, px_rb0, px_rb1, px_min, px_max, px_compare, pxW_some, jw_t_I, px_cpt, jw_r_I, px_cpr, jw_l_I, px_cpl, Option.some.injEq, t5, w0, m16, w6, w1, t3, e1]
theorem s_bad {h h2 : jw_H} (F : pxF pxQP h h2) (A : ∃ rep', pxAux h2 rep') (I : ∃ T', pxIX h2 T') (Y : pxIY h2 S) (HN : pxHN h2 D T) (B : pxSSX h2 538) (IV : pxInv T) (IS : pxInvS S) (nb : T.2.2.2 ≤ nB) (t5 : (jw_t h2 (12 + 4 * k)).1 = 5) (m16 : pxM h2 559 16 = r) (r0 : r ≠ 0) (c0 : -2147483648 ≤ call) (c1 : call ≤ 2147483647) (d0 : 0 ≤ dn) (d1 : dn ≤ 60) :
    ∃ h', g_X10_perform_b178 k25 h2 559 (pxJ call) (pxJ dn) (pxJ dn) (some (12 + 4 * k)) = some (pxJ dn, h') ∧ pxRE nB h h' T S D r := by
  obtain ⟨rep', A⟩ := A
  obtain ⟨T', I⟩ := I
  obtain ⟨-, y2⟩ := s_b178 (k25 := k25) A.1 t5 rfl m16 HN (pxIT.sx I) c0 c1 d0 d1
  obtain ⟨h', e, F', I', H'⟩ := y2 r0
  exact ⟨h', e, F.trans (F'.mono (fun k f z => by unfold pxC at z; unfold pxQP pxQH pxQG pxQA; omega)), ⟨rep', A.fr F' (fun k f z => by unfold pxC; omega)⟩, I', pxIS.fr Y F' (fun k f _ _ => by unfold pxC; omega), H', B.fr F' (fun k f _ _ => by unfold pxC; omega), by rw [F'.m (by unfold pxC; omega)]; exact m16, IV, IS, nb⟩
theorem s_good {h h2 : jw_H} {T' : pxTx} {S' : pxSto} {came : Int} {j' : Nat} (F : pxF pxQP h h2) (PR : pxPr h2 b s L) (G : pxGS nB h2 T' S' rep came) (HN : pxHN h2 D T) (B : pxSSX h2 538) (t5 : (jw_t h2 (12 + 4 * k)).1 = 5) (f3 : pxM h2 (12 + 4 * k) 3 = c) (m16 : pxM h2 559 16 = 0) (m14 : pxM h2 559 14 = ((pxCnt (L.take j') : Nat) : Int)) (c0 : -2147483648 ≤ call) (c1 : call ≤ 2147483647) (d0 : 0 ≤ dn) (d1 : dn ≤ 60) :
    ∃ h', g_X10_perform_b178 k25 h2 559 (pxJ call) (pxJ dn) (pxJ dn) (some (12 + 4 * k)) = k25 h' 559 (pxJ call) (pxJ (dn + 1)) (pxJ ((pxCnt (L.take j') : Nat) : Int)) (pxJ (dn + 1)) ∧ pxF pxQP h h' ∧ pxRS nB h' b s L T' S' rep came (pxDeed c call T D) := by
  obtain ⟨y1, -⟩ := s_b178 (k25 := k25) G.1.1 t5 f3 m16 HN (pxIT.sx G.2.1) c0 c1 d0 d1
  obtain ⟨h', e, F', H'⟩ := y1 rfl
  rw [m14] at e
  exact ⟨h', e, F.trans (F'.mono (fun k f z => by unfold pxQP; omega)), PR.fb F' (fun k f z => by omega), G.fr F' (fun k f z => by omega), H', B.fr F' (fun k f _ _ => by omega), by rw [F'.m (by omega)]; exact m16⟩
theorem s_b101r {h : jw_H} {x1 x2 x3 x4 : Int32} {x5 : Option Nat} (w0 : (jw_t h 559).1 = 10) (r0 : r ≠ 0) (r1 : 0 ≤ r) (r2 : r ≤ 7) : g_X10_perform_b101 k25 h 559 x1 x2 x3 x4 x5 559 (pxJ r) = g_X10_perform_b178 k25 (jw_setI h 559 16 (pxJ r)) 559 x1 x2 x4 x5 := by
  have m16 : pxM (jw_setI h 559 16 (pxJ r)) 559 16 = r := pxM_eq (by omega) (by omega)
  unfold g_X10_perform_b101 g_X10_perform_b132 g_X10_perform_b161
  simp (maxSteps := 4000000) (disch := first | assumption | omega | (simp only [jw_t_I, px_cpt]; done) | (simp only [jw_t_I, px_cpt]; omega)) only [pxL0, pxL1, pxL2, pxL3, pxL4, pxL5, pxL6, pxL7, pxL8, pxL9, pxL10, pxL11, pxL12, pxL13, pxL14, pxL15, pxL16, pxL17, pxL18, pxL19, pxL20, pxL21, pxL22, pxL23, pxL24, pxL25, pxL26, pxL27, pxL28, pxL29, pxL30, pxL31, pxL32, pxL33, pxL34, pxL35, pxL36, pxL37, pxL38, pxL39, pxL40, pxL41, pxL42, pxL43, pxL44, pxL45, pxL46, pxL47, pxL48, pxL49, pxL51, pxL57, pxL58, pxL59, pxL60, pxL61, pxL62, pxL63, pxL64, pxL65, pxL66, pxL67, pxL68, pxL69, pxL70, pxL71, pxL72, pxL73, pxL74, pxL75, pxL76, pxL77, pxL78, pxL79, pxL80, pxL81, pxL82, pxL83, pxL84, pxL85, pxL86, pxL87, pxL88, pxL89, pxL90, pxL91, pxL92, pxL93, pxL94, pxL95, pxL96, pxL97, pxL98, pxL99, pxL100, pxL101, pxL102, pxL103, pxL104, pxL105, pxL106, pxL107, pxL108, pxL109, pxL110, pxL111, pxL112, pxL113, pxL114, pxL115, pxL116, pxL117, pxL118, pxL119, pxL120, pxL121, pxL122, pxL123, pxL124, pxL125, pxL126, pxL200, pxL240, pxL287, pxL388, pxL400, pxL429, pxL431, pxL440, pxL1240, pxL1600, pxL1681, pxL12028, pxL13849, pxL14880, pxL25173, pxL26908, pxL49600, pxL65535, pxL65536, ↓reduceIte, reduceCtorEq, pxJ_add, pxJ_sub, pxJ_mul, pxJ_neg, pxD_lt_t, pxD_lt_f, pxD_le_t, pxD_le_f, pxD_eq_t, pxD_eq_f, pxJ_lt, pxJ_le, pxJ_eq, px_gI, px_gR, px_pI, px_rc, px_ai, px_ar, px_si, px_ln, px_cp, pxJ_div, pxJ_b8, pxJ_byte, px_b2, px_bs, px_rb0, px_rb1, px_min, px_max, px_compare, pxW_some, jw_t_I, px_cpt, jw_r_I, px_cpr, jw_l_I, px_cpl, Option.some.injEq, w0, m16]
/-- an order is come to, and its range is found -/
theorem s_b101z {h : jw_H} {x1 x2 x3 x4 : Int32} (w0 : (jw_t h 559).1 = 10) (t5 : (jw_t h (12 + 4 * k)).1 = 5) (hk : k < 60) (f3 : pxM h (12 + 4 * k) 3 = c) : g_X10_perform_b101 k25 h 559 x1 x2 x3 x4 (some (12 + 4 * k)) 559 (pxJ 0) =
    if pxSteer c = true then jw_b2 (f_X10_steer (jw_setI h 559 16 (pxJ 0)) 559 (some (12 + 4 * k))) fun w10 h9 => (jw_pI h9 10 (some 559) 16 w10).bind fun h11 => g_X10_perform_b178 k25 h11 559 x1 x2 x4 (some (12 + 4 * k))
    else if c = 103 ∨ c = 71 ∨ c = 123 then jw_b2 (f_X10_doGroup (jw_setI h 559 16 (pxJ 0)) 559 (some (12 + 4 * k)) x3) fun w9 h8 => (jw_pI h8 10 (some 559) 16 w9).bind fun h10 => g_X10_perform_b178 k25 h10 559 x1 x2 x4 (some (12 + 4 * k))
    else jw_b2 (f_X10_doOne (jw_setI h 559 16 (pxJ 0)) 559 (some (12 + 4 * k))) fun w5 h4 => (jw_pI h4 10 (some 559) 16 w5).bind fun h6 => g_X10_perform_b178 k25 h6 559 x1 x2 x4 (some (12 + 4 * k)) := by
  have m16 : pxM (jw_setI h 559 16 (pxJ 0)) 559 16 = 0 := pxM_eq (by omega) (by omega)
  have t5' : (jw_t (jw_setI h 559 16 (pxJ 0)) (12 + 4 * k)).1 = 5 := t5
  have f3' : pxM (jw_setI h 559 16 (pxJ 0)) (12 + 4 * k) 3 = c := by rw [pxM_ne (by omega)]; exact f3
  have se := s_X5_steers t5' f3'
  have ho := s_X5_holdsOthers t5' f3'
  unfold g_X10_perform_b101 g_X10_perform_b132 g_X10_perform_b161
  by_cases c1 : pxSteer c = true
  · rw [if_pos c1] at se ⊢
    simp (maxSteps := 4000000) (disch := first | assumption | omega | (simp only [jw_t_I, px_cpt, t5]; done) | (simp only [jw_t_I, px_cpt, t5]; omega)) only [pxL0, pxL1, pxL2, pxL3, pxL4, pxL5, pxL6, pxL7, pxL8, pxL9, pxL10, pxL11, pxL12, pxL13, pxL14, pxL15, pxL16, pxL17, pxL18, pxL19, pxL20, pxL21, pxL22, pxL23, pxL24, pxL25, pxL26, pxL27, pxL28, pxL29, pxL30, pxL31, pxL32, pxL33, pxL34, pxL35, pxL36, pxL37, pxL38, pxL39, pxL40, pxL41, pxL42, pxL43, pxL44, pxL45, pxL46, pxL47, pxL48, pxL49, pxL51, pxL57, pxL58, pxL59, pxL60, pxL61, pxL62, pxL63, pxL64, pxL65, pxL66, pxL67, pxL68, pxL69, pxL70, pxL71, pxL72, pxL73, pxL74, pxL75, pxL76, pxL77, pxL78, pxL79, pxL80, pxL81, pxL82, pxL83, pxL84, pxL85, pxL86, pxL87, pxL88, pxL89, pxL90, pxL91, pxL92, pxL93, pxL94, pxL95, pxL96, pxL97, pxL98, pxL99, pxL100, pxL101, pxL102, pxL103, pxL104, pxL105, pxL106, pxL107, pxL108, pxL109, pxL110, pxL111, pxL112, pxL113, pxL114, pxL115, pxL116, pxL117, pxL118, pxL119, pxL120, pxL121, pxL122, pxL123, pxL124, pxL125, pxL126, pxL200, pxL240, pxL287, pxL388, pxL400, pxL429, pxL431, pxL440, pxL1240, pxL1600, pxL1681, pxL12028, pxL13849, pxL14880, pxL25173, pxL26908, pxL49600, pxL65535, pxL65536, ↓reduceIte, reduceCtorEq, pxJ_add, pxJ_sub, pxJ_mul, pxJ_neg, pxD_lt_t, pxD_lt_f, pxD_le_t, pxD_le_f, pxD_eq_t, pxD_eq_f, pxJ_lt, pxJ_le, pxJ_eq, px_gI, px_gR, px_pI, px_rc, px_ai, px_ar, px_si, px_ln, px_cp, pxJ_div, pxJ_b8, pxJ_byte, px_b2, px_bs, px_rb0, px_rb1, px_min, px_max, px_compare, pxW_some, jw_t_I, px_cpt, jw_r_I, px_cpr, jw_l_I, px_cpl, Option.some.injEq, t5, w0, m16, se]
  · rw [if_neg c1] at se ⊢
    by_cases c2 : c = 103 ∨ c = 71 ∨ c = 123
    · rw [if_pos c2] at ho ⊢
      simp (maxSteps := 4000000) (disch := first | assumption | omega | (simp only [jw_t_I, px_cpt, t5]; done) | (simp only [jw_t_I, px_cpt, t5]; omega)) only [pxL0, pxL1, pxL2, pxL3, pxL4, pxL5, pxL6, pxL7, pxL8, pxL9, pxL10, pxL11, pxL12, pxL13, pxL14, pxL15, pxL16, pxL17, pxL18, pxL19, pxL20, pxL21, pxL22, pxL23, pxL24, pxL25, pxL26, pxL27, pxL28, pxL29, pxL30, pxL31, pxL32, pxL33, pxL34, pxL35, pxL36, pxL37, pxL38, pxL39, pxL40, pxL41, pxL42, pxL43, pxL44, pxL45, pxL46, pxL47, pxL48, pxL49, pxL51, pxL57, pxL58, pxL59, pxL60, pxL61, pxL62, pxL63, pxL64, pxL65, pxL66, pxL67, pxL68, pxL69, pxL70, pxL71, pxL72, pxL73, pxL74, pxL75, pxL76, pxL77, pxL78, pxL79, pxL80, pxL81, pxL82, pxL83, pxL84, pxL85, pxL86, pxL87, pxL88, pxL89, pxL90, pxL91, pxL92, pxL93, pxL94, pxL95, pxL96, pxL97, pxL98, pxL99, pxL100, pxL101, pxL102, pxL103, pxL104, pxL105, pxL106, pxL107, pxL108, pxL109, pxL110, pxL111, pxL112, pxL113, pxL114, pxL115, pxL116, pxL117, pxL118, pxL119, pxL120, pxL121, pxL122, pxL123, pxL124, pxL125, pxL126, pxL200, pxL240, pxL287, pxL388, pxL400, pxL429, pxL431, pxL440, pxL1240, pxL1600, pxL1681, pxL12028, pxL13849, pxL14880, pxL25173, pxL26908, pxL49600, pxL65535, pxL65536, ↓reduceIte, reduceCtorEq, pxJ_add, pxJ_sub, pxJ_mul, pxJ_neg, pxD_lt_t, pxD_lt_f, pxD_le_t, pxD_le_f, pxD_eq_t, pxD_eq_f, pxJ_lt, pxJ_le, pxJ_eq, px_gI, px_gR, px_pI, px_rc, px_ai, px_ar, px_si, px_ln, px_cp, pxJ_div, pxJ_b8, pxJ_byte, px_b2, px_bs, px_rb0, px_rb1, px_min, px_max, px_compare, pxW_some, jw_t_I, px_cpt, jw_r_I, px_cpr, jw_l_I, px_cpl, Option.some.injEq, t5, w0, m16, se, ho]
    · rw [if_neg c2] at ho ⊢
      simp (maxSteps := 4000000) (disch := first | assumption | omega | (simp only [jw_t_I, px_cpt, t5]; done) | (simp only [jw_t_I, px_cpt, t5]; omega)) only [pxL0, pxL1, pxL2, pxL3, pxL4, pxL5, pxL6, pxL7, pxL8, pxL9, pxL10, pxL11, pxL12, pxL13, pxL14, pxL15, pxL16, pxL17, pxL18, pxL19, pxL20, pxL21, pxL22, pxL23, pxL24, pxL25, pxL26, pxL27, pxL28, pxL29, pxL30, pxL31, pxL32, pxL33, pxL34, pxL35, pxL36, pxL37, pxL38, pxL39, pxL40, pxL41, pxL42, pxL43, pxL44, pxL45, pxL46, pxL47, pxL48, pxL49, pxL51, pxL57, pxL58, pxL59, pxL60, pxL61, pxL62, pxL63, pxL64, pxL65, pxL66, pxL67, pxL68, pxL69, pxL70, pxL71, pxL72, pxL73, pxL74, pxL75, pxL76, pxL77, pxL78, pxL79, pxL80, pxL81, pxL82, pxL83, pxL84, pxL85, pxL86, pxL87, pxL88, pxL89, pxL90, pxL91, pxL92, pxL93, pxL94, pxL95, pxL96, pxL97, pxL98, pxL99, pxL100, pxL101, pxL102, pxL103, pxL104, pxL105, pxL106, pxL107, pxL108, pxL109, pxL110, pxL111, pxL112, pxL113, pxL114, pxL115, pxL116, pxL117, pxL118, pxL119, pxL120, pxL121, pxL122, pxL123, pxL124, pxL125, pxL126, pxL200, pxL240, pxL287, pxL388, pxL400, pxL429, pxL431, pxL440, pxL1240, pxL1600, pxL1681, pxL12028, pxL13849, pxL14880, pxL25173, pxL26908, pxL49600, pxL65535, pxL65536, ↓reduceIte, reduceCtorEq, pxJ_add, pxJ_sub, pxJ_mul, pxJ_neg, pxD_lt_t, pxD_lt_f, pxD_le_t, pxD_le_f, pxD_eq_t, pxD_eq_f, pxJ_lt, pxJ_le, pxJ_eq, px_gI, px_gR, px_pI, px_rc, px_ai, px_ar, px_si, px_ln, px_cp, pxJ_div, pxJ_b8, pxJ_byte, px_b2, px_bs, px_rb0, px_rb1, px_min, px_max, px_compare, pxW_some, jw_t_I, px_cpt, jw_r_I, px_cpr, jw_l_I, px_cpl, Option.some.injEq, t5, w0, m16, se, ho]
end
