/-! orders over the whole: g, G and blocks -/
abbrev pxRes := Int × Int × pxTx × pxSto × Bool
def pxInnr (s : List Int) : List Int → Int → pxTx → pxSto → Bool → pxRes
  | [], came, T, S, rep => (0, came, T, S, rep)
  | q :: r, came, T, S, rep => if 60 ≤ came then (7, came + 1, T, S, rep)
    else if (pxOne s q T S rep).1.1 ≠ 0 then ((pxOne s q T S rep).1.1, came + 1, (pxOne s q T S rep).1.2.1, (pxOne s q T S rep).1.2.2, (pxOne s q T S rep).2)
    else pxInnr s r (came + 1) (pxOne s q T S rep).1.2.1 (pxOne s q T S rep).1.2.2 (pxOne s q T S rep).2
def pxMets (s : List Int) (ps : List Int) : List Int → Int → pxTx → pxSto → Bool → pxRes
  | [], came, T, S, rep => (0, came, T, S, rep)
  | id :: r, came, T, S, rep => if pxNo T.1 id = -1 then pxMets s ps r came T S rep
    else if (pxInnr s ps came (T.1, T.2.1, pxNo T.1 id, T.2.2.2) S rep).1 ≠ 0 then pxInnr s ps came (T.1, T.2.1, pxNo T.1 id, T.2.2.2) S rep
    else pxMets s ps r (pxInnr s ps came (T.1, T.2.1, pxNo T.1 id, T.2.2.2) S rep).2.1 (pxInnr s ps came (T.1, T.2.1, pxNo T.1 id, T.2.2.2) S rep).2.2.1 (pxInnr s ps came (T.1, T.2.1, pxNo T.1 id, T.2.2.2) S rep).2.2.2.1 (pxInnr s ps came (T.1, T.2.1, pxNo T.1 id, T.2.2.2) S rep).2.2.2.2
/-- the state of a run between orders -/
def pxGS (nB : Int) (h : jw_H) (T : pxTx) (S : pxSto) (rep : Bool) (came : Int) : Prop :=
  pxAux h rep ∧ pxIX h T ∧ pxIY h S ∧ pxInv T ∧ pxInvS S ∧ pxM h 559 15 = came ∧ 0 ≤ came ∧ came ≤ 60 ∧ (T.2.2.2 + 40 * (60 - came) ≤ nB ∧ nB ≤ 2000000)
/-- inner orders k, k + 1, .. of the program -/
def pxIQ (h : jw_H) (b : Nat) (s : List Int) (k : Nat) (ps : List Int) : Prop := ∀ (j : Nat) (q : Int), ps[j]? = some q → pxOC h b s (k + j) q ∧ (pxRd s q true).1 = true
theorem pxIQ.fb {P : Nat → Nat → Prop} {h h' : jw_H} {b k : Nat} {s ps : List Int} (H : pxIQ h b s k ps) (F : pxF P h h') (hP : ∀ k f, k ≤ 253 → ¬ P k f) : pxIQ h' b s k ps := fun j q z => ⟨(H j q z).1.fb F hP, (H j q z).2⟩
/-- what a refused group leaves -/
def pxBad (h h' : jw_H) (S0 : pxSto) : Prop := pxF pxQG h h' ∧ (∃ rep', pxAux h' rep') ∧ (∃ T', pxIX h' T') ∧ pxIY h' S0
section
variable {b : Nat} {s : List Int} {S0 : pxSto} {nB : Int}
theorem s_b146 {k73 : jw_H → Nat → Option Nat → Int32 → Int32 → Int32 → Option (Int32 × jw_H)} {h : jw_H} {x1 : Option Nat} {x2 x3 x5 : Int32} {r : Int} {T : pxTx} {S : pxSto} {rep : Bool} (r0 : r ≠ 0) (r1 : 0 ≤ r) (r2 : r ≤ 7) (A : pxAux h rep) (I : pxIX h T) (Y : pxIY h S) (B : pxIS h 538 S0.1 S0.2.1 S0.2.2) : ∃ h', g_X10_doGroup_b146 k73 h 559 x1 x2 x3 x5 (pxJ r) = some (pxJ r, h') ∧ pxBad h h' S0 := by
  have w0 := A.1.1
  have w2 := A.1.2.2.2.1
  have w3 := A.1.2.2.2.2.1
  have t8 := Y.1.1
  obtain ⟨a, h', e, F, Y'⟩ := s_X8_copy (pxIS.sx Y) B (by omega)
  unfold g_X10_doGroup_b146
  refine ⟨h', ?_, F.mono (fun k f z => by unfold pxC at z; unfold pxQG pxQA; omega), ⟨rep, A.fr F (fun k f z => by unfold pxC; omega)⟩, ⟨T, pxIT.fr I F (fun k f _ _ => by unfold pxC; omega)⟩, Y'⟩
  simp (maxSteps := 4000000) (disch := first | assumption | omega | (simp only [jw_t_I, px_cpt]; done) | (simp only [jw_t_I, px_cpt]; omega)) only [pxL0, pxL1, pxL2, pxL3, pxL4, pxL5, pxL6, pxL7, pxL8, pxL9, pxL10, pxL11, pxL12, pxL13, pxL14, pxL15, pxL16, pxL17, pxL18, pxL19, pxL20, pxL21, pxL22, pxL23, pxL24, pxL25, pxL26, pxL27, pxL28, pxL29, pxL30, pxL31, pxL32, pxL33, pxL34, pxL35, pxL36, pxL37, pxL38, pxL39, pxL40, pxL41, pxL42, pxL43, pxL44, pxL45, pxL46, pxL47, pxL48, pxL49, pxL51, pxL57, pxL58, pxL59, pxL60, pxL61, pxL62, pxL63, pxL64, pxL65, pxL66, pxL67, pxL68, pxL69, pxL70, pxL71, pxL72, pxL73, pxL74, pxL75, pxL76, pxL77, pxL78, pxL79, pxL80, pxL81, pxL82, pxL83, pxL84, pxL85, pxL86, pxL87, pxL88, pxL89, pxL90, pxL91, pxL92, pxL93, pxL94, pxL95, pxL96, pxL97, pxL98, pxL99, pxL100, pxL101, pxL102, pxL103, pxL104, pxL105, pxL106, pxL107, pxL108, pxL109, pxL110, pxL111, pxL112, pxL113, pxL114, pxL115, pxL116, pxL117, pxL118, pxL119, pxL120, pxL121, pxL122, pxL123, pxL124, pxL125, pxL126, pxL200, pxL240, pxL287, pxL388, pxL400, pxL429, pxL431, pxL440, pxL1240, pxL1600, pxL1681, pxL12028, pxL13849, pxL14880, pxL25173, pxL26908, pxL49600, pxL65535, pxL65536, ↓reduceIte, reduceCtorEq, pxJ_add, pxJ_sub, pxJ_mul, pxJ_neg, pxD_lt_t, pxD_lt_f, pxD_le_t, pxD_le_f, pxD_eq_t, pxD_eq_f, pxJ_lt, pxJ_le, pxJ_eq, px_gI, px_gR, px_pI, px_rc, px_ai, px_ar, px_si, px_ln, px_cp, pxJ_div, pxJ_b8, pxJ_byte, px_b2, px_bs, px_rb0, px_rb1, px_min, px_max, px_compare, pxW_some, jw_t_I, px_cpt, jw_r_I, px_cpr, jw_l_I, px_cpl, Option.some.injEq, w0, w2, w3, t8, e]
theorem s_X10_doGroup_b73 {oo : Nat} {x2 x3 : Int32} {cnt : Int} {k18 : jw_H → Nat → Option Nat → Int32 → Int32 → Option (Int32 × jw_H)} (ho : oo < 252) (c60 : cnt ≤ 60) : ∀ (ps : List Int) (N : Nat) (h : jw_H) (k : Nat) (came : Int) (T : pxTx) (S : pxSto) (rep : Bool), ps.length < N → pxIQ h b s k ps → pxM h oo 9 = ((k + ps.length : Nat) : Int) → pxPS h → pxM h 10 6 = cnt → ((k + ps.length : Nat) : Int) ≤ cnt → (jw_t h oo).1 = 5 → pxGS nB h T S rep came → pxIS h 538 S0.1 S0.2.1 S0.2.2 →
    ((pxInnr s ps came T S rep).1 = 0 → ∃ h', f_X10_doGroup_b73 k18 N h 559 (some oo) x2 x3 (pxJ k) = k18 h' 559 (some oo) x2 (x3 + 1) ∧ pxF pxQG h h' ∧ pxGS nB h' (pxInnr s ps came T S rep).2.2.1 (pxInnr s ps came T S rep).2.2.2.1 (pxInnr s ps came T S rep).2.2.2.2 (pxInnr s ps came T S rep).2.1) ∧
    ((pxInnr s ps came T S rep).1 ≠ 0 → ∃ h', f_X10_doGroup_b73 k18 N h 559 (some oo) x2 x3 (pxJ k) = some (pxJ (pxInnr s ps came T S rep).1, h') ∧ pxBad h h' S0 ∧ 0 ≤ (pxInnr s ps came T S rep).1 ∧ (pxInnr s ps came T S rep).1 ≤ 7) := by
  intro ps
  induction ps with
  | nil =>
    intro N h k came T S rep hN IQ m9 PS m6 kc t5 G B
    obtain ⟨N, rfl, -⟩ := px_fu (m := 0) (N := N) hN
    rw [List.length_nil, Nat.add_zero] at m9
    refine ⟨fun _ => ⟨h, ?_, pxF.rfl, G⟩, fun z => absurd rfl z⟩
    have w0 := G.1.1.1
    rw [u_X10_doGroup_b73]
    unfold g_X10_doGroup_b73 g_X10_doGroup_b171
    clear IQ G B
    simp (maxSteps := 4000000) (disch := first | assumption | omega | (simp only [jw_t_I, px_cpt]; done) | (simp only [jw_t_I, px_cpt]; omega)) only [pxL0, pxL1, pxL2, pxL3, pxL4, pxL5, pxL6, pxL7, pxL8, pxL9, pxL10, pxL11, pxL12, pxL13, pxL14, pxL15, pxL16, pxL17, pxL18, pxL19, pxL20, pxL21, pxL22, pxL23, pxL24, pxL25, pxL26, pxL27, pxL28, pxL29, pxL30, pxL31, pxL32, pxL33, pxL34, pxL35, pxL36, pxL37, pxL38, pxL39, pxL40, pxL41, pxL42, pxL43, pxL44, pxL45, pxL46, pxL47, pxL48, pxL49, pxL51, pxL57, pxL58, pxL59, pxL60, pxL61, pxL62, pxL63, pxL64, pxL65, pxL66, pxL67, pxL68, pxL69, pxL70, pxL71, pxL72, pxL73, pxL74, pxL75, pxL76, pxL77, pxL78, pxL79, pxL80, pxL81, pxL82, pxL83, pxL84, pxL85, pxL86, pxL87, pxL88, pxL89, pxL90, pxL91, pxL92, pxL93, pxL94, pxL95, pxL96, pxL97, pxL98, pxL99, pxL100, pxL101, pxL102, pxL103, pxL104, pxL105, pxL106, pxL107, pxL108, pxL109, pxL110, pxL111, pxL112, pxL113, pxL114, pxL115, pxL116, pxL117, pxL118, pxL119, pxL120, pxL121, pxL122, pxL123, pxL124, pxL125, pxL126, pxL200, pxL240, pxL287, pxL388, pxL400, pxL429, pxL431, pxL440, pxL1240, pxL1600, pxL1681, pxL12028, pxL13849, pxL14880, pxL25173, pxL26908, pxL49600, pxL65535, pxL65536, ↓reduceIte, reduceCtorEq, pxJ_add, pxJ_sub, pxJ_mul, pxJ_neg, pxD_lt_t, pxD_lt_f, pxD_le_t, pxD_le_f, pxD_eq_t, pxD_eq_f, pxJ_lt, pxJ_le, pxJ_eq, px_gI, px_gR, px_pI, px_rc, px_ai, px_ar, px_si, px_ln, px_cp, pxJ_div, pxJ_b8, pxJ_byte, px_b2, px_bs, px_rb0, px_rb1, px_min, px_max, px_compare, pxW_some, jw_t_I, px_cpt, jw_r_I, px_cpr, jw_l_I, px_cpl, Option.some.injEq, m9]
  | cons q ps ih =>
    intro N h k came T S rep hN IQ m9 PS m6 kc t5 G B
    obtain ⟨N, rfl, -⟩ := px_fu (m := ps.length + 1) (N := N) (by simp at hN; omega)
    rw [List.length_cons] at hN
    have hN := Nat.lt_of_succ_lt_succ hN
    rw [List.length_cons] at m9 kc
    obtain ⟨A, I, Y, IV, IS, m15, ca0, ca1, nb⟩ := G
    obtain ⟨OC, okq⟩ := IQ 0 q rfl
    rw [Nat.add_zero] at OC
    have ns := pxRd_inner okq
    have w0 := A.1.1
    have wp := A.1.2.1
    have oa := s_X6_orderAt PS m6 c60 (x := (k : Int)) (by omega) (by omega)
    rw [if_pos (by omega), show ((k : Int)).toNat = k by omega] at oa
    have tg := PS.1
    have F9 : pxF (fun k f => k = 559 ∧ f = 15) h (jw_setI h 559 15 (pxJ (came + 1))) := pxF.setI ⟨rfl, rfl⟩
    have F9' : pxF pxQG h (jw_setI h 559 15 (pxJ (came + 1))) := F9.mono (fun k f z => by unfold pxQG; omega)
    have A9 := A.fr F9 (fun k f z => by omega)
    have I9 : pxIX (jw_setI h 559 15 (pxJ (came + 1))) T := pxIT.fr I F9 (fun k f _ _ => by omega)
    have Y9 : pxIY (jw_setI h 559 15 (pxJ (came + 1))) S := pxIS.fr Y F9 (fun k f _ _ => by omega)
    have B9 := B.fr F9 (fun k f _ _ => by omega)
    have OC9 := OC.fb F9 (fun k f z => by omega)
    have m159 : pxM (jw_setI h 559 15 (pxJ (came + 1))) 559 15 = came + 1 := pxM_eq (by omega) (by omega)
    have w09 := A9.1.1
    have eI : pxInnr s (q :: ps) came T S rep = if 60 ≤ came then (7, came + 1, T, S, rep)
      else if (pxOne s q T S rep).1.1 ≠ 0 then ((pxOne s q T S rep).1.1, came + 1, (pxOne s q T S rep).1.2.1, (pxOne s q T S rep).1.2.2, (pxOne s q T S rep).2)
      else pxInnr s ps (came + 1) (pxOne s q T S rep).1.2.1 (pxOne s q T S rep).1.2.2 (pxOne s q T S rep).2 := rfl
    have head : f_X10_doGroup_b73 k18 (N + 1) h 559 (some oo) x2 x3 (pxJ k) = if 60 ≤ came then g_X10_doGroup_b131 (f_X10_doGroup_b73 k18 N) (jw_setI h 559 15 (pxJ (came + 1))) 559 (some oo) x2 x3 (pxJ k) (some (12 + 4 * k)) (pxJ 7) else jw_b2 (f_X10_findRange (jw_setI h 559 15 (pxJ (came + 1))) 559 (some (12 + 4 * k))) fun w14 h13 => g_X10_doGroup_b131 (f_X10_doGroup_b73 k18 N) h13 559 (some oo) x2 x3 (pxJ k) (some (12 + 4 * k)) w14 := by
      rw [u_X10_doGroup_b73]
      unfold g_X10_doGroup_b73
      clear ih IQ OC OC9 B B9 eI okq ns
      by_cases c : 60 ≤ came
      · rw [if_pos c]
        simp (maxSteps := 4000000) (disch := first | assumption | omega | (simp only [jw_t_I, px_cpt]; done) | (simp only [jw_t_I, px_cpt]; omega)) only [pxL0, pxL1, pxL2, pxL3, pxL4, pxL5, pxL6, pxL7, pxL8, pxL9, pxL10, pxL11, pxL12, pxL13, pxL14, pxL15, pxL16, pxL17, pxL18, pxL19, pxL20, pxL21, pxL22, pxL23, pxL24, pxL25, pxL26, pxL27, pxL28, pxL29, pxL30, pxL31, pxL32, pxL33, pxL34, pxL35, pxL36, pxL37, pxL38, pxL39, pxL40, pxL41, pxL42, pxL43, pxL44, pxL45, pxL46, pxL47, pxL48, pxL49, pxL51, pxL57, pxL58, pxL59, pxL60, pxL61, pxL62, pxL63, pxL64, pxL65, pxL66, pxL67, pxL68, pxL69, pxL70, pxL71, pxL72, pxL73, pxL74, pxL75, pxL76, pxL77, pxL78, pxL79, pxL80, pxL81, pxL82, pxL83, pxL84, pxL85, pxL86, pxL87, pxL88, pxL89, pxL90, pxL91, pxL92, pxL93, pxL94, pxL95, pxL96, pxL97, pxL98, pxL99, pxL100, pxL101, pxL102, pxL103, pxL104, pxL105, pxL106, pxL107, pxL108, pxL109, pxL110, pxL111, pxL112, pxL113, pxL114, pxL115, pxL116, pxL117, pxL118, pxL119, pxL120, pxL121, pxL122, pxL123, pxL124, pxL125, pxL126, pxL200, pxL240, pxL287, pxL388, pxL400, pxL429, pxL431, pxL440, pxL1240, pxL1600, pxL1681, pxL12028, pxL13849, pxL14880, pxL25173, pxL26908, pxL49600, pxL65535, pxL65536, ↓reduceIte, reduceCtorEq, pxJ_add, pxJ_sub, pxJ_mul, pxJ_neg, pxD_lt_t, pxD_lt_f, pxD_le_t, pxD_le_f, pxD_eq_t, pxD_eq_f, pxJ_lt, pxJ_le, pxJ_eq, px_gI, px_gR, px_pI, px_rc, px_ai, px_ar, px_si, px_ln, px_cp, pxJ_div, pxJ_b8, pxJ_byte, px_b2, px_bs, px_rb0, px_rb1, px_min, px_max, px_compare, pxW_some, jw_t_I, px_cpt, jw_r_I, px_cpr, jw_l_I, px_cpl, Option.some.injEq, m9, w0, wp, tg, oa, m15, m159]
      · rw [if_neg c]
        simp (maxSteps := 4000000) (disch := first | assumption | omega | (simp only [jw_t_I, px_cpt]; done) | (simp only [jw_t_I, px_cpt]; omega)) only [pxL0, pxL1, pxL2, pxL3, pxL4, pxL5, pxL6, pxL7, pxL8, pxL9, pxL10, pxL11, pxL12, pxL13, pxL14, pxL15, pxL16, pxL17, pxL18, pxL19, pxL20, pxL21, pxL22, pxL23, pxL24, pxL25, pxL26, pxL27, pxL28, pxL29, pxL30, pxL31, pxL32, pxL33, pxL34, pxL35, pxL36, pxL37, pxL38, pxL39, pxL40, pxL41, pxL42, pxL43, pxL44, pxL45, pxL46, pxL47, pxL48, pxL49, pxL51, pxL57, pxL58, pxL59, pxL60, pxL61, pxL62, pxL63, pxL64, pxL65, pxL66, pxL67, pxL68, pxL69, pxL70, pxL71, pxL72, pxL73, pxL74, pxL75, pxL76, pxL77, pxL78, pxL79, pxL80, pxL81, pxL82, pxL83, pxL84, pxL85, pxL86, pxL87, pxL88, pxL89, pxL90, pxL91, pxL92, pxL93, pxL94, pxL95, pxL96, pxL97, pxL98, pxL99, pxL100, pxL101, pxL102, pxL103, pxL104, pxL105, pxL106, pxL107, pxL108, pxL109, pxL110, pxL111, pxL112, pxL113, pxL114, pxL115, pxL116, pxL117, pxL118, pxL119, pxL120, pxL121, pxL122, pxL123, pxL124, pxL125, pxL126, pxL200, pxL240, pxL287, pxL388, pxL400, pxL429, pxL431, pxL440, pxL1240, pxL1600, pxL1681, pxL12028, pxL13849, pxL14880, pxL25173, pxL26908, pxL49600, pxL65535, pxL65536, ↓reduceIte, reduceCtorEq, pxJ_add, pxJ_sub, pxJ_mul, pxJ_neg, pxD_lt_t, pxD_lt_f, pxD_le_t, pxD_le_f, pxD_eq_t, pxD_eq_f, pxJ_lt, pxJ_le, pxJ_eq, px_gI, px_gR, px_pI, px_rc, px_ai, px_ar, px_si, px_ln, px_cp, pxJ_div, pxJ_b8, pxJ_byte, px_b2, px_bs, px_rb0, px_rb1, px_min, px_max, px_compare, pxW_some, jw_t_I, px_cpt, jw_r_I, px_cpr, jw_l_I, px_cpl, Option.some.injEq, m9, w0, wp, tg, oa, m15, m159]
    rw [head, eI]
    by_cases c : 60 ≤ came
    · rw [if_pos c, if_pos c]
      refine ⟨fun z => absurd z (by show ¬ (7 : Int) = 0; omega), fun _ => ?_⟩
      have e7 : g_X10_doGroup_b131 (f_X10_doGroup_b73 k18 N) (jw_setI h 559 15 (pxJ (came + 1))) 559 (some oo) x2 x3 (pxJ k) (some (12 + 4 * k)) (pxJ 7) = g_X10_doGroup_b146 (f_X10_doGroup_b73 k18 N) (jw_setI h 559 15 (pxJ (came + 1))) 559 (some oo) x2 x3 (pxJ k) (pxJ 7) := by
        unfold g_X10_doGroup_b131
        clear ih IQ OC OC9 eI head
        simp (maxSteps := 4000000) (disch := first | assumption | omega | (simp only [jw_t_I, px_cpt]; done) | (simp only [jw_t_I, px_cpt]; omega)) only [pxL0, pxL1, pxL2, pxL3, pxL4, pxL5, pxL6, pxL7, pxL8, pxL9, pxL10, pxL11, pxL12, pxL13, pxL14, pxL15, pxL16, pxL17, pxL18, pxL19, pxL20, pxL21, pxL22, pxL23, pxL24, pxL25, pxL26, pxL27, pxL28, pxL29, pxL30, pxL31, pxL32, pxL33, pxL34, pxL35, pxL36, pxL37, pxL38, pxL39, pxL40, pxL41, pxL42, pxL43, pxL44, pxL45, pxL46, pxL47, pxL48, pxL49, pxL51, pxL57, pxL58, pxL59, pxL60, pxL61, pxL62, pxL63, pxL64, pxL65, pxL66, pxL67, pxL68, pxL69, pxL70, pxL71, pxL72, pxL73, pxL74, pxL75, pxL76, pxL77, pxL78, pxL79, pxL80, pxL81, pxL82, pxL83, pxL84, pxL85, pxL86, pxL87, pxL88, pxL89, pxL90, pxL91, pxL92, pxL93, pxL94, pxL95, pxL96, pxL97, pxL98, pxL99, pxL100, pxL101, pxL102, pxL103, pxL104, pxL105, pxL106, pxL107, pxL108, pxL109, pxL110, pxL111, pxL112, pxL113, pxL114, pxL115, pxL116, pxL117, pxL118, pxL119, pxL120, pxL121, pxL122, pxL123, pxL124, pxL125, pxL126, pxL200, pxL240, pxL287, pxL388, pxL400, pxL429, pxL431, pxL440, pxL1240, pxL1600, pxL1681, pxL12028, pxL13849, pxL14880, pxL25173, pxL26908, pxL49600, pxL65535, pxL65536, ↓reduceIte, reduceCtorEq, pxJ_add, pxJ_sub, pxJ_mul, pxJ_neg, pxD_lt_t, pxD_lt_f, pxD_le_t, pxD_le_f, pxD_eq_t, pxD_eq_f, pxJ_lt, pxJ_le, pxJ_eq, px_gI, px_gR, px_pI, px_rc, px_ai, px_ar, px_si, px_ln, px_cp, pxJ_div, pxJ_b8, pxJ_byte, px_b2, px_bs, px_rb0, px_rb1, px_min, px_max, px_compare, pxW_some, jw_t_I, px_cpt, jw_r_I, px_cpr, jw_l_I, px_cpl, Option.some.injEq]
      obtain ⟨h', e, bd⟩ := s_b146 (k73 := f_X10_doGroup_b73 k18 N) (x1 := some oo) (x2 := x2) (x3 := x3) (x5 := pxJ k) (r := 7) (by omega) (by omega) (by omega) A9 I9 Y9 B9
      exact ⟨h', by rw [e7]; exact e, ⟨F9'.trans bd.1, bd.2⟩, by dsimp only; omega, by dsimp only; omega⟩
    · rw [if_neg c, if_neg c]
      have gd := pxGood_one OC ns IV IS (rep := rep)
      have ob := pxOne_b (s := s) (q := q) (S := S) (rep := rep) IV.now IV.1
      have rb := pxRng_b (s := s) (p := q) IV.now IV.1
      obtain ⟨h1, v1, v2, A1, I1, Y1, v3⟩ := s_one OC9 ns A9 I9 Y9 IV IS (by omega)
      have F1 : pxF pxQG h h1 := F9'.trans (v2.mono (fun k f z => by unfold pxQf pxQx at z; unfold pxQG pxQA; omega))
      have B1 := B9.fr v2 (fun k f _ _ => by unfold pxQf pxQx; omega)
      have w01 := A1.1.1
      rw [v1]
      by_cases r0 : (pxRng s q T).1 = 0
      · obtain ⟨qq, h2, e2, F2, eq, TR, rep2, A2, erep⟩ := v3 r0
        have F12 : pxF pxQG h h2 := F1.trans (F2.mono (fun k f z => Or.inl z))
        have B2 := B1.fr F2 (fun k f _ _ => by unfold pxQA; omega)
        have st : (jw_b2 (some (pxJ (pxRng s q T).1, h1)) fun w14 h13 => g_X10_doGroup_b131 (f_X10_doGroup_b73 k18 N) h13 559 (some oo) x2 x3 (pxJ k) (some (12 + 4 * k)) w14) = g_X10_doGroup_b146 (f_X10_doGroup_b73 k18 N) h2 559 (some oo) x2 x3 (pxJ k) (pxJ (pxOne s q T S rep).1.1) := by
          rw [px_b2, r0]
          unfold g_X10_doGroup_b131
          clear ih IQ OC OC9 B B9 eI head gd v3 TR
          simp (maxSteps := 4000000) (disch := first | assumption | omega | (simp only [jw_t_I, px_cpt]; done) | (simp only [jw_t_I, px_cpt]; omega)) only [pxL0, pxL1, pxL2, pxL3, pxL4, pxL5, pxL6, pxL7, pxL8, pxL9, pxL10, pxL11, pxL12, pxL13, pxL14, pxL15, pxL16, pxL17, pxL18, pxL19, pxL20, pxL21, pxL22, pxL23, pxL24, pxL25, pxL26, pxL27, pxL28, pxL29, pxL30, pxL31, pxL32, pxL33, pxL34, pxL35, pxL36, pxL37, pxL38, pxL39, pxL40, pxL41, pxL42, pxL43, pxL44, pxL45, pxL46, pxL47, pxL48, pxL49, pxL51, pxL57, pxL58, pxL59, pxL60, pxL61, pxL62, pxL63, pxL64, pxL65, pxL66, pxL67, pxL68, pxL69, pxL70, pxL71, pxL72, pxL73, pxL74, pxL75, pxL76, pxL77, pxL78, pxL79, pxL80, pxL81, pxL82, pxL83, pxL84, pxL85, pxL86, pxL87, pxL88, pxL89, pxL90, pxL91, pxL92, pxL93, pxL94, pxL95, pxL96, pxL97, pxL98, pxL99, pxL100, pxL101, pxL102, pxL103, pxL104, pxL105, pxL106, pxL107, pxL108, pxL109, pxL110, pxL111, pxL112, pxL113, pxL114, pxL115, pxL116, pxL117, pxL118, pxL119, pxL120, pxL121, pxL122, pxL123, pxL124, pxL125, pxL126, pxL200, pxL240, pxL287, pxL388, pxL400, pxL429, pxL431, pxL440, pxL1240, pxL1600, pxL1681, pxL12028, pxL13849, pxL14880, pxL25173, pxL26908, pxL49600, pxL65535, pxL65536, ↓reduceIte, reduceCtorEq, pxJ_add, pxJ_sub, pxJ_mul, pxJ_neg, pxD_lt_t, pxD_lt_f, pxD_le_t, pxD_le_f, pxD_eq_t, pxD_eq_f, pxJ_lt, pxJ_le, pxJ_eq, px_gI, px_gR, px_pI, px_rc, px_ai, px_ar, px_si, px_ln, px_cp, pxJ_div, pxJ_b8, pxJ_byte, px_b2, px_bs, px_rb0, px_rb1, px_min, px_max, px_compare, pxW_some, jw_t_I, px_cpt, jw_r_I, px_cpr, jw_l_I, px_cpl, Option.some.injEq, w01, e2, eq]
        rw [st]
        by_cases r1 : (pxOne s q T S rep).1.1 = 0
        · rw [if_neg (show ¬ (pxOne s q T S rep).1.1 ≠ 0 from fun z => z r1)]
          obtain ⟨g1, g2, g3⟩ := gd r1
          obtain ⟨I2, Y2⟩ := TR.1 r1
          have G2 : pxGS nB h2 (pxOne s q T S rep).1.2.1 (pxOne s q T S rep).1.2.2 (pxOne s q T S rep).2 (came + 1) := ⟨by rw [← erep r1]; exact A2, I2, Y2, g1, g3, by rw [F2.m (by unfold pxQA; omega), v2.m (by unfold pxQf pxQx; omega)]; exact m159, by omega, by omega, by omega⟩
          have IQ2 : pxIQ h2 b s (k + 1) ps := fun j q' z => by
            have := (IQ.fb F12 (fun k f z => by unfold pxQG pxQA; omega)) (j + 1) q' z
            rw [show k + (j + 1) = k + 1 + j by omega] at this
            exact this
          obtain ⟨z1, z2⟩ := ih N h2 (k + 1) (came + 1) _ _ _ hN IQ2 (by rw [F12.m (by unfold pxQG pxQA; omega), m9]; omega) (PS.fr F12 (fun k f z => by unfold pxQG pxQA; omega)) (by rw [F12.m (by unfold pxQG pxQA; omega)]; exact m6) (by omega) (by rw [F12.t]; exact t5) G2 B2
          have st2 : g_X10_doGroup_b146 (f_X10_doGroup_b73 k18 N) h2 559 (some oo) x2 x3 (pxJ k) (pxJ (pxOne s q T S rep).1.1) = f_X10_doGroup_b73 k18 N h2 559 (some oo) x2 x3 (pxJ ((k + 1 : Nat) : Int)) := by
            rw [r1, show ((k + 1 : Nat) : Int) = (k : Int) + 1 by omega]
            unfold g_X10_doGroup_b146
            clear ih IQ OC OC9 B B9 eI head gd v3 TR z1 z2 G2 IQ2 st
            simp (maxSteps := 4000000) (disch := first | assumption | omega | (simp only [jw_t_I, px_cpt]; done) | (simp only [jw_t_I, px_cpt]; omega)) only [pxL0, pxL1, pxL2, pxL3, pxL4, pxL5, pxL6, pxL7, pxL8, pxL9, pxL10, pxL11, pxL12, pxL13, pxL14, pxL15, pxL16, pxL17, pxL18, pxL19, pxL20, pxL21, pxL22, pxL23, pxL24, pxL25, pxL26, pxL27, pxL28, pxL29, pxL30, pxL31, pxL32, pxL33, pxL34, pxL35, pxL36, pxL37, pxL38, pxL39, pxL40, pxL41, pxL42, pxL43, pxL44, pxL45, pxL46, pxL47, pxL48, pxL49, pxL51, pxL57, pxL58, pxL59, pxL60, pxL61, pxL62, pxL63, pxL64, pxL65, pxL66, pxL67, pxL68, pxL69, pxL70, pxL71, pxL72, pxL73, pxL74, pxL75, pxL76, pxL77, pxL78, pxL79, pxL80, pxL81, pxL82, pxL83, pxL84, pxL85, pxL86, pxL87, pxL88, pxL89, pxL90, pxL91, pxL92, pxL93, pxL94, pxL95, pxL96, pxL97, pxL98, pxL99, pxL100, pxL101, pxL102, pxL103, pxL104, pxL105, pxL106, pxL107, pxL108, pxL109, pxL110, pxL111, pxL112, pxL113, pxL114, pxL115, pxL116, pxL117, pxL118, pxL119, pxL120, pxL121, pxL122, pxL123, pxL124, pxL125, pxL126, pxL200, pxL240, pxL287, pxL388, pxL400, pxL429, pxL431, pxL440, pxL1240, pxL1600, pxL1681, pxL12028, pxL13849, pxL14880, pxL25173, pxL26908, pxL49600, pxL65535, pxL65536, ↓reduceIte, reduceCtorEq, pxJ_add, pxJ_sub, pxJ_mul, pxJ_neg, pxD_lt_t, pxD_lt_f, pxD_le_t, pxD_le_f, pxD_eq_t, pxD_eq_f, pxJ_lt, pxJ_le, pxJ_eq, px_gI, px_gR, px_pI, px_rc, px_ai, px_ar, px_si, px_ln, px_cp, pxJ_div, pxJ_b8, pxJ_byte, px_b2, px_bs, px_rb0, px_rb1, px_min, px_max, px_compare, pxW_some, jw_t_I, px_cpt, jw_r_I, px_cpr, jw_l_I, px_cpl, Option.some.injEq]
          rw [st2]
          refine ⟨fun z => ?_, fun z => ?_⟩
          · obtain ⟨h', e, F3, G3⟩ := z1 z
            exact ⟨h', e, F12.trans F3, G3⟩
          · obtain ⟨h', e, bd, q1, q2⟩ := z2 z
            exact ⟨h', e, ⟨F12.trans bd.1, bd.2⟩, q1, q2⟩
        · rw [if_pos (show (pxOne s q T S rep).1.1 ≠ 0 from r1)]
          refine ⟨fun z => absurd z r1, fun _ => ?_⟩
          obtain ⟨⟨T', I2⟩, Y2⟩ := TR.2 r1
          obtain ⟨h', e, bd⟩ := s_b146 (k73 := f_X10_doGroup_b73 k18 N) (x1 := some oo) (x2 := x2) (x3 := x3) (x5 := pxJ k) (r := (pxOne s q T S rep).1.1) r1 (by omega) (by omega) A2 I2 Y2 B2
          exact ⟨h', e, ⟨F12.trans bd.1, bd.2⟩, by dsimp only; omega, by dsimp only; omega⟩
      · have eO : pxOne s q T S rep = (((pxRng s q T).1, T, S), rep) := if_pos r0
        have r1 : (pxOne s q T S rep).1.1 ≠ 0 := by rw [eO]; exact r0
        have st : (jw_b2 (some (pxJ (pxRng s q T).1, h1)) fun w14 h13 => g_X10_doGroup_b131 (f_X10_doGroup_b73 k18 N) h13 559 (some oo) x2 x3 (pxJ k) (some (12 + 4 * k)) w14) = g_X10_doGroup_b146 (f_X10_doGroup_b73 k18 N) h1 559 (some oo) x2 x3 (pxJ k) (pxJ (pxRng s q T).1) := by
          rw [px_b2]
          unfold g_X10_doGroup_b131
          clear ih IQ OC OC9 B B9 eI head gd v3 eO r1
          simp (maxSteps := 4000000) (disch := first | assumption | omega | (simp only [jw_t_I, px_cpt]; done) | (simp only [jw_t_I, px_cpt]; omega)) only [pxL0, pxL1, pxL2, pxL3, pxL4, pxL5, pxL6, pxL7, pxL8, pxL9, pxL10, pxL11, pxL12, pxL13, pxL14, pxL15, pxL16, pxL17, pxL18, pxL19, pxL20, pxL21, pxL22, pxL23, pxL24, pxL25, pxL26, pxL27, pxL28, pxL29, pxL30, pxL31, pxL32, pxL33, pxL34, pxL35, pxL36, pxL37, pxL38, pxL39, pxL40, pxL41, pxL42, pxL43, pxL44, pxL45, pxL46, pxL47, pxL48, pxL49, pxL51, pxL57, pxL58, pxL59, pxL60, pxL61, pxL62, pxL63, pxL64, pxL65, pxL66, pxL67, pxL68, pxL69, pxL70, pxL71, pxL72, pxL73, pxL74, pxL75, pxL76, pxL77, pxL78, pxL79, pxL80, pxL81, pxL82, pxL83, pxL84, pxL85, pxL86, pxL87, pxL88, pxL89, pxL90, pxL91, pxL92, pxL93, pxL94, pxL95, pxL96, pxL97, pxL98, pxL99, pxL100, pxL101, pxL102, pxL103, pxL104, pxL105, pxL106, pxL107, pxL108, pxL109, pxL110, pxL111, pxL112, pxL113, pxL114, pxL115, pxL116, pxL117, pxL118, pxL119, pxL120, pxL121, pxL122, pxL123, pxL124, pxL125, pxL126, pxL200, pxL240, pxL287, pxL388, pxL400, pxL429, pxL431, pxL440, pxL1240, pxL1600, pxL1681, pxL12028, pxL13849, pxL14880, pxL25173, pxL26908, pxL49600, pxL65535, pxL65536, ↓reduceIte, reduceCtorEq, pxJ_add, pxJ_sub, pxJ_mul, pxJ_neg, pxD_lt_t, pxD_lt_f, pxD_le_t, pxD_le_f, pxD_eq_t, pxD_eq_f, pxJ_lt, pxJ_le, pxJ_eq, px_gI, px_gR, px_pI, px_rc, px_ai, px_ar, px_si, px_ln, px_cp, pxJ_div, pxJ_b8, pxJ_byte, px_b2, px_bs, px_rb0, px_rb1, px_min, px_max, px_compare, pxW_some, jw_t_I, px_cpt, jw_r_I, px_cpr, jw_l_I, px_cpl, Option.some.injEq]
        rw [st, if_pos r1]
        refine ⟨fun z => absurd z r1, fun _ => ?_⟩
        obtain ⟨h', e, bd⟩ := s_b146 (k73 := f_X10_doGroup_b73 k18 N) (x1 := some oo) (x2 := x2) (x3 := x3) (x5 := pxJ k) (r := (pxRng s q T).1) r0 (by omega) (by omega) A1 I1 Y1 B1
        rw [eO]
        exact ⟨h', e, ⟨F1.trans bd.1, bd.2⟩, by dsimp only; omega, by dsimp only; omega⟩
end
