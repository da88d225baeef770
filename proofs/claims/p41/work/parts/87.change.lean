/-! changing rows one by one -/
theorem pxTrn_c {s : List Int} {q : Int} (h : (pxTrn s q).1 = true) (q0 : 0 ≤ q) : ∀ j : Int, 0 ≤ j → j < pxTrnN s q → pxIsCh (pxP s (q + 2 + pxTrnN s q + j)) = true := by
  intro j j0 j1
  have n0 : 0 ≤ pxTrnN s q := by unfold pxTrnN; omega
  unfold pxTrn at h
  by_cases c : pxP s q = 47
  · rw [if_pos c] at h
    by_cases d : pxSpan s (q + 1) = []
    · rw [if_pos d] at h; cases h
    · rw [if_neg d] at h
      by_cases e : pxP s (q + 1 + pxTrnN s q) = 47
      · rw [if_pos e] at h
        by_cases f : ((pxSpan s (q + 2 + pxTrnN s q)).length : Int) < pxTrnN s q
        · rw [if_pos f] at h; cases h
        · exact (pxSpan_at (by omega) j0 (by omega)).2
      · rw [if_neg e] at h; cases h
  · rw [if_neg c] at h; cases h
theorem pxTrn_ok {s : List Int} {q : Int} (h : (pxTrn s q).1 = true) : pxP s q = 47 := by
  unfold pxTrn at h
  by_cases c : pxP s q = 47
  · exact c
  · rw [if_neg c] at h; cases h
/-- a row that is changed, and whether something was replaced -/
def pxChg (s : List Int) (p : Int) (r : List Int) : List Int × Bool :=
  if pxP s p = 62 then (List.replicate (pxNumV s (p + 1)).toNat 32 ++ r, false)
  else if pxP s p = 115 then pxRp s r (pxFull s (p + 2)) (pxRepN s (p + 1)) (fun a bb o c => pxPw s r a bb o c (pxPatK s (p + 2)) 61 (pxPtn s (p + 1)).2) 31 1 0 false 0
  else if pxP s p = 122 then (r.map (fun c => pxTc s (p + 2) (p + 3 + pxTrnN s (p + 1)) c (pxTrnN s (p + 1)).toNat 0), false)
  else (pxSl r (pxLd r (pxNumV s (p + 1)).toNat 0) r.length, false)
/-- rows x, x + 1, .. changed: whether none is too long -/
def pxChgs (s : List Int) (p : Int) : Nat → Int → List (List Int) → Bool → Bool × List (List Int) × Bool
  | 0, _, rs, rep => (true, rs, rep)
  | m + 1, x, rs, rep => if 30 < (pxChg s p (pxRw rs x)).1.length then (false, rs, rep) else pxChgs s p m (x + 1) (pxSet rs x (pxChg s p (pxRw rs x)).1) (rep || (pxChg s p (pxRw rs x)).2)
def pxQr (ρ : Nat) : Nat → Nat → Prop := fun k f => pxQy k f ∨ (ρ ≤ k ∧ k ≤ ρ + 2)
/-- an order with an act at p that changes rows -/
def pxCO (h : jw_H) (b : Nat) (s : List Int) (i : Nat) (p : Int) : Prop :=
  b < 10 ∧ i < 60 ∧ pxPG h b s ∧ pxAk h s i p ∧ (pxAct s p).1 = true ∧ pxM h 10 7 ≤ 120 ∧ 0 ≤ p ∧ p ≤ s.length
theorem pxCO.fb {P : Nat → Nat → Prop} {h h' : jw_H} {b : Nat} {s : List Int} {i : Nat} {p : Int} (H : pxCO h b s i p) (F : pxF P h h') (hP : ∀ k f, k ≤ 253 → ¬ P k f) : pxCO h' b s i p := by
  obtain ⟨a1, a2, a3, a4, a5, a6, a7⟩ := H
  exact ⟨a1, a2, a3.fb a1 F hP, a4.fr F (fun f _ _ => hP _ _ (by omega)) (fun f => hP _ _ (by omega)) (fun k f q _ => hP _ _ (by omega)) (by rw [F.m (hP _ _ (by omega))]; exact Int.le_refl _), a5, by rw [F.m (hP _ _ (by omega))]; exact a6, a7⟩
section
variable {b : Nat} {s : List Int}
theorem pxCO.ro {h : jw_H} {i : Nat} {p : Int} (H : pxCO h b s i p) (c : pxP s p = 115) : pxRO h s (12 + 4 * i) (pxFull s (p + 2)) (pxPatK s (p + 2)) (pxPtn s (p + 1)).2 (pxRepN s (p + 1)) (pxM h (12 + 4 * i) 6) (pxM h 10 7) := by
  obtain ⟨hb, hi, G, A, ok, m7, p0, p1⟩ := H
  obtain ⟨-, t5, -⟩ := G.1.2.2.2.2.2.2.2 i hi
  obtain ⟨a1, a2, a3, a4, a5⟩ := A
  have lt := pxP_lt (s := s) (p := p) (by omega)
  have okR : (pxRep s (p + 1)).1 = true := by
    unfold pxAct at ok
    rw [c] at ok
    exact ok
  have okP : (pxPtn s (p + 1)).1 = true := by
    unfold pxRep at okR
    by_cases z : (pxPtn s (p + 1)).1 = true
    · exact z
    · rw [if_neg z] at okR; exact absurd okR z
  have okU : (pxRepU s (p + 1)).1 = true := by
    unfold pxRep at okR
    rw [if_pos okP] at okR
    by_cases z : (pxRepU s (p + 1)).1 = true
    · exact z
    · rw [if_neg z] at okR; exact absurd okR z
  have e2 : p + 1 + 1 = p + 2 := by omega
  have eU : pxRepU s (p + 1) = pxPut s (pxPatK s (p + 2)) 61 (pxPtn s (p + 1)).2 := by unfold pxRepU; rw [e2]
  have pb := pxPtn_b (s := s) (p := p + 1) (by omega) (by omega)
  obtain ⟨-, okp, -⟩ := pb.2.2 okP
  rw [e2] at okp
  have wf := pxFull_w okp
  have kb := pxPatK_b (s := s) (p := p + 2)
  obtain ⟨b1, b2, b3⟩ := a4 (Or.inl c)
  have f5 := a2 (by unfold pxOnA; omega)
  have eOn : pxOn s p = pxRepN s (p + 1) := by
    unfold pxOn
    rw [if_neg (by omega), if_neg (by omega), if_neg (by omega), if_pos c]
  obtain ⟨f7, f8⟩ := a3 (by unfold pxOtA; omega)
  have eF : pxOfr s p = (pxPtn s (p + 1)).2 := by unfold pxOfr; rw [if_pos c]
  have eT : pxOto s p = (pxRepU s (p + 1)).2 := by unfold pxOto; rw [if_pos c]
  have rn : 0 ≤ pxRepN s (p + 1) ∧ pxRepN s (p + 1) ≤ 9 := by
    unfold pxRepN
    by_cases z : pxP s ((pxRepU s (p + 1)).2 + 1) = 103
    · rw [if_pos z]; omega
    · rw [if_neg z]
      by_cases y : 49 ≤ pxP s ((pxRepU s (p + 1)).2 + 1) ∧ pxP s ((pxRepU s (p + 1)).2 + 1) ≤ 57
      · rw [if_pos y]; omega
      · rw [if_neg y]; omega
  exact ⟨by omega, t5, wf.1, wf.2, kb.2, by omega, by omega, by rw [← eU]; exact okU, rn.1, rn.2, by rw [f5, eOn], rfl, by rw [f7, eF], by rw [f8, eT, eU], G.1, rfl, m7, b1, b2, b3⟩
/-- one row, built -/
theorem s_X2_one {h : jw_H} {i : Nat} {p : Int} {r : List Int} (H : pxCO h b s i p) (c : pxP s p = 62 ∨ pxP s p = 115 ∨ pxP s p = 122 ∨ pxP s p = 60) (B : pxBu h []) (T : pxMT h r) {rep : Bool} (rp : pxM h 536 5 = if rep = true then 1 else 0) {k : jw_H → Option (Int32 × jw_H)} {v8 : Int32} (e8 : v8 = pxJ (pxP s p)) :
    ∃ h', (if v8 = (62 : Int32) then ((jw_gI h 5 (some (12 + 4 * i)) 5).bind fun v10 => (jw_rc h 2 (some 536)).bind fun a11 => jw_b2 (f_X2_shiftBehind h a11 v10) fun w13 h12 => k h12)
      else (if v8 = (115 : Int32) then ((jw_rc h 2 (some 536)).bind fun a15 => jw_b2 (f_X2_replace h a15 (some (12 + 4 * i))) fun w17 h16 => k h16)
      else (if v8 = (122 : Int32) then ((jw_rc h 2 (some 536)).bind fun a19 => jw_b2 (f_X2_turn h a19 (some (12 + 4 * i))) fun w21 h20 => k h20)
      else ((jw_gI h 5 (some (12 + 4 * i)) 5).bind fun v22 => (jw_rc h 2 (some 536)).bind fun a23 => jw_b2 (f_X2_shiftAhead h a23 v22) fun w25 h24 => k h24)))) = k h' ∧ pxF pxQy h h' ∧ pxBu h' (pxChg s p r).1 ∧ pxM h' 536 5 = if (rep || (pxChg s p r).2) = true then 1 else 0 := by
  have H' := H
  obtain ⟨hb, hi, G, A, ok, m7, p0, p1⟩ := H'
  obtain ⟨-, t5, -⟩ := G.1.2.2.2.2.2.2.2 i hi
  obtain ⟨a1, a2, a3, a4, a5⟩ := A
  have lt := pxP_lt (s := s) (p := p) (by omega)
  have n60 := G.2.2.2.2.1.1
  have t0 := B.1.1
  have hin := pxP_in G.2.2.2.2.1 p
  subst e8
  unfold pxChg
  have okN : ¬ pxP s p = 115 → ¬ pxP s p = 122 → 0 ≤ pxNumV s (p + 1) ∧ pxNumV s (p + 1) ≤ 99 ∧ pxM h (12 + 4 * i) 5 = pxNumV s (p + 1) := by
    intro z1 z2
    have ok1 : (pxNum s (p + 1)).1 = true := by
      unfold pxAct at ok
      rcases c with c | c | c | c
      · rw [c] at ok; exact ok
      · exact absurd c z1
      · exact absurd c z2
      · rw [c] at ok; exact ok
    have nb := pxNumV_b ok1
    refine ⟨nb.1, nb.2, ?_⟩
    rw [a2 (by unfold pxOnA; omega)]
    unfold pxOn
    rw [if_neg (by omega), if_neg (by omega), if_neg (by omega), if_neg z1, if_neg z2]
  by_cases c1 : pxP s p = 62
  · rw [if_pos c1]
    obtain ⟨y1, y2, y3⟩ := okN (by omega) (by omega)
    obtain ⟨h1, v1, v2, v3⟩ := s_X2_shiftBehind y1 (by omega) B T
    refine ⟨h1, ?_, pxQc_y v2, v3, ?_⟩
    · simp (maxSteps := 4000000) (disch := first | assumption | omega | (simp only [jw_t_I, px_cpt]; done) | (simp only [jw_t_I, px_cpt]; omega)) only [pxL0, pxL1, pxL2, pxL3, pxL4, pxL5, pxL6, pxL7, pxL8, pxL9, pxL10, pxL11, pxL12, pxL13, pxL14, pxL15, pxL16, pxL17, pxL18, pxL19, pxL20, pxL21, pxL22, pxL23, pxL24, pxL25, pxL26, pxL27, pxL28, pxL29, pxL30, pxL31, pxL32, pxL33, pxL34, pxL35, pxL36, pxL37, pxL38, pxL39, pxL40, pxL41, pxL42, pxL43, pxL44, pxL45, pxL46, pxL47, pxL48, pxL49, pxL51, pxL57, pxL58, pxL59, pxL60, pxL61, pxL62, pxL63, pxL64, pxL65, pxL66, pxL67, pxL68, pxL69, pxL70, pxL71, pxL72, pxL73, pxL74, pxL75, pxL76, pxL77, pxL78, pxL79, pxL80, pxL81, pxL82, pxL83, pxL84, pxL85, pxL86, pxL87, pxL88, pxL89, pxL90, pxL91, pxL92, pxL93, pxL94, pxL95, pxL96, pxL97, pxL98, pxL99, pxL100, pxL101, pxL102, pxL103, pxL104, pxL105, pxL106, pxL107, pxL108, pxL109, pxL110, pxL111, pxL112, pxL113, pxL114, pxL115, pxL116, pxL117, pxL118, pxL119, pxL120, pxL121, pxL122, pxL123, pxL124, pxL125, pxL126, pxL200, pxL240, pxL287, pxL388, pxL400, pxL429, pxL431, pxL440, pxL1240, pxL1600, pxL1681, pxL12028, pxL13849, pxL14880, pxL25173, pxL26908, pxL49600, pxL65535, pxL65536, ↓reduceIte, reduceCtorEq, pxJ_add, pxJ_sub, pxJ_mul, pxJ_neg, pxD_lt_t, pxD_lt_f, pxD_le_t, pxD_le_f, pxD_eq_t, pxD_eq_f, pxJ_lt, pxJ_le, pxJ_eq, px_gI, px_gR, px_pI, px_rc, px_ai, px_ar, px_si, px_ln, px_cp, pxJ_div, pxJ_b8, pxJ_byte, px_b2, px_bs, px_rb0, px_rb1, px_min, px_max, px_compare, pxW_some, jw_t_I, px_cpt, jw_r_I, px_cpr, jw_l_I, px_cpl, Option.some.injEq, c1, y3, v1]
    · rw [v2.m (by unfold pxQc; omega), Bool.or_false]; exact rp
  rw [if_neg c1]
  by_cases c2 : pxP s p = 115
  · rw [if_pos c2]
    have RO := H.ro c2
    obtain ⟨h1, v1, v2, v3, v4⟩ := s_X2_replace_b7 (r := r) hb 31 jw_FU h [] 1 0 0 false (by omega) (by unfold jw_FU; omega) (by omega) (by omega) (by omega) (by omega) (fun z => by cases z) (fun _ => rfl) B T G RO
    rw [show (if false = true then (1 : Int) else 0) = 0 from rfl] at v1
    rw [List.nil_append] at v3
    refine ⟨h1, ?_, v2, v3, ?_⟩
    · have v1' : f_X2_replace h 536 (some (12 + 4 * i)) = some ((), h1) := v1
      simp (maxSteps := 4000000) (disch := first | assumption | omega | (simp only [jw_t_I, px_cpt]; done) | (simp only [jw_t_I, px_cpt]; omega)) only [pxL0, pxL1, pxL2, pxL3, pxL4, pxL5, pxL6, pxL7, pxL8, pxL9, pxL10, pxL11, pxL12, pxL13, pxL14, pxL15, pxL16, pxL17, pxL18, pxL19, pxL20, pxL21, pxL22, pxL23, pxL24, pxL25, pxL26, pxL27, pxL28, pxL29, pxL30, pxL31, pxL32, pxL33, pxL34, pxL35, pxL36, pxL37, pxL38, pxL39, pxL40, pxL41, pxL42, pxL43, pxL44, pxL45, pxL46, pxL47, pxL48, pxL49, pxL51, pxL57, pxL58, pxL59, pxL60, pxL61, pxL62, pxL63, pxL64, pxL65, pxL66, pxL67, pxL68, pxL69, pxL70, pxL71, pxL72, pxL73, pxL74, pxL75, pxL76, pxL77, pxL78, pxL79, pxL80, pxL81, pxL82, pxL83, pxL84, pxL85, pxL86, pxL87, pxL88, pxL89, pxL90, pxL91, pxL92, pxL93, pxL94, pxL95, pxL96, pxL97, pxL98, pxL99, pxL100, pxL101, pxL102, pxL103, pxL104, pxL105, pxL106, pxL107, pxL108, pxL109, pxL110, pxL111, pxL112, pxL113, pxL114, pxL115, pxL116, pxL117, pxL118, pxL119, pxL120, pxL121, pxL122, pxL123, pxL124, pxL125, pxL126, pxL200, pxL240, pxL287, pxL388, pxL400, pxL429, pxL431, pxL440, pxL1240, pxL1600, pxL1681, pxL12028, pxL13849, pxL14880, pxL25173, pxL26908, pxL49600, pxL65535, pxL65536, ↓reduceIte, reduceCtorEq, pxJ_add, pxJ_sub, pxJ_mul, pxJ_neg, pxD_lt_t, pxD_lt_f, pxD_le_t, pxD_le_f, pxD_eq_t, pxD_eq_f, pxJ_lt, pxJ_le, pxJ_eq, px_gI, px_gR, px_pI, px_rc, px_ai, px_ar, px_si, px_ln, px_cp, pxJ_div, pxJ_b8, pxJ_byte, px_b2, px_bs, px_rb0, px_rb1, px_min, px_max, px_compare, pxW_some, jw_t_I, px_cpt, jw_r_I, px_cpr, jw_l_I, px_cpl, Option.some.injEq, c2, v1']
    · rw [v4, rp]
      cases rep with
      | true => simp
      | false => simp
  rw [if_neg c2]
  by_cases c3 : pxP s p = 122
  · rw [if_pos c3]
    have okT : (pxTrn s (p + 1)).1 = true := by
      unfold pxAct at ok
      rw [c3] at ok; exact ok
    have cc := pxTrn_c okT (by omega)
    have tb := pxTrn_b (s := s) (p := p + 1) (by omega) (by omega)
    obtain ⟨f7, f8⟩ := a3 (by unfold pxOtA; omega)
    have f5 := a2 (by unfold pxOnA; omega)
    have eOn : pxOn s p = pxTrnN s (p + 1) := by
      unfold pxOn
      rw [if_neg (by omega), if_neg (by omega), if_neg (by omega), if_neg c2, if_pos c3]
    have eF : pxOfr s p = p + 2 := by unfold pxOfr; rw [if_neg c2, if_pos c3]
    have eT : pxOto s p = p + 3 + pxTrnN s (p + 1) := by unfold pxOto; rw [if_neg c2, if_pos c3]
    have sl := pxSpan_le (s := s) (p := p + 1 + 1) (by omega) (by have := pxTrn_ok okT; have := pxP_lt (s := s) (p := p + 1) (by omega); omega)
    have eN : ((pxSpan s (p + 1 + 1)).length : Int) = pxTrnN s (p + 1) := rfl
    obtain ⟨h1, v1, v2, v3⟩ := s_X2_turn (n := pxTrnN s (p + 1)) (fr := p + 2) (to := p + 3 + pxTrnN s (p + 1)) hb (show 12 + 4 * i < 252 by omega) (by omega) (by omega) (by omega) (by omega) (by omega) (by omega) (fun j j0 j1 => by rw [show p + 3 + pxTrnN s (p + 1) + j = p + 1 + 2 + pxTrnN s (p + 1) + j by omega]; exact cc j j0 j1) B T G t5 (by rw [f5, eOn]) (by rw [f7, eF]) (by rw [f8, eT])
    refine ⟨h1, ?_, pxQc_y v2, v3, ?_⟩
    · simp (maxSteps := 4000000) (disch := first | assumption | omega | (simp only [jw_t_I, px_cpt]; done) | (simp only [jw_t_I, px_cpt]; omega)) only [pxL0, pxL1, pxL2, pxL3, pxL4, pxL5, pxL6, pxL7, pxL8, pxL9, pxL10, pxL11, pxL12, pxL13, pxL14, pxL15, pxL16, pxL17, pxL18, pxL19, pxL20, pxL21, pxL22, pxL23, pxL24, pxL25, pxL26, pxL27, pxL28, pxL29, pxL30, pxL31, pxL32, pxL33, pxL34, pxL35, pxL36, pxL37, pxL38, pxL39, pxL40, pxL41, pxL42, pxL43, pxL44, pxL45, pxL46, pxL47, pxL48, pxL49, pxL51, pxL57, pxL58, pxL59, pxL60, pxL61, pxL62, pxL63, pxL64, pxL65, pxL66, pxL67, pxL68, pxL69, pxL70, pxL71, pxL72, pxL73, pxL74, pxL75, pxL76, pxL77, pxL78, pxL79, pxL80, pxL81, pxL82, pxL83, pxL84, pxL85, pxL86, pxL87, pxL88, pxL89, pxL90, pxL91, pxL92, pxL93, pxL94, pxL95, pxL96, pxL97, pxL98, pxL99, pxL100, pxL101, pxL102, pxL103, pxL104, pxL105, pxL106, pxL107, pxL108, pxL109, pxL110, pxL111, pxL112, pxL113, pxL114, pxL115, pxL116, pxL117, pxL118, pxL119, pxL120, pxL121, pxL122, pxL123, pxL124, pxL125, pxL126, pxL200, pxL240, pxL287, pxL388, pxL400, pxL429, pxL431, pxL440, pxL1240, pxL1600, pxL1681, pxL12028, pxL13849, pxL14880, pxL25173, pxL26908, pxL49600, pxL65535, pxL65536, ↓reduceIte, reduceCtorEq, pxJ_add, pxJ_sub, pxJ_mul, pxJ_neg, pxD_lt_t, pxD_lt_f, pxD_le_t, pxD_le_f, pxD_eq_t, pxD_eq_f, pxJ_lt, pxJ_le, pxJ_eq, px_gI, px_gR, px_pI, px_rc, px_ai, px_ar, px_si, px_ln, px_cp, pxJ_div, pxJ_b8, pxJ_byte, px_b2, px_bs, px_rb0, px_rb1, px_min, px_max, px_compare, pxW_some, jw_t_I, px_cpt, jw_r_I, px_cpr, jw_l_I, px_cpl, Option.some.injEq, c3, v1]
    · rw [v2.m (by unfold pxQc; omega), Bool.or_false]; exact rp
  · rw [if_neg c3]
    obtain ⟨y1, y2, y3⟩ := okN c2 c3
    obtain ⟨h1, v1, v2, v3⟩ := s_X2_shiftAhead y1 (by omega) B T
    refine ⟨h1, ?_, pxQc_y v2, v3, ?_⟩
    · simp (maxSteps := 4000000) (disch := first | assumption | omega | (simp only [jw_t_I, px_cpt]; done) | (simp only [jw_t_I, px_cpt]; omega)) only [pxL0, pxL1, pxL2, pxL3, pxL4, pxL5, pxL6, pxL7, pxL8, pxL9, pxL10, pxL11, pxL12, pxL13, pxL14, pxL15, pxL16, pxL17, pxL18, pxL19, pxL20, pxL21, pxL22, pxL23, pxL24, pxL25, pxL26, pxL27, pxL28, pxL29, pxL30, pxL31, pxL32, pxL33, pxL34, pxL35, pxL36, pxL37, pxL38, pxL39, pxL40, pxL41, pxL42, pxL43, pxL44, pxL45, pxL46, pxL47, pxL48, pxL49, pxL51, pxL57, pxL58, pxL59, pxL60, pxL61, pxL62, pxL63, pxL64, pxL65, pxL66, pxL67, pxL68, pxL69, pxL70, pxL71, pxL72, pxL73, pxL74, pxL75, pxL76, pxL77, pxL78, pxL79, pxL80, pxL81, pxL82, pxL83, pxL84, pxL85, pxL86, pxL87, pxL88, pxL89, pxL90, pxL91, pxL92, pxL93, pxL94, pxL95, pxL96, pxL97, pxL98, pxL99, pxL100, pxL101, pxL102, pxL103, pxL104, pxL105, pxL106, pxL107, pxL108, pxL109, pxL110, pxL111, pxL112, pxL113, pxL114, pxL115, pxL116, pxL117, pxL118, pxL119, pxL120, pxL121, pxL122, pxL123, pxL124, pxL125, pxL126, pxL200, pxL240, pxL287, pxL388, pxL400, pxL429, pxL431, pxL440, pxL1240, pxL1600, pxL1681, pxL12028, pxL13849, pxL14880, pxL25173, pxL26908, pxL49600, pxL65535, pxL65536, ↓reduceIte, reduceCtorEq, pxJ_add, pxJ_sub, pxJ_mul, pxJ_neg, pxD_lt_t, pxD_lt_f, pxD_le_t, pxD_le_f, pxD_eq_t, pxD_eq_f, pxJ_lt, pxJ_le, pxJ_eq, px_gI, px_gR, px_pI, px_rc, px_ai, px_ar, px_si, px_ln, px_cp, pxJ_div, pxJ_b8, pxJ_byte, px_b2, px_bs, px_rb0, px_rb1, px_min, px_max, px_compare, pxW_some, jw_t_I, px_cpt, jw_r_I, px_cpr, jw_l_I, px_cpl, Option.some.injEq, y3, v1]
    · rw [v2.m (by unfold pxQc; omega), Bool.or_false]; exact rp
theorem s_X2_change_b3 {i : Nat} {p y : Int} {ρ cap : Nat} (hd : ρ + 2 < 531 ∨ 537 < ρ) (hl : 253 < ρ) (c : pxP s p = 62 ∨ pxP s p = 115 ∨ pxP s p = 122 ∨ pxP s p = 60) : ∀ (m N : Nat) (h : jw_H) (x : Int) (rs : List (List Int)) (rep : Bool), x + m = y + 1 → m < N → 1 ≤ x → y ≤ rs.length → pxCO h b s i p → pxHS h → pxMS h → pxIR h ρ cap rs → (pxM h 536 5 = if rep = true then 1 else 0) →
    ((pxChgs s p m x rs rep).1 = true → ∃ h', f_X2_change_b3 N h 536 (some (12 + 4 * i)) (some ρ) (pxJ y) (pxJ x) = some (pxJ 0, h') ∧ pxF (pxQr ρ) h h' ∧ pxIR h' ρ cap (pxChgs s p m x rs rep).2.1 ∧ (pxM h' 536 5 = if (pxChgs s p m x rs rep).2.2 = true then 1 else 0)) ∧
    ((pxChgs s p m x rs rep).1 = false → ∃ (h' : jw_H) (rs' : List (List Int)) (rep' : Bool), f_X2_change_b3 N h 536 (some (12 + 4 * i)) (some ρ) (pxJ y) (pxJ x) = some (pxJ 4, h') ∧ pxF (pxQr ρ) h h' ∧ pxIR h' ρ cap rs' ∧ rs'.length = rs.length ∧ pxM h' 536 5 = if rep' = true then 1 else 0) := by
  intro m
  induction m with
  | zero =>
    intro N h x rs rep em hN x1 yl H S M R rp
    obtain ⟨N, rfl, hN⟩ := px_fu hN
    have cap100 := R.1.2.2.2.2.2
    have rl := R.2.1
    rw [u_X2_change_b3]
    unfold g_X2_change_b3 pxChgs
    refine ⟨fun _ => ⟨h, ?_, pxF.rfl, R, rp⟩, fun z => (by cases z)⟩
    simp (maxSteps := 4000000) (disch := first | assumption | omega | (simp only [jw_t_I, px_cpt]; done) | (simp only [jw_t_I, px_cpt]; omega)) only [pxL0, pxL1, pxL2, pxL3, pxL4, pxL5, pxL6, pxL7, pxL8, pxL9, pxL10, pxL11, pxL12, pxL13, pxL14, pxL15, pxL16, pxL17, pxL18, pxL19, pxL20, pxL21, pxL22, pxL23, pxL24, pxL25, pxL26, pxL27, pxL28, pxL29, pxL30, pxL31, pxL32, pxL33, pxL34, pxL35, pxL36, pxL37, pxL38, pxL39, pxL40, pxL41, pxL42, pxL43, pxL44, pxL45, pxL46, pxL47, pxL48, pxL49, pxL51, pxL57, pxL58, pxL59, pxL60, pxL61, pxL62, pxL63, pxL64, pxL65, pxL66, pxL67, pxL68, pxL69, pxL70, pxL71, pxL72, pxL73, pxL74, pxL75, pxL76, pxL77, pxL78, pxL79, pxL80, pxL81, pxL82, pxL83, pxL84, pxL85, pxL86, pxL87, pxL88, pxL89, pxL90, pxL91, pxL92, pxL93, pxL94, pxL95, pxL96, pxL97, pxL98, pxL99, pxL100, pxL101, pxL102, pxL103, pxL104, pxL105, pxL106, pxL107, pxL108, pxL109, pxL110, pxL111, pxL112, pxL113, pxL114, pxL115, pxL116, pxL117, pxL118, pxL119, pxL120, pxL121, pxL122, pxL123, pxL124, pxL125, pxL126, pxL200, pxL240, pxL287, pxL388, pxL400, pxL429, pxL431, pxL440, pxL1240, pxL1600, pxL1681, pxL12028, pxL13849, pxL14880, pxL25173, pxL26908, pxL49600, pxL65535, pxL65536, ↓reduceIte, reduceCtorEq, pxJ_add, pxJ_sub, pxJ_mul, pxJ_neg, pxD_lt_t, pxD_lt_f, pxD_le_t, pxD_le_f, pxD_eq_t, pxD_eq_f, pxJ_lt, pxJ_le, pxJ_eq, px_gI, px_gR, px_pI, px_rc, px_ai, px_ar, px_si, px_ln, px_cp, pxJ_div, pxJ_b8, pxJ_byte, px_b2, px_bs, px_rb0, px_rb1, px_min, px_max, px_compare, pxW_some, jw_t_I, px_cpt, jw_r_I, px_cpr, jw_l_I, px_cpl, Option.some.injEq]
  | succ m ih =>
    intro N h x rs rep em hN x1 yl H S M R rp
    obtain ⟨N, rfl, hN⟩ := px_fu hN
    have cap100 := R.1.2.2.2.2.2
    have rl := R.2.1
    have t0 := S.1
    have r1 := S.2.2.1
    have Fa : pxF pxQy h (jw_setI (jw_setI h 536 3 (pxJ 0)) 536 4 (pxJ 0)) := (pxF.setI (by unfold pxQy; omega)).trans (pxF.setI (by unfold pxQy; omega))
    have Ma := M.fr Fa (fun f z => by unfold pxQy; omega)
    have Ra := R.fr Fa (fun k f z1 z2 => by unfold pxQy; omega)
    have Sa := S.fr Fa (fun f z => by unfold pxQy; omega)
    have t0a := Sa.1
    have r1a := Sa.2.2.1
    have m0a := Ma.1
    obtain ⟨h1, v1, v2, v3⟩ := s_X4_load (ρ := ρ) (x := x) (by omega) Ma Ra x1 (by omega)
    have F1 : pxF pxQy h h1 := Fa.trans (pxQx_y v2)
    have H1 : pxCO h1 b s i p := H.fb F1 (fun k f z => by unfold pxQy; omega)
    have Bu : pxBu h1 [] := by
      refine ⟨Sa.fr v2 (fun f z => by unfold pxQx; omega), fun c hc => (by cases hc), fun _ => ⟨?_, ?_, fun j j0 j1 => (by simp at j1; omega)⟩, fun z => (by simp at z)⟩
      · rw [v2.m (by unfold pxQx; omega)]; exact pxM_eq (by omega) (by omega)
      · rw [v2.m (by unfold pxQx; omega), pxM_ne (by omega)]; exact pxM_eq (by omega) (by omega)
    obtain ⟨-, t5, -⟩ := H1.2.2.1.1.2.2.2.2.2.2.2 i H.2.1
    have f3 : pxM h1 (12 + 4 * i) 3 = pxP s p := H1.2.2.2.1.1
    obtain ⟨h2, w1, w2, w3, w4⟩ := s_X2_one H1 c Bu v3 (rep := rep) (by rw [v2.m (by unfold pxQx; omega), pxM_ne (by omega), pxM_ne (by omega)]; exact rp) (k := fun h => g_X2_change_b103 (f_X2_change_b3 N) h 536 (some (12 + 4 * i)) (some ρ) (pxJ y) (pxJ x)) (v8 := pxJ (pxP s p)) rfl
    have F2 : pxF pxQy h h2 := F1.trans w2
    have R2 := R.fr F2 (fun k f z1 z2 => by unfold pxQy; omega)
    have t02 := w3.1.1
    have r22 := w3.1.2.2.2.1
    have t72 := R2.1.1
    have st : f_X2_change_b3 (N + 1) h 536 (some (12 + 4 * i)) (some ρ) (pxJ y) (pxJ x) = g_X2_change_b103 (f_X2_change_b3 N) h2 536 (some (12 + 4 * i)) (some ρ) (pxJ y) (pxJ x) := by
      rw [← w1, u_X2_change_b3]
      unfold g_X2_change_b3
      have t0b : (jw_t (jw_setI h 536 3 (pxJ 0)) 536).1 = 2 := t0
      simp (maxSteps := 4000000) (disch := first | assumption | omega | (simp only [jw_t_I, px_cpt]; done) | (simp only [jw_t_I, px_cpt]; omega)) only [pxL0, pxL1, pxL2, pxL3, pxL4, pxL5, pxL6, pxL7, pxL8, pxL9, pxL10, pxL11, pxL12, pxL13, pxL14, pxL15, pxL16, pxL17, pxL18, pxL19, pxL20, pxL21, pxL22, pxL23, pxL24, pxL25, pxL26, pxL27, pxL28, pxL29, pxL30, pxL31, pxL32, pxL33, pxL34, pxL35, pxL36, pxL37, pxL38, pxL39, pxL40, pxL41, pxL42, pxL43, pxL44, pxL45, pxL46, pxL47, pxL48, pxL49, pxL51, pxL57, pxL58, pxL59, pxL60, pxL61, pxL62, pxL63, pxL64, pxL65, pxL66, pxL67, pxL68, pxL69, pxL70, pxL71, pxL72, pxL73, pxL74, pxL75, pxL76, pxL77, pxL78, pxL79, pxL80, pxL81, pxL82, pxL83, pxL84, pxL85, pxL86, pxL87, pxL88, pxL89, pxL90, pxL91, pxL92, pxL93, pxL94, pxL95, pxL96, pxL97, pxL98, pxL99, pxL100, pxL101, pxL102, pxL103, pxL104, pxL105, pxL106, pxL107, pxL108, pxL109, pxL110, pxL111, pxL112, pxL113, pxL114, pxL115, pxL116, pxL117, pxL118, pxL119, pxL120, pxL121, pxL122, pxL123, pxL124, pxL125, pxL126, pxL200, pxL240, pxL287, pxL388, pxL400, pxL429, pxL431, pxL440, pxL1240, pxL1600, pxL1681, pxL12028, pxL13849, pxL14880, pxL25173, pxL26908, pxL49600, pxL65535, pxL65536, ↓reduceIte, reduceCtorEq, pxJ_add, pxJ_sub, pxJ_mul, pxJ_neg, pxD_lt_t, pxD_lt_f, pxD_le_t, pxD_le_f, pxD_eq_t, pxD_eq_f, pxJ_lt, pxJ_le, pxJ_eq, px_gI, px_gR, px_pI, px_rc, px_ai, px_ar, px_si, px_ln, px_cp, pxJ_div, pxJ_b8, pxJ_byte, px_b2, px_bs, px_rb0, px_rb1, px_min, px_max, px_compare, pxW_some, jw_t_I, px_cpt, jw_r_I, px_cpr, jw_l_I, px_cpl, Option.some.injEq, t0, px_pB0, r1a, r1, m0a, v1, f3]
    rw [st]
    have eC : pxChgs s p (m + 1) x rs rep = if 30 < (pxChg s p (pxRw rs x)).1.length then (false, rs, rep) else pxChgs s p m (x + 1) (pxSet rs x (pxChg s p (pxRw rs x)).1) (rep || (pxChg s p (pxRw rs x)).2) := rfl
    rw [eC]
    unfold g_X2_change_b103
    generalize hq : (pxChg s p (pxRw rs x)).1 = q at w3 ⊢
    generalize (rep || (pxChg s p (pxRw rs x)).2) = rep2 at w4 ⊢
    by_cases cl : 30 < q.length
    · rw [if_pos cl]
      obtain ⟨m4, -⟩ := w3.2.2.2 cl
      refine ⟨fun z => (by cases z), fun _ => ⟨h2, rs, rep2, ?_, F2.mono (fun k f z => Or.inl z), R2, rfl, w4⟩⟩
      simp (maxSteps := 4000000) (disch := first | assumption | omega | (simp only [jw_t_I, px_cpt]; done) | (simp only [jw_t_I, px_cpt]; omega)) only [pxL0, pxL1, pxL2, pxL3, pxL4, pxL5, pxL6, pxL7, pxL8, pxL9, pxL10, pxL11, pxL12, pxL13, pxL14, pxL15, pxL16, pxL17, pxL18, pxL19, pxL20, pxL21, pxL22, pxL23, pxL24, pxL25, pxL26, pxL27, pxL28, pxL29, pxL30, pxL31, pxL32, pxL33, pxL34, pxL35, pxL36, pxL37, pxL38, pxL39, pxL40, pxL41, pxL42, pxL43, pxL44, pxL45, pxL46, pxL47, pxL48, pxL49, pxL51, pxL57, pxL58, pxL59, pxL60, pxL61, pxL62, pxL63, pxL64, pxL65, pxL66, pxL67, pxL68, pxL69, pxL70, pxL71, pxL72, pxL73, pxL74, pxL75, pxL76, pxL77, pxL78, pxL79, pxL80, pxL81, pxL82, pxL83, pxL84, pxL85, pxL86, pxL87, pxL88, pxL89, pxL90, pxL91, pxL92, pxL93, pxL94, pxL95, pxL96, pxL97, pxL98, pxL99, pxL100, pxL101, pxL102, pxL103, pxL104, pxL105, pxL106, pxL107, pxL108, pxL109, pxL110, pxL111, pxL112, pxL113, pxL114, pxL115, pxL116, pxL117, pxL118, pxL119, pxL120, pxL121, pxL122, pxL123, pxL124, pxL125, pxL126, pxL200, pxL240, pxL287, pxL388, pxL400, pxL429, pxL431, pxL440, pxL1240, pxL1600, pxL1681, pxL12028, pxL13849, pxL14880, pxL25173, pxL26908, pxL49600, pxL65535, pxL65536, ↓reduceIte, reduceCtorEq, pxJ_add, pxJ_sub, pxJ_mul, pxJ_neg, pxD_lt_t, pxD_lt_f, pxD_le_t, pxD_le_f, pxD_eq_t, pxD_eq_f, pxJ_lt, pxJ_le, pxJ_eq, px_gI, px_gR, px_pI, px_rc, px_ai, px_ar, px_si, px_ln, px_cp, pxJ_div, pxJ_b8, pxJ_byte, px_b2, px_bs, px_rb0, px_rb1, px_min, px_max, px_compare, pxW_some, jw_t_I, px_cpt, jw_r_I, px_cpr, jw_l_I, px_cpl, Option.some.injEq, t02, m4]
    · rw [if_neg cl]
      obtain ⟨m4, m3, mb⟩ := w3.2.2.1 (by omega)
      have by' : pxBy h2 537 0 q := ⟨30, w3.1.2.2.2.2, Int.le_refl _, by omega, by omega, ⟨by omega, w3.2.1⟩, fun y y0 y1 => by rw [Int.zero_add]; exact mb y y0 y1⟩
      obtain ⟨a, h3, e3, x2, x3⟩ := s_X7_write R2 by' (x := x) (by omega) (by omega)
      rw [if_pos ⟨x1, by omega⟩] at x3
      have F3 : pxF (pxQr ρ) h h3 := (F2.mono (fun k f z => Or.inl z)).trans (x2.mono (fun k f z => Or.inr z))
      have H3 := H.fb F3 (fun k f z => by unfold pxQr pxQy; omega)
      obtain ⟨z1, z2⟩ := ih N h3 (x + 1) (pxSet rs x q) rep2 (by omega) (by omega) (by omega) (by rw [pxSet_len]; exact yl) H3 (S.fr F3 (fun f z => by unfold pxQr pxQy; omega)) (M.fr F3 (fun f z => by unfold pxQr pxQy; omega)) x3 (by rw [x2.m (by unfold pxC; omega)]; exact w4)
      refine ⟨fun z => ?_, fun z => ?_⟩
      · obtain ⟨h', b1, b2, b3, b4⟩ := z1 z
        refine ⟨h', ?_, F3.trans b2, b3, b4⟩
        simp (maxSteps := 4000000) (disch := first | assumption | omega | (simp only [jw_t_I, px_cpt]; done) | (simp only [jw_t_I, px_cpt]; omega)) only [pxL0, pxL1, pxL2, pxL3, pxL4, pxL5, pxL6, pxL7, pxL8, pxL9, pxL10, pxL11, pxL12, pxL13, pxL14, pxL15, pxL16, pxL17, pxL18, pxL19, pxL20, pxL21, pxL22, pxL23, pxL24, pxL25, pxL26, pxL27, pxL28, pxL29, pxL30, pxL31, pxL32, pxL33, pxL34, pxL35, pxL36, pxL37, pxL38, pxL39, pxL40, pxL41, pxL42, pxL43, pxL44, pxL45, pxL46, pxL47, pxL48, pxL49, pxL51, pxL57, pxL58, pxL59, pxL60, pxL61, pxL62, pxL63, pxL64, pxL65, pxL66, pxL67, pxL68, pxL69, pxL70, pxL71, pxL72, pxL73, pxL74, pxL75, pxL76, pxL77, pxL78, pxL79, pxL80, pxL81, pxL82, pxL83, pxL84, pxL85, pxL86, pxL87, pxL88, pxL89, pxL90, pxL91, pxL92, pxL93, pxL94, pxL95, pxL96, pxL97, pxL98, pxL99, pxL100, pxL101, pxL102, pxL103, pxL104, pxL105, pxL106, pxL107, pxL108, pxL109, pxL110, pxL111, pxL112, pxL113, pxL114, pxL115, pxL116, pxL117, pxL118, pxL119, pxL120, pxL121, pxL122, pxL123, pxL124, pxL125, pxL126, pxL200, pxL240, pxL287, pxL388, pxL400, pxL429, pxL431, pxL440, pxL1240, pxL1600, pxL1681, pxL12028, pxL13849, pxL14880, pxL25173, pxL26908, pxL49600, pxL65535, pxL65536, ↓reduceIte, reduceCtorEq, pxJ_add, pxJ_sub, pxJ_mul, pxJ_neg, pxD_lt_t, pxD_lt_f, pxD_le_t, pxD_le_f, pxD_eq_t, pxD_eq_f, pxJ_lt, pxJ_le, pxJ_eq, px_gI, px_gR, px_pI, px_rc, px_ai, px_ar, px_si, px_ln, px_cp, pxJ_div, pxJ_b8, pxJ_byte, px_b2, px_bs, px_rb0, px_rb1, px_min, px_max, px_compare, pxW_some, jw_t_I, px_cpt, jw_r_I, px_cpr, jw_l_I, px_cpl, Option.some.injEq, t02, m4, r22, m3, t72, e3, b1]
      · obtain ⟨h', rs', rep', b1, b2, b3, b4, b5⟩ := z2 z
        refine ⟨h', rs', rep', ?_, F3.trans b2, b3, by rw [b4, pxSet_len], b5⟩
        simp (maxSteps := 4000000) (disch := first | assumption | omega | (simp only [jw_t_I, px_cpt]; done) | (simp only [jw_t_I, px_cpt]; omega)) only [pxL0, pxL1, pxL2, pxL3, pxL4, pxL5, pxL6, pxL7, pxL8, pxL9, pxL10, pxL11, pxL12, pxL13, pxL14, pxL15, pxL16, pxL17, pxL18, pxL19, pxL20, pxL21, pxL22, pxL23, pxL24, pxL25, pxL26, pxL27, pxL28, pxL29, pxL30, pxL31, pxL32, pxL33, pxL34, pxL35, pxL36, pxL37, pxL38, pxL39, pxL40, pxL41, pxL42, pxL43, pxL44, pxL45, pxL46, pxL47, pxL48, pxL49, pxL51, pxL57, pxL58, pxL59, pxL60, pxL61, pxL62, pxL63, pxL64, pxL65, pxL66, pxL67, pxL68, pxL69, pxL70, pxL71, pxL72, pxL73, pxL74, pxL75, pxL76, pxL77, pxL78, pxL79, pxL80, pxL81, pxL82, pxL83, pxL84, pxL85, pxL86, pxL87, pxL88, pxL89, pxL90, pxL91, pxL92, pxL93, pxL94, pxL95, pxL96, pxL97, pxL98, pxL99, pxL100, pxL101, pxL102, pxL103, pxL104, pxL105, pxL106, pxL107, pxL108, pxL109, pxL110, pxL111, pxL112, pxL113, pxL114, pxL115, pxL116, pxL117, pxL118, pxL119, pxL120, pxL121, pxL122, pxL123, pxL124, pxL125, pxL126, pxL200, pxL240, pxL287, pxL388, pxL400, pxL429, pxL431, pxL440, pxL1240, pxL1600, pxL1681, pxL12028, pxL13849, pxL14880, pxL25173, pxL26908, pxL49600, pxL65535, pxL65536, ↓reduceIte, reduceCtorEq, pxJ_add, pxJ_sub, pxJ_mul, pxJ_neg, pxD_lt_t, pxD_lt_f, pxD_le_t, pxD_le_f, pxD_eq_t, pxD_eq_f, pxJ_lt, pxJ_le, pxJ_eq, px_gI, px_gR, px_pI, px_rc, px_ai, px_ar, px_si, px_ln, px_cp, pxJ_div, pxJ_b8, pxJ_byte, px_b2, px_bs, px_rb0, px_rb1, px_min, px_max, px_compare, pxW_some, jw_t_I, px_cpt, jw_r_I, px_cpr, jw_l_I, px_cpl, Option.some.injEq, t02, m4, r22, m3, t72, e3, b1]
theorem s_X2_change {h : jw_H} {i : Nat} {p x y : Int} {ρ cap : Nat} {rs : List (List Int)} {rep : Bool} (hd : ρ + 2 < 531 ∨ 537 < ρ) (hl : 253 < ρ) (c : pxP s p = 62 ∨ pxP s p = 115 ∨ pxP s p = 122 ∨ pxP s p = 60) (x1 : 1 ≤ x) (xy : x ≤ y + 1) (yl : y ≤ rs.length) (H : pxCO h b s i p) (S : pxHS h) (M : pxMS h) (R : pxIR h ρ cap rs) (rp : pxM h 536 5 = if rep = true then 1 else 0) :
    ((pxChgs s p (y + 1 - x).toNat x rs rep).1 = true → ∃ h', f_X2_change h 536 (some (12 + 4 * i)) (some ρ) (pxJ x) (pxJ y) = some (pxJ 0, h') ∧ pxF (pxQr ρ) h h' ∧ pxIR h' ρ cap (pxChgs s p (y + 1 - x).toNat x rs rep).2.1 ∧ (pxM h' 536 5 = if (pxChgs s p (y + 1 - x).toNat x rs rep).2.2 = true then 1 else 0)) ∧
    ((pxChgs s p (y + 1 - x).toNat x rs rep).1 = false → ∃ (h' : jw_H) (rs' : List (List Int)) (rep' : Bool), f_X2_change h 536 (some (12 + 4 * i)) (some ρ) (pxJ x) (pxJ y) = some (pxJ 4, h') ∧ pxF (pxQr ρ) h h' ∧ pxIR h' ρ cap rs' ∧ rs'.length = rs.length ∧ pxM h' 536 5 = if rep' = true then 1 else 0) :=
  s_X2_change_b3 hd hl c (y + 1 - x).toNat jw_FU h x rs rep (by omega) (by have := R.2.1; have := R.1.2.2.2.2.2; unfold jw_FU; omega) x1 yl H S M R rp
end
