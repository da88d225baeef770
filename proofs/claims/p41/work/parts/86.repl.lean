/-! changing rows: replacing -/
/-- what is put in a find's place -/
def pxPw (s r : List Int) (a b : Int) (o c : Int → Int) (k : Int) : Nat → Int → List Int
  | 0, _ => []
  | m + 1, q => if pxP s q = 92 ∧ 0 < k then pxSl r (o (pxP s (q + 1) - 48)) (c (pxP s (q + 1) - 48)) ++ pxPw s r a b o c k m (q + 2)
    else if pxP s q = 38 then pxSl r a b ++ pxPw s r a b o c k m (q + 1)
    else if pxIsCh (pxP s q) = true then pxP s q :: pxPw s r a b o c k m (q + 1) else []
/-- a row whose finds are replaced: from the find fi on, that is looked for from fr on; what stands ahead of cp was built -/
def pxRp (s r : List Int) (l : List (Int × Int)) (num : Int) (pw : Int → Int → (Int → Int) → (Int → Int) → List Int) : Nat → Int → Int → Bool → Int → List Int × Bool
  | 0, _, _, _, cp => (pxSl r cp r.length, false)
  | m + 1, fi, fr, on, cp => (pxFind s r l fr on).elim (pxSl r cp r.length, false) (fun v =>
      if num = 0 then (pxSl r cp v.1 ++ (pw v.1 v.2.1 v.2.2.1 v.2.2.2 ++ (pxRp s r l num pw m (fi + 1) v.2.1 true v.2.1).1), true)
      else if num = fi then (pxSl r cp v.1 ++ (pw v.1 v.2.1 v.2.2.1 v.2.2.2 ++ pxSl r v.2.1 r.length), true)
      else pxRp s r l num pw m (fi + 1) v.2.1 true cp)
def pxGrp (h : jw_H) (k : Int) (o c : Int → Int) (n : Int) : Prop := ∀ g : Int, 1 ≤ g → g ≤ k → pxM h 534 g.toNat = o g ∧ pxM h 535 g.toNat = c g ∧ 0 ≤ o g ∧ o g ≤ c g ∧ c g ≤ n
theorem pxGrp.fc {h h' : jw_H} {k n : Int} {o c : Int → Int} (H : pxGrp h k o c n) (F : pxF pxQc h h') : pxGrp h' k o c n := fun g g1 g2 => by
  rw [F.m (by unfold pxQc; omega), F.m (by unfold pxQc; omega)]; exact H g g1 g2
def pxQy : Nat → Nat → Prop := fun k f => (k = 531 ∧ 5 ≤ f) ∨ (532 ≤ k ∧ k ≤ 535) ∨ k = 537 ∨ (k = 536 ∧ 3 ≤ f)
theorem pxQc_y {h h' : jw_H} (F : pxF pxQc h h') : pxF pxQy h h' := F.mono (fun k f z => by unfold pxQc at z; unfold pxQy; omega)
theorem pxQx_y {h h' : jw_H} (F : pxF pxQx h h') : pxF pxQy h h' := F.mono (fun k f z => by unfold pxQx at z; unfold pxQy; omega)
section
variable {s r : List Int} {b : Nat}
theorem s_X2_appendPut_b5 {oo : Nat} {a bb k : Int} {o c : Int → Int} (hb : b < 10) (ho : oo < 252) (k2 : k ≤ 2) (a0 : 0 ≤ a) (ab : a ≤ bb) (b1 : bb ≤ r.length) : ∀ (m N : Nat) (h : jw_H) (w : List Int) (q : Int), (pxPut s k m q).1 = true → s.length < q + m → m ≤ N → 0 ≤ q → q ≤ s.length → pxBu h w → pxMT h r → pxGrp h k o c r.length → pxPG h b s → (jw_t h oo).1 = 5 → pxM h oo 8 = (pxPut s k m q).2 → pxM h 531 6 = a → pxM h 531 7 = bb →
    ∃ h', f_X2_appendPut_b5 N h 536 (some oo) (pxJ q) = some ((), h') ∧ pxF pxQc h h' ∧ pxBu h' (w ++ pxPw s r a bb o c k m q) := by
  intro m
  induction m with
  | zero => intro N h w q _ hm _ _ hq; omega
  | succ m ih =>
    intro N h w q hok hm hN q0 q1 B T Gr G t5 f8 f6 f7
    obtain ⟨N, rfl, hN⟩ := px_fu (m := m) (N := N) (by omega)
    have t0 := B.1.1
    have r0 := B.1.2.1
    have r1 := B.1.2.2.1
    obtain ⟨⟨m0, q0', q1', q2, q3, q4, t532, t533, t534, t535⟩, okr, m5, mr⟩ := T
    have T : pxMT h r := ⟨⟨m0, q0', q1', q2, q3, q4, t532, t533, t534, t535⟩, okr, m5, mr⟩
    have n60 := G.2.2.2.2.1.1
    have tg := G.1.1
    have l30 := okr.1
    have hin := pxP_in G.2.2.2.2.1 q
    have hin1 := pxP_in G.2.2.2.2.1 (q + 1)
    have sg := s_X6_signAt G (x := q) (by omega) (by omega)
    have sg1 := s_X6_signAt G (x := q + 1) (by omega) (by omega)
    -- what remains
    have rest : ∀ {h1 : jw_H} {w1 : List Int} {q' : Int}, pxF pxQc h h1 → pxBu h1 w1 → q < q' → q' ≤ s.length → (pxPut s k m q').1 = true → pxM h oo 8 = (pxPut s k m q').2 → ∃ h', f_X2_appendPut_b5 N h1 536 (some oo) (pxJ q') = some ((), h') ∧ pxF pxQc h h' ∧ pxBu h' (w1 ++ pxPw s r a bb o c k m q') := by
      intro h1 w1 q' F1 B1 qq ql ok1 e8
      obtain ⟨h2, v1, v2, v3⟩ := ih N h1 w1 q' ok1 (by omega) (by omega) (by omega) ql B1 (T.fc F1) (Gr.fc F1) (G.fb hb F1 (fun k f z => by unfold pxQc; omega)) (by rw [F1.t]; exact t5) (by rw [F1.m (by unfold pxQc; omega)]; exact e8) (by rw [F1.m (by unfold pxQc; omega)]; exact f6) (by rw [F1.m (by unfold pxQc; omega)]; exact f7)
      exact ⟨h2, v1, F1.trans v2, v3⟩
    have eP : pxPut s k (m + 1) q = if pxP s q = 92 ∧ 0 < k then (if 49 ≤ pxP s (q + 1) ∧ pxP s (q + 1) ≤ 48 + k then pxPut s k m (q + 2) else (false, q + 1)) else if pxP s q = 38 ∨ pxIsCh (pxP s q) = true then pxPut s k m (q + 1) else (true, q) := rfl
    have eW : pxPw s r a bb o c k (m + 1) q = if pxP s q = 92 ∧ 0 < k then pxSl r (o (pxP s (q + 1) - 48)) (c (pxP s (q + 1) - 48)) ++ pxPw s r a bb o c k m (q + 2) else if pxP s q = 38 then pxSl r a bb ++ pxPw s r a bb o c k m (q + 1) else if pxIsCh (pxP s q) = true then pxP s q :: pxPw s r a bb o c k m (q + 1) else [] := rfl
    rw [u_X2_appendPut_b5]
    unfold g_X2_appendPut_b5
    by_cases c1 : pxP s q = 92 ∧ 0 < k
    · rw [if_pos c1] at eP eW
      by_cases c2 : 49 ≤ pxP s (q + 1) ∧ pxP s (q + 1) ≤ 48 + k
      · rw [if_pos c2] at eP
        rw [eP] at hok f8
        rw [eW]
        have lt := pxP_lt (s := s) (p := q) (by omega)
        have lt1 := pxP_lt (s := s) (p := q + 1) (by omega)
        have pb := pxPut_b (s := s) (k := k) m (q + 2) (by omega) (by omega)
        obtain ⟨g1, g2, g3, g4, g5⟩ := Gr (pxP s (q + 1) - 48) (by omega) (by omega)
        have ai1 : jw_ai h 20 (some 534) (pxJ (pxP s (q + 1) - 48)) = some (pxJ (o (pxP s (q + 1) - 48))) := by rw [px_ai (by rw [t534]) (by omega) (by rw [t534]; show pxP s (q + 1) - 48 < ((3 : Nat) : Int); omega) (by omega), g1]
        have ai2 : jw_ai h 20 (some 535) (pxJ (pxP s (q + 1) - 48)) = some (pxJ (c (pxP s (q + 1) - 48))) := by rw [px_ai (by rw [t535]) (by omega) (by rw [t535]; show pxP s (q + 1) - 48 < ((3 : Nat) : Int); omega) (by omega), g2]
        obtain ⟨h1, v1, v2, v3⟩ := s_X2_appendRow B T g3 g4 g5
        obtain ⟨h2, w1, w2, w3⟩ := rest v2 v3 (show q < q + 2 by omega) (by omega) hok f8
        refine ⟨h2, ?_, w2, by rw [← List.append_assoc]; exact w3⟩
        rw [show q + 2 = q + 1 + 1 by omega] at w1
        unfold g_X2_appendPut_b107 g_X2_appendPut_b115
        have nle : ¬ (pxPut s k m (q + 2)).2 ≤ q := by omega
        simp (maxSteps := 4000000) (disch := first | assumption | omega | (simp only [jw_t_I, px_cpt]; done) | (simp only [jw_t_I, px_cpt]; omega)) only [pxL0, pxL1, pxL2, pxL3, pxL4, pxL5, pxL6, pxL7, pxL8, pxL9, pxL10, pxL11, pxL12, pxL13, pxL14, pxL15, pxL16, pxL17, pxL18, pxL19, pxL20, pxL21, pxL22, pxL23, pxL24, pxL25, pxL26, pxL27, pxL28, pxL29, pxL30, pxL31, pxL32, pxL33, pxL34, pxL35, pxL36, pxL37, pxL38, pxL39, pxL40, pxL41, pxL42, pxL43, pxL44, pxL45, pxL46, pxL47, pxL48, pxL49, pxL51, pxL57, pxL58, pxL59, pxL60, pxL61, pxL62, pxL63, pxL64, pxL65, pxL66, pxL67, pxL68, pxL69, pxL70, pxL71, pxL72, pxL73, pxL74, pxL75, pxL76, pxL77, pxL78, pxL79, pxL80, pxL81, pxL82, pxL83, pxL84, pxL85, pxL86, pxL87, pxL88, pxL89, pxL90, pxL91, pxL92, pxL93, pxL94, pxL95, pxL96, pxL97, pxL98, pxL99, pxL100, pxL101, pxL102, pxL103, pxL104, pxL105, pxL106, pxL107, pxL108, pxL109, pxL110, pxL111, pxL112, pxL113, pxL114, pxL115, pxL116, pxL117, pxL118, pxL119, pxL120, pxL121, pxL122, pxL123, pxL124, pxL125, pxL126, pxL200, pxL240, pxL287, pxL388, pxL400, pxL429, pxL431, pxL440, pxL1240, pxL1600, pxL1681, pxL12028, pxL13849, pxL14880, pxL25173, pxL26908, pxL49600, pxL65535, pxL65536, ↓reduceIte, reduceCtorEq, pxJ_add, pxJ_sub, pxJ_mul, pxJ_neg, pxD_lt_t, pxD_lt_f, pxD_le_t, pxD_le_f, pxD_eq_t, pxD_eq_f, pxJ_lt, pxJ_le, pxJ_eq, px_gI, px_gR, px_pI, px_rc, px_ai, px_ar, px_si, px_ln, px_cp, pxJ_div, pxJ_b8, pxJ_byte, px_b2, px_bs, px_rb0, px_rb1, px_min, px_max, px_compare, pxW_some, jw_t_I, px_cpt, jw_r_I, px_cpr, jw_l_I, px_cpl, Option.some.injEq, f8, t0, r0, tg, sg, c1.1, sg1, r1, m0, q3, ai1, q4, ai2, v1, w1]
      · rw [if_neg c2] at eP
        rw [eP] at hok; cases hok
    · rw [if_neg c1] at eP eW
      by_cases c3 : pxP s q = 38
      · rw [if_pos (Or.inl c3)] at eP
        rw [eP] at hok f8
        rw [if_pos c3] at eW
        rw [eW]
        have lt := pxP_lt (s := s) (p := q) (by omega)
        have pb := pxPut_b (s := s) (k := k) m (q + 1) (by omega) (by omega)
        obtain ⟨h1, v1, v2, v3⟩ := s_X2_appendRow B T a0 ab b1
        obtain ⟨h2, w1, w2, w3⟩ := rest v2 v3 (show q < q + 1 by omega) (by omega) hok f8
        refine ⟨h2, ?_, w2, by rw [← List.append_assoc]; exact w3⟩
        unfold g_X2_appendPut_b115
        simp (maxSteps := 4000000) (disch := first | assumption | omega | (simp only [jw_t_I, px_cpt]; done) | (simp only [jw_t_I, px_cpt]; omega)) only [pxL0, pxL1, pxL2, pxL3, pxL4, pxL5, pxL6, pxL7, pxL8, pxL9, pxL10, pxL11, pxL12, pxL13, pxL14, pxL15, pxL16, pxL17, pxL18, pxL19, pxL20, pxL21, pxL22, pxL23, pxL24, pxL25, pxL26, pxL27, pxL28, pxL29, pxL30, pxL31, pxL32, pxL33, pxL34, pxL35, pxL36, pxL37, pxL38, pxL39, pxL40, pxL41, pxL42, pxL43, pxL44, pxL45, pxL46, pxL47, pxL48, pxL49, pxL51, pxL57, pxL58, pxL59, pxL60, pxL61, pxL62, pxL63, pxL64, pxL65, pxL66, pxL67, pxL68, pxL69, pxL70, pxL71, pxL72, pxL73, pxL74, pxL75, pxL76, pxL77, pxL78, pxL79, pxL80, pxL81, pxL82, pxL83, pxL84, pxL85, pxL86, pxL87, pxL88, pxL89, pxL90, pxL91, pxL92, pxL93, pxL94, pxL95, pxL96, pxL97, pxL98, pxL99, pxL100, pxL101, pxL102, pxL103, pxL104, pxL105, pxL106, pxL107, pxL108, pxL109, pxL110, pxL111, pxL112, pxL113, pxL114, pxL115, pxL116, pxL117, pxL118, pxL119, pxL120, pxL121, pxL122, pxL123, pxL124, pxL125, pxL126, pxL200, pxL240, pxL287, pxL388, pxL400, pxL429, pxL431, pxL440, pxL1240, pxL1600, pxL1681, pxL12028, pxL13849, pxL14880, pxL25173, pxL26908, pxL49600, pxL65535, pxL65536, ↓reduceIte, reduceCtorEq, pxJ_add, pxJ_sub, pxJ_mul, pxJ_neg, pxD_lt_t, pxD_lt_f, pxD_le_t, pxD_le_f, pxD_eq_t, pxD_eq_f, pxJ_lt, pxJ_le, pxJ_eq, px_gI, px_gR, px_pI, px_rc, px_ai, px_ar, px_si, px_ln, px_cp, pxJ_div, pxJ_b8, pxJ_byte, px_b2, px_bs, px_rb0, px_rb1, px_min, px_max, px_compare, pxW_some, jw_t_I, px_cpt, jw_r_I, px_cpr, jw_l_I, px_cpl, Option.some.injEq, f8, t0, r0, tg, sg, c3, r1, m0, f6, f7, v1, w1]
      · rw [if_neg c3] at eW
        by_cases c4 : pxIsCh (pxP s q) = true
        · rw [if_pos (Or.inr c4)] at eP
          rw [eP] at hok f8
          rw [if_pos c4] at eW
          rw [eW]
          have c4' := pxIsCh_i.mp c4
          have lt := pxP_lt (s := s) (p := q) (by omega)
          have pb := pxPut_b (s := s) (k := k) m (q + 1) (by omega) (by omega)
          obtain ⟨h1, v1, v2, v3⟩ := s_X2_append B (pxIsCh_iff.mp c4)
          obtain ⟨h2, w1, w2, w3⟩ := rest v2 v3 (show q < q + 1 by omega) (by omega) hok f8
          refine ⟨h2, ?_, w2, by rw [List.append_assoc] at w3; exact w3⟩
          unfold g_X2_appendPut_b115
          have n92 : ¬ pxP s q = 92 := by omega
          simp (maxSteps := 4000000) (disch := first | assumption | omega | (simp only [jw_t_I, px_cpt]; done) | (simp only [jw_t_I, px_cpt]; omega)) only [pxL0, pxL1, pxL2, pxL3, pxL4, pxL5, pxL6, pxL7, pxL8, pxL9, pxL10, pxL11, pxL12, pxL13, pxL14, pxL15, pxL16, pxL17, pxL18, pxL19, pxL20, pxL21, pxL22, pxL23, pxL24, pxL25, pxL26, pxL27, pxL28, pxL29, pxL30, pxL31, pxL32, pxL33, pxL34, pxL35, pxL36, pxL37, pxL38, pxL39, pxL40, pxL41, pxL42, pxL43, pxL44, pxL45, pxL46, pxL47, pxL48, pxL49, pxL51, pxL57, pxL58, pxL59, pxL60, pxL61, pxL62, pxL63, pxL64, pxL65, pxL66, pxL67, pxL68, pxL69, pxL70, pxL71, pxL72, pxL73, pxL74, pxL75, pxL76, pxL77, pxL78, pxL79, pxL80, pxL81, pxL82, pxL83, pxL84, pxL85, pxL86, pxL87, pxL88, pxL89, pxL90, pxL91, pxL92, pxL93, pxL94, pxL95, pxL96, pxL97, pxL98, pxL99, pxL100, pxL101, pxL102, pxL103, pxL104, pxL105, pxL106, pxL107, pxL108, pxL109, pxL110, pxL111, pxL112, pxL113, pxL114, pxL115, pxL116, pxL117, pxL118, pxL119, pxL120, pxL121, pxL122, pxL123, pxL124, pxL125, pxL126, pxL200, pxL240, pxL287, pxL388, pxL400, pxL429, pxL431, pxL440, pxL1240, pxL1600, pxL1681, pxL12028, pxL13849, pxL14880, pxL25173, pxL26908, pxL49600, pxL65535, pxL65536, ↓reduceIte, reduceCtorEq, pxJ_add, pxJ_sub, pxJ_mul, pxJ_neg, pxD_lt_t, pxD_lt_f, pxD_le_t, pxD_le_f, pxD_eq_t, pxD_eq_f, pxJ_lt, pxJ_le, pxJ_eq, px_gI, px_gR, px_pI, px_rc, px_ai, px_ar, px_si, px_ln, px_cp, pxJ_div, pxJ_b8, pxJ_byte, px_b2, px_bs, px_rb0, px_rb1, px_min, px_max, px_compare, pxW_some, jw_t_I, px_cpt, jw_r_I, px_cpr, jw_l_I, px_cpl, Option.some.injEq, f8, t0, r0, tg, sg, r1, m0, v1, w1]
        · rw [if_neg (show ¬ (pxP s q = 38 ∨ pxIsCh (pxP s q) = true) from fun z => z.elim c3 c4)] at eP
          rw [eP] at f8
          rw [if_neg c4] at eW
          rw [eW]
          refine ⟨h, ?_, pxF.rfl, by simpa using B⟩
          simp (maxSteps := 4000000) (disch := first | assumption | omega | (simp only [jw_t_I, px_cpt]; done) | (simp only [jw_t_I, px_cpt]; omega)) only [pxL0, pxL1, pxL2, pxL3, pxL4, pxL5, pxL6, pxL7, pxL8, pxL9, pxL10, pxL11, pxL12, pxL13, pxL14, pxL15, pxL16, pxL17, pxL18, pxL19, pxL20, pxL21, pxL22, pxL23, pxL24, pxL25, pxL26, pxL27, pxL28, pxL29, pxL30, pxL31, pxL32, pxL33, pxL34, pxL35, pxL36, pxL37, pxL38, pxL39, pxL40, pxL41, pxL42, pxL43, pxL44, pxL45, pxL46, pxL47, pxL48, pxL49, pxL51, pxL57, pxL58, pxL59, pxL60, pxL61, pxL62, pxL63, pxL64, pxL65, pxL66, pxL67, pxL68, pxL69, pxL70, pxL71, pxL72, pxL73, pxL74, pxL75, pxL76, pxL77, pxL78, pxL79, pxL80, pxL81, pxL82, pxL83, pxL84, pxL85, pxL86, pxL87, pxL88, pxL89, pxL90, pxL91, pxL92, pxL93, pxL94, pxL95, pxL96, pxL97, pxL98, pxL99, pxL100, pxL101, pxL102, pxL103, pxL104, pxL105, pxL106, pxL107, pxL108, pxL109, pxL110, pxL111, pxL112, pxL113, pxL114, pxL115, pxL116, pxL117, pxL118, pxL119, pxL120, pxL121, pxL122, pxL123, pxL124, pxL125, pxL126, pxL200, pxL240, pxL287, pxL388, pxL400, pxL429, pxL431, pxL440, pxL1240, pxL1600, pxL1681, pxL12028, pxL13849, pxL14880, pxL25173, pxL26908, pxL49600, pxL65535, pxL65536, ↓reduceIte, reduceCtorEq, pxJ_add, pxJ_sub, pxJ_mul, pxJ_neg, pxD_lt_t, pxD_lt_f, pxD_le_t, pxD_le_f, pxD_eq_t, pxD_eq_f, pxJ_lt, pxJ_le, pxJ_eq, px_gI, px_gR, px_pI, px_rc, px_ai, px_ar, px_si, px_ln, px_cp, pxJ_div, pxJ_b8, pxJ_byte, px_b2, px_bs, px_rb0, px_rb1, px_min, px_max, px_compare, pxW_some, jw_t_I, px_cpt, jw_r_I, px_cpr, jw_l_I, px_cpl, Option.some.injEq, f8]
theorem s_X2_appendPut {h : jw_H} {w : List Int} {oo : Nat} {a bb k u : Int} {o c : Int → Int} (hb : b < 10) (ho : oo < 252) (k2 : k ≤ 2) (a0 : 0 ≤ a) (ab : a ≤ bb) (b1 : bb ≤ r.length) (hok : (pxPut s k 61 u).1 = true) (u0 : 0 ≤ u) (u1 : u ≤ s.length) (B : pxBu h w) (T : pxMT h r) (Gr : pxGrp h k o c r.length) (G : pxPG h b s) (t5 : (jw_t h oo).1 = 5) (f7' : pxM h oo 7 = u) (f8 : pxM h oo 8 = (pxPut s k 61 u).2) (f6 : pxM h 531 6 = a) (f7 : pxM h 531 7 = bb) :
    ∃ h', f_X2_appendPut h 536 (some oo) = some ((), h') ∧ pxF pxQc h h' ∧ pxBu h' (w ++ pxPw s r a bb o c k 61 u) := by
  have n60 := G.2.2.2.2.1.1
  obtain ⟨h1, v1, v2, v3⟩ := s_X2_appendPut_b5 hb ho k2 a0 ab b1 61 jw_FU h w u hok (by omega) (by unfold jw_FU; omega) u0 u1 B T Gr G t5 f8 f6 f7
  refine ⟨h1, ?_, v2, v3⟩
  unfold f_X2_appendPut
  simp (maxSteps := 4000000) (disch := first | assumption | omega | (simp only [jw_t_I, px_cpt]; done) | (simp only [jw_t_I, px_cpt]; omega)) only [pxL0, pxL1, pxL2, pxL3, pxL4, pxL5, pxL6, pxL7, pxL8, pxL9, pxL10, pxL11, pxL12, pxL13, pxL14, pxL15, pxL16, pxL17, pxL18, pxL19, pxL20, pxL21, pxL22, pxL23, pxL24, pxL25, pxL26, pxL27, pxL28, pxL29, pxL30, pxL31, pxL32, pxL33, pxL34, pxL35, pxL36, pxL37, pxL38, pxL39, pxL40, pxL41, pxL42, pxL43, pxL44, pxL45, pxL46, pxL47, pxL48, pxL49, pxL51, pxL57, pxL58, pxL59, pxL60, pxL61, pxL62, pxL63, pxL64, pxL65, pxL66, pxL67, pxL68, pxL69, pxL70, pxL71, pxL72, pxL73, pxL74, pxL75, pxL76, pxL77, pxL78, pxL79, pxL80, pxL81, pxL82, pxL83, pxL84, pxL85, pxL86, pxL87, pxL88, pxL89, pxL90, pxL91, pxL92, pxL93, pxL94, pxL95, pxL96, pxL97, pxL98, pxL99, pxL100, pxL101, pxL102, pxL103, pxL104, pxL105, pxL106, pxL107, pxL108, pxL109, pxL110, pxL111, pxL112, pxL113, pxL114, pxL115, pxL116, pxL117, pxL118, pxL119, pxL120, pxL121, pxL122, pxL123, pxL124, pxL125, pxL126, pxL200, pxL240, pxL287, pxL388, pxL400, pxL429, pxL431, pxL440, pxL1240, pxL1600, pxL1681, pxL12028, pxL13849, pxL14880, pxL25173, pxL26908, pxL49600, pxL65535, pxL65536, ↓reduceIte, reduceCtorEq, pxJ_add, pxJ_sub, pxJ_mul, pxJ_neg, pxD_lt_t, pxD_lt_f, pxD_le_t, pxD_le_f, pxD_eq_t, pxD_eq_f, pxJ_lt, pxJ_le, pxJ_eq, px_gI, px_gR, px_pI, px_rc, px_ai, px_ar, px_si, px_ln, px_cp, pxJ_div, pxJ_b8, pxJ_byte, px_b2, px_bs, px_rb0, px_rb1, px_min, px_max, px_compare, pxW_some, jw_t_I, px_cpt, jw_r_I, px_cpr, jw_l_I, px_cpl, Option.some.injEq, f7', v1]
/-- an order that replaces -/
def pxRO (h : jw_H) (s : List Int) (oo : Nat) (l : List (Int × Int)) (k u num e most : Int) : Prop :=
  oo < 252 ∧ (jw_t h oo).1 = 5 ∧ pxWE 0 0 0 l ∧ pxGc 0 l = k ∧ k ≤ 2 ∧ 0 ≤ u ∧ u ≤ s.length ∧ (pxPut s k 61 u).1 = true ∧ 0 ≤ num ∧ num ≤ 9 ∧ pxM h oo 5 = num ∧ pxM h oo 6 = e ∧ pxM h oo 7 = u ∧ pxM h oo 8 = (pxPut s k 61 u).2 ∧ pxPE h s e most l
theorem pxRO.fy {h h' : jw_H} {oo : Nat} {l : List (Int × Int)} {k u num e most : Int} (H : pxRO h s oo l k u num e most) (F : pxF pxQy h h') : pxRO h' s oo l k u num e most := by
  obtain ⟨a1, a2, a3, a4, a5, a6, a7, a8, a9, a10, a11, a12, a13, a14, a15⟩ := H
  have hx : ∀ {f : Nat}, pxM h' oo f = pxM h oo f := F.m (by unfold pxQy; omega)
  exact ⟨a1, by rw [F.t]; exact a2, a3, a4, a5, a6, a7, a8, a9, a10, by rw [hx]; exact a11, by rw [hx]; exact a12, by rw [hx]; exact a13, by rw [hx]; exact a14, a15.fr F (fun k f z => by unfold pxQy; omega)⟩
set_option maxHeartbeats 8000000 in
theorem s_X2_replace_b7 {oo : Nat} {l : List (Int × Int)} {k u num e most : Int} (hb : b < 10) : ∀ (m N : Nat) (h : jw_H) (w : List Int) (fi fr cp : Int) (on : Bool), fi + m = 32 → m < N → 1 ≤ fi → 0 ≤ cp → cp ≤ fr → fr ≤ r.length → (on = true → pxM h 531 7 = fr) → (on = false → fr = 0) → pxBu h w → pxMT h r → pxPG h b s → pxRO h s oo l k u num e most →
    ∃ h', f_X2_replace_b7 N h 536 (some oo) (pxJ cp) (pxJ (if on = true then 1 else 0)) (pxJ fi) = some ((), h') ∧ pxF pxQy h h' ∧ pxBu h' (w ++ (pxRp s r l num (fun a bb o c => pxPw s r a bb o c k 61 u) m fi fr on cp).1) ∧ pxM h' 536 5 = (if (pxRp s r l num (fun a bb o c => pxPw s r a bb o c k 61 u) m fi fr on cp).2 = true then 1 else pxM h 536 5) := by
  intro m
  induction m with
  | zero =>
    intro N h w fi fr cp on em hN f1 c0 cf fl on1 on0 B T G R
    obtain ⟨N, rfl, hN⟩ := px_fu hN
    have t0 := B.1.1
    have r1 := B.1.2.2.1
    have m0 := T.1.1
    have m5 := T.2.2.1
    obtain ⟨h1, v1, v2, v3⟩ := s_X2_appendRow B T c0 (show cp ≤ r.length by omega) (Int.le_refl _)
    refine ⟨h1, ?_, pxQc_y v2, v3, ?_⟩
    · rw [u_X2_replace_b7]
      unfold g_X2_replace_b7 g_X2_replace_b113
      simp (maxSteps := 4000000) (disch := first | assumption | omega | (simp only [jw_t_I, px_cpt]; done) | (simp only [jw_t_I, px_cpt]; omega)) only [pxL0, pxL1, pxL2, pxL3, pxL4, pxL5, pxL6, pxL7, pxL8, pxL9, pxL10, pxL11, pxL12, pxL13, pxL14, pxL15, pxL16, pxL17, pxL18, pxL19, pxL20, pxL21, pxL22, pxL23, pxL24, pxL25, pxL26, pxL27, pxL28, pxL29, pxL30, pxL31, pxL32, pxL33, pxL34, pxL35, pxL36, pxL37, pxL38, pxL39, pxL40, pxL41, pxL42, pxL43, pxL44, pxL45, pxL46, pxL47, pxL48, pxL49, pxL51, pxL57, pxL58, pxL59, pxL60, pxL61, pxL62, pxL63, pxL64, pxL65, pxL66, pxL67, pxL68, pxL69, pxL70, pxL71, pxL72, pxL73, pxL74, pxL75, pxL76, pxL77, pxL78, pxL79, pxL80, pxL81, pxL82, pxL83, pxL84, pxL85, pxL86, pxL87, pxL88, pxL89, pxL90, pxL91, pxL92, pxL93, pxL94, pxL95, pxL96, pxL97, pxL98, pxL99, pxL100, pxL101, pxL102, pxL103, pxL104, pxL105, pxL106, pxL107, pxL108, pxL109, pxL110, pxL111, pxL112, pxL113, pxL114, pxL115, pxL116, pxL117, pxL118, pxL119, pxL120, pxL121, pxL122, pxL123, pxL124, pxL125, pxL126, pxL200, pxL240, pxL287, pxL388, pxL400, pxL429, pxL431, pxL440, pxL1240, pxL1600, pxL1681, pxL12028, pxL13849, pxL14880, pxL25173, pxL26908, pxL49600, pxL65535, pxL65536, ↓reduceIte, reduceCtorEq, pxJ_add, pxJ_sub, pxJ_mul, pxJ_neg, pxD_lt_t, pxD_lt_f, pxD_le_t, pxD_le_f, pxD_eq_t, pxD_eq_f, pxJ_lt, pxJ_le, pxJ_eq, px_gI, px_gR, px_pI, px_rc, px_ai, px_ar, px_si, px_ln, px_cp, pxJ_div, pxJ_b8, pxJ_byte, px_b2, px_bs, px_rb0, px_rb1, px_min, px_max, px_compare, pxW_some, jw_t_I, px_cpt, jw_r_I, px_cpr, jw_l_I, px_cpl, Option.some.injEq, t0, r1, m0, m5, v1]
    · rw [v2.m (by unfold pxQc; omega)]
      rfl
  | succ m ih =>
    intro N h w fi fr cp on em hN f1 c0 cf fl on1 on0 B T G R
    obtain ⟨N, rfl, hN⟩ := px_fu hN
    have t0 := B.1.1
    have r1 := B.1.2.2.1
    have m0 := T.1.1
    have m5 := T.2.2.1
    have R' := R
    obtain ⟨ho, t5, W, gc, k2, u0, u1, pok, n0, n9, o5, o6, o7, o8, E⟩ := R'
    have l30 := T.2.1.1
    have se := s_X4_search (on := on) W (show 0 ≤ fr by omega) fl E T
    rw [gc] at se
    obtain ⟨z1, z2⟩ := se
    have eR : pxRp s r l num (fun a bb o c => pxPw s r a bb o c k 61 u) (m + 1) fi fr on cp = (pxFind s r l fr on).elim (pxSl r cp r.length, false) (fun v =>
      if num = 0 then (pxSl r cp v.1 ++ (pxPw s r v.1 v.2.1 v.2.2.1 v.2.2.2 k 61 u ++ (pxRp s r l num (fun a bb o c => pxPw s r a bb o c k 61 u) m (fi + 1) v.2.1 true v.2.1).1), true)
      else if num = fi then (pxSl r cp v.1 ++ (pxPw s r v.1 v.2.1 v.2.2.1 v.2.2.2 k 61 u ++ pxSl r v.2.1 r.length), true)
      else pxRp s r l num (fun a bb o c => pxPw s r a bb o c k 61 u) m (fi + 1) v.2.1 true cp) := rfl
    -- to the search
    have st : f_X2_replace_b7 (N + 1) h 536 (some oo) (pxJ cp) (pxJ (if on = true then 1 else 0)) (pxJ fi) = g_X2_replace_b37 (f_X2_replace_b7 N) h 536 (some oo) (pxJ cp) (pxJ (if on = true then 1 else 0)) (pxJ fi) (some 531) (pxJ e) (pxJ fr) := by
      rw [u_X2_replace_b7]
      unfold g_X2_replace_b7
      cases on with
      | false =>
        have f0 := on0 rfl
        rw [show (if false = true then (1 : Int) else 0) = 0 from rfl, f0]
        simp (maxSteps := 4000000) (disch := first | assumption | omega | (simp only [jw_t_I, px_cpt]; done) | (simp only [jw_t_I, px_cpt]; omega)) only [pxL0, pxL1, pxL2, pxL3, pxL4, pxL5, pxL6, pxL7, pxL8, pxL9, pxL10, pxL11, pxL12, pxL13, pxL14, pxL15, pxL16, pxL17, pxL18, pxL19, pxL20, pxL21, pxL22, pxL23, pxL24, pxL25, pxL26, pxL27, pxL28, pxL29, pxL30, pxL31, pxL32, pxL33, pxL34, pxL35, pxL36, pxL37, pxL38, pxL39, pxL40, pxL41, pxL42, pxL43, pxL44, pxL45, pxL46, pxL47, pxL48, pxL49, pxL51, pxL57, pxL58, pxL59, pxL60, pxL61, pxL62, pxL63, pxL64, pxL65, pxL66, pxL67, pxL68, pxL69, pxL70, pxL71, pxL72, pxL73, pxL74, pxL75, pxL76, pxL77, pxL78, pxL79, pxL80, pxL81, pxL82, pxL83, pxL84, pxL85, pxL86, pxL87, pxL88, pxL89, pxL90, pxL91, pxL92, pxL93, pxL94, pxL95, pxL96, pxL97, pxL98, pxL99, pxL100, pxL101, pxL102, pxL103, pxL104, pxL105, pxL106, pxL107, pxL108, pxL109, pxL110, pxL111, pxL112, pxL113, pxL114, pxL115, pxL116, pxL117, pxL118, pxL119, pxL120, pxL121, pxL122, pxL123, pxL124, pxL125, pxL126, pxL200, pxL240, pxL287, pxL388, pxL400, pxL429, pxL431, pxL440, pxL1240, pxL1600, pxL1681, pxL12028, pxL13849, pxL14880, pxL25173, pxL26908, pxL49600, pxL65535, pxL65536, ↓reduceIte, reduceCtorEq, pxJ_add, pxJ_sub, pxJ_mul, pxJ_neg, pxD_lt_t, pxD_lt_f, pxD_le_t, pxD_le_f, pxD_eq_t, pxD_eq_f, pxJ_lt, pxJ_le, pxJ_eq, px_gI, px_gR, px_pI, px_rc, px_ai, px_ar, px_si, px_ln, px_cp, pxJ_div, pxJ_b8, pxJ_byte, px_b2, px_bs, px_rb0, px_rb1, px_min, px_max, px_compare, pxW_some, jw_t_I, px_cpt, jw_r_I, px_cpr, jw_l_I, px_cpl, Option.some.injEq, t0, r1, o6]
      | true =>
        have f7 := on1 rfl
        rw [show (if true = true then (1 : Int) else 0) = 1 from rfl]
        simp (maxSteps := 4000000) (disch := first | assumption | omega | (simp only [jw_t_I, px_cpt]; done) | (simp only [jw_t_I, px_cpt]; omega)) only [pxL0, pxL1, pxL2, pxL3, pxL4, pxL5, pxL6, pxL7, pxL8, pxL9, pxL10, pxL11, pxL12, pxL13, pxL14, pxL15, pxL16, pxL17, pxL18, pxL19, pxL20, pxL21, pxL22, pxL23, pxL24, pxL25, pxL26, pxL27, pxL28, pxL29, pxL30, pxL31, pxL32, pxL33, pxL34, pxL35, pxL36, pxL37, pxL38, pxL39, pxL40, pxL41, pxL42, pxL43, pxL44, pxL45, pxL46, pxL47, pxL48, pxL49, pxL51, pxL57, pxL58, pxL59, pxL60, pxL61, pxL62, pxL63, pxL64, pxL65, pxL66, pxL67, pxL68, pxL69, pxL70, pxL71, pxL72, pxL73, pxL74, pxL75, pxL76, pxL77, pxL78, pxL79, pxL80, pxL81, pxL82, pxL83, pxL84, pxL85, pxL86, pxL87, pxL88, pxL89, pxL90, pxL91, pxL92, pxL93, pxL94, pxL95, pxL96, pxL97, pxL98, pxL99, pxL100, pxL101, pxL102, pxL103, pxL104, pxL105, pxL106, pxL107, pxL108, pxL109, pxL110, pxL111, pxL112, pxL113, pxL114, pxL115, pxL116, pxL117, pxL118, pxL119, pxL120, pxL121, pxL122, pxL123, pxL124, pxL125, pxL126, pxL200, pxL240, pxL287, pxL388, pxL400, pxL429, pxL431, pxL440, pxL1240, pxL1600, pxL1681, pxL12028, pxL13849, pxL14880, pxL25173, pxL26908, pxL49600, pxL65535, pxL65536, ↓reduceIte, reduceCtorEq, pxJ_add, pxJ_sub, pxJ_mul, pxJ_neg, pxD_lt_t, pxD_lt_f, pxD_le_t, pxD_le_f, pxD_eq_t, pxD_eq_f, pxJ_lt, pxJ_le, pxJ_eq, px_gI, px_gR, px_pI, px_rc, px_ai, px_ar, px_si, px_ln, px_cp, pxJ_div, pxJ_b8, pxJ_byte, px_b2, px_bs, px_rb0, px_rb1, px_min, px_max, px_compare, pxW_some, jw_t_I, px_cpt, jw_r_I, px_cpr, jw_l_I, px_cpl, Option.some.injEq, t0, r1, o6, m0, f7]
    rw [st, eR]
    clear st eR
    unfold g_X2_replace_b37
    cases hf : pxFind s r l fr on with
    | none =>
      obtain ⟨h2, v1, v2⟩ := z1 hf
      have F2 : pxF pxQy h h2 := pxQx_y (pxQs_x v2)
      have B2 : pxBu h2 w := B.fr v2 (fun k f z => by unfold pxQs; omega)
      have T2 : pxMT h2 r := T.fr v2 (fun k f z => by unfold pxQs; omega)
      have t02 := B2.1.1
      have r12 := B2.1.2.2.1
      have m02 := T2.1.1
      have m52 := T2.2.2.1
      obtain ⟨h3, w1, w2, w3⟩ := s_X2_appendRow B2 T2 c0 (show cp ≤ r.length by omega) (Int.le_refl _)
      refine ⟨h3, ?_, F2.trans (pxQc_y w2), w3, ?_⟩
      · unfold g_X2_replace_b113
        simp (maxSteps := 4000000) (disch := first | assumption | omega | (simp only [jw_t_I, px_cpt]; done) | (simp only [jw_t_I, px_cpt]; omega)) only [pxL0, pxL1, pxL2, pxL3, pxL4, pxL5, pxL6, pxL7, pxL8, pxL9, pxL10, pxL11, pxL12, pxL13, pxL14, pxL15, pxL16, pxL17, pxL18, pxL19, pxL20, pxL21, pxL22, pxL23, pxL24, pxL25, pxL26, pxL27, pxL28, pxL29, pxL30, pxL31, pxL32, pxL33, pxL34, pxL35, pxL36, pxL37, pxL38, pxL39, pxL40, pxL41, pxL42, pxL43, pxL44, pxL45, pxL46, pxL47, pxL48, pxL49, pxL51, pxL57, pxL58, pxL59, pxL60, pxL61, pxL62, pxL63, pxL64, pxL65, pxL66, pxL67, pxL68, pxL69, pxL70, pxL71, pxL72, pxL73, pxL74, pxL75, pxL76, pxL77, pxL78, pxL79, pxL80, pxL81, pxL82, pxL83, pxL84, pxL85, pxL86, pxL87, pxL88, pxL89, pxL90, pxL91, pxL92, pxL93, pxL94, pxL95, pxL96, pxL97, pxL98, pxL99, pxL100, pxL101, pxL102, pxL103, pxL104, pxL105, pxL106, pxL107, pxL108, pxL109, pxL110, pxL111, pxL112, pxL113, pxL114, pxL115, pxL116, pxL117, pxL118, pxL119, pxL120, pxL121, pxL122, pxL123, pxL124, pxL125, pxL126, pxL200, pxL240, pxL287, pxL388, pxL400, pxL429, pxL431, pxL440, pxL1240, pxL1600, pxL1681, pxL12028, pxL13849, pxL14880, pxL25173, pxL26908, pxL49600, pxL65535, pxL65536, ↓reduceIte, reduceCtorEq, pxJ_add, pxJ_sub, pxJ_mul, pxJ_neg, pxD_lt_t, pxD_lt_f, pxD_le_t, pxD_le_f, pxD_eq_t, pxD_eq_f, pxJ_lt, pxJ_le, pxJ_eq, px_gI, px_gR, px_pI, px_rc, px_ai, px_ar, px_si, px_ln, px_cp, pxJ_div, pxJ_b8, pxJ_byte, px_b2, px_bs, px_rb0, px_rb1, px_min, px_max, px_compare, pxW_some, jw_t_I, px_cpt, jw_r_I, px_cpr, jw_l_I, px_cpl, Option.some.injEq, m0, v1, t02, r12, m02, m52, w1]
      · rw [w2.m (by unfold pxQc; omega), v2.m (by unfold pxQs; omega)]
        rfl
    | some v =>
      obtain ⟨a, bb, o, c⟩ := v
      obtain ⟨h2, v1, v2, v3, v4, v5, v6, v7, v8⟩ := z2 a bb o c hf
      have F2 : pxF pxQy h h2 := pxQx_y (pxQs_x v2)
      have B2 : pxBu h2 w := B.fr v2 (fun k f z => by unfold pxQs; omega)
      have T2 : pxMT h2 r := T.fr v2 (fun k f z => by unfold pxQs; omega)
      have G2 : pxPG h2 b s := G.fb hb v2 (fun k f z => by unfold pxQs; omega)
      have R2 := R.fy F2
      have t02 := B2.1.1
      have r12 := B2.1.2.2.1
      have m02 := T2.1.1
      have m52 := T2.2.2.1
      have t52 := R2.2.1
      have o52 : pxM h2 oo 5 = num := by rw [v2.m (by unfold pxQs; omega)]; exact o5
      have keep5 : pxM h2 536 5 = pxM h 536 5 := v2.m (by unfold pxQs; omega)
      -- what is put
      obtain ⟨h3, w1, w2, w3⟩ := s_X2_appendRow B2 T2 c0 (show cp ≤ a by omega) (show a ≤ r.length by omega)
      have F3 : pxF pxQy h h3 := F2.trans (pxQc_y w2)
      have T3 := T2.fc w2
      have R3 := R2.fy (pxQc_y w2)
      obtain ⟨-, t53, -, -, -, -, -, -, -, -, -, -, o73, o83, -⟩ := R3
      obtain ⟨h4, x1, x2, x3⟩ := s_X2_appendPut (o := o) (c := c) hb ho k2 (show 0 ≤ a by omega) v6 v7 pok u0 u1 w3 T3 ((show pxGrp h2 k o c r.length from v8).fc w2) (G2.fb hb w2 (fun k f z => by unfold pxQc; omega)) t53 o73 o83 (by rw [w2.m (by unfold pxQc; omega)]; exact v3) (by rw [w2.m (by unfold pxQc; omega)]; exact v4)
      have t03 := w3.1.1
      have t04 := x3.1.1
      have r14 := x3.1.2.2.1
      have T4 := T3.fc x2
      have m04 := T4.1.1
      have m54 := T4.2.2.1
      have f74 : pxM h4 531 7 = bb := by rw [x2.m (by unfold pxQc; omega), w2.m (by unfold pxQc; omega)]; exact v4
      have Fr : pxF (fun k f => k = 536 ∧ f = 5) h4 (jw_setI h4 536 5 (pxJ 1)) := pxF.setI ⟨rfl, rfl⟩
      have Fr' : pxF pxQy h4 (jw_setI h4 536 5 (pxJ 1)) := Fr.mono (fun k f z => by unfold pxQy; omega)
      have F5 : pxF pxQy h (jw_setI h4 536 5 (pxJ 1)) := (F3.trans (pxQc_y x2)).trans Fr'
      have B5 : pxBu (jw_setI h4 536 5 (pxJ 1)) (w ++ pxSl r cp a ++ pxPw s r a bb o c k 61 u) := x3.fr Fr (fun k f z => by omega)
      have T5 : pxMT (jw_setI h4 536 5 (pxJ 1)) r := T4.fr Fr (fun k f z => by omega)
      have o55 : pxM (jw_setI h4 536 5 (pxJ 1)) oo 5 = num := by rw [F5.m (by unfold pxQy; omega)]; exact o5
      have t55 : (jw_t (jw_setI h4 536 5 (pxJ 1)) oo).1 = 5 := by rw [F5.t]; exact t5
      have t05 := B5.1.1
      have r15 := B5.1.2.2.1
      have m05 := T5.1.1
      have m55 := T5.2.2.1
      show ∃ h', _ ∧ pxF pxQy h h' ∧ pxBu h' (w ++ (if num = 0 then (pxSl r cp a ++ (pxPw s r a bb o c k 61 u ++ (pxRp s r l num (fun a bb o c => pxPw s r a bb o c k 61 u) m (fi + 1) bb true bb).1), true) else if num = fi then (pxSl r cp a ++ (pxPw s r a bb o c k 61 u ++ pxSl r bb r.length), true) else pxRp s r l num (fun a bb o c => pxPw s r a bb o c k 61 u) m (fi + 1) bb true cp).1) ∧ pxM h' 536 5 = (if (if num = 0 then (pxSl r cp a ++ (pxPw s r a bb o c k 61 u ++ (pxRp s r l num (fun a bb o c => pxPw s r a bb o c k 61 u) m (fi + 1) bb true bb).1), true) else if num = fi then (pxSl r cp a ++ (pxPw s r a bb o c k 61 u ++ pxSl r bb r.length), true) else pxRp s r l num (fun a bb o c => pxPw s r a bb o c k 61 u) m (fi + 1) bb true cp).2 = true then 1 else pxM h 536 5)
      by_cases n1 : num = 0
      · obtain ⟨h6, y1, y2, y3, y4⟩ := ih N (jw_setI h4 536 5 (pxJ 1)) _ (fi + 1) bb bb true (by omega) (by omega) (by omega) (by omega) (Int.le_refl _) v7 (fun _ => by rw [pxM_ne (by omega)]; exact f74) (fun z => by cases z) B5 T5 (G.fb hb F5 (fun k f z => by unfold pxQy; omega)) (R.fy F5)
        rw [if_pos n1]
        refine ⟨h6, ?_, F5.trans y2, ?_, ?_⟩
        · rw [show (if true = true then (1 : Int) else 0) = 1 from rfl] at y1
          unfold g_X2_replace_b65 g_X2_replace_b95
          have o5z : pxM h2 oo 5 = 0 := by rw [o52, n1]
          have o5z2 : pxM (jw_setI h4 536 5 (pxJ 1)) oo 5 = 0 := by rw [o55, n1]
          simp (maxSteps := 4000000) (disch := first | assumption | omega | (simp only [jw_t_I, px_cpt]; done) | (simp only [jw_t_I, px_cpt]; omega)) only [pxL0, pxL1, pxL2, pxL3, pxL4, pxL5, pxL6, pxL7, pxL8, pxL9, pxL10, pxL11, pxL12, pxL13, pxL14, pxL15, pxL16, pxL17, pxL18, pxL19, pxL20, pxL21, pxL22, pxL23, pxL24, pxL25, pxL26, pxL27, pxL28, pxL29, pxL30, pxL31, pxL32, pxL33, pxL34, pxL35, pxL36, pxL37, pxL38, pxL39, pxL40, pxL41, pxL42, pxL43, pxL44, pxL45, pxL46, pxL47, pxL48, pxL49, pxL51, pxL57, pxL58, pxL59, pxL60, pxL61, pxL62, pxL63, pxL64, pxL65, pxL66, pxL67, pxL68, pxL69, pxL70, pxL71, pxL72, pxL73, pxL74, pxL75, pxL76, pxL77, pxL78, pxL79, pxL80, pxL81, pxL82, pxL83, pxL84, pxL85, pxL86, pxL87, pxL88, pxL89, pxL90, pxL91, pxL92, pxL93, pxL94, pxL95, pxL96, pxL97, pxL98, pxL99, pxL100, pxL101, pxL102, pxL103, pxL104, pxL105, pxL106, pxL107, pxL108, pxL109, pxL110, pxL111, pxL112, pxL113, pxL114, pxL115, pxL116, pxL117, pxL118, pxL119, pxL120, pxL121, pxL122, pxL123, pxL124, pxL125, pxL126, pxL200, pxL240, pxL287, pxL388, pxL400, pxL429, pxL431, pxL440, pxL1240, pxL1600, pxL1681, pxL12028, pxL13849, pxL14880, pxL25173, pxL26908, pxL49600, pxL65535, pxL65536, ↓reduceIte, reduceCtorEq, pxJ_add, pxJ_sub, pxJ_mul, pxJ_neg, pxD_lt_t, pxD_lt_f, pxD_le_t, pxD_le_f, pxD_eq_t, pxD_eq_f, pxJ_lt, pxJ_le, pxJ_eq, px_gI, px_gR, px_pI, px_rc, px_ai, px_ar, px_si, px_ln, px_cp, pxJ_div, pxJ_b8, pxJ_byte, px_b2, px_bs, px_rb0, px_rb1, px_min, px_max, px_compare, pxW_some, jw_t_I, px_cpt, jw_r_I, px_cpr, jw_l_I, px_cpl, Option.some.injEq, m0, v1, o5z, t02, r12, m02, v3, w1, x1, r14, m04, f74, px_pB1, o5z2, y1]
        · simpa only [List.append_assoc] using y3
        · rw [y4, pxM_eq (by omega) (by omega)]
          simp
      · rw [if_neg n1]
        by_cases n2 : num = fi
        · rw [if_pos n2]
          obtain ⟨h6, y1, y2, y3⟩ := s_X2_appendRow B5 T5 (show 0 ≤ bb by omega) v7 (Int.le_refl _)
          refine ⟨h6, ?_, F5.trans (pxQc_y y2), ?_, ?_⟩
          · unfold g_X2_replace_b65 g_X2_replace_b95 g_X2_replace_b113
            have o5z : pxM h2 oo 5 = fi := by rw [o52, n2]
            have o5z2 : pxM (jw_setI h4 536 5 (pxJ 1)) oo 5 = fi := by rw [o55, n2]
            have m55' : pxM (jw_setI h4 536 5 (pxJ 1)) 531 5 = r.length := m55
            simp (maxSteps := 4000000) (disch := first | assumption | omega | (simp only [jw_t_I, px_cpt]; done) | (simp only [jw_t_I, px_cpt]; omega)) only [pxL0, pxL1, pxL2, pxL3, pxL4, pxL5, pxL6, pxL7, pxL8, pxL9, pxL10, pxL11, pxL12, pxL13, pxL14, pxL15, pxL16, pxL17, pxL18, pxL19, pxL20, pxL21, pxL22, pxL23, pxL24, pxL25, pxL26, pxL27, pxL28, pxL29, pxL30, pxL31, pxL32, pxL33, pxL34, pxL35, pxL36, pxL37, pxL38, pxL39, pxL40, pxL41, pxL42, pxL43, pxL44, pxL45, pxL46, pxL47, pxL48, pxL49, pxL51, pxL57, pxL58, pxL59, pxL60, pxL61, pxL62, pxL63, pxL64, pxL65, pxL66, pxL67, pxL68, pxL69, pxL70, pxL71, pxL72, pxL73, pxL74, pxL75, pxL76, pxL77, pxL78, pxL79, pxL80, pxL81, pxL82, pxL83, pxL84, pxL85, pxL86, pxL87, pxL88, pxL89, pxL90, pxL91, pxL92, pxL93, pxL94, pxL95, pxL96, pxL97, pxL98, pxL99, pxL100, pxL101, pxL102, pxL103, pxL104, pxL105, pxL106, pxL107, pxL108, pxL109, pxL110, pxL111, pxL112, pxL113, pxL114, pxL115, pxL116, pxL117, pxL118, pxL119, pxL120, pxL121, pxL122, pxL123, pxL124, pxL125, pxL126, pxL200, pxL240, pxL287, pxL388, pxL400, pxL429, pxL431, pxL440, pxL1240, pxL1600, pxL1681, pxL12028, pxL13849, pxL14880, pxL25173, pxL26908, pxL49600, pxL65535, pxL65536, ↓reduceIte, reduceCtorEq, pxJ_add, pxJ_sub, pxJ_mul, pxJ_neg, pxD_lt_t, pxD_lt_f, pxD_le_t, pxD_le_f, pxD_eq_t, pxD_eq_f, pxJ_lt, pxJ_le, pxJ_eq, px_gI, px_gR, px_pI, px_rc, px_ai, px_ar, px_si, px_ln, px_cp, pxJ_div, pxJ_b8, pxJ_byte, px_b2, px_bs, px_rb0, px_rb1, px_min, px_max, px_compare, pxW_some, jw_t_I, px_cpt, jw_r_I, px_cpr, jw_l_I, px_cpl, Option.some.injEq, m0, v1, o5z, t02, r12, m02, v3, w1, x1, r14, m04, f74, px_pB1, o5z2, m55', y1]
          · simpa only [List.append_assoc] using y3
          · rw [y2.m (by unfold pxQc; omega), pxM_eq (by omega) (by omega)]
            simp
        · rw [if_neg n2]
          obtain ⟨h6, y1, y2, y3, y4⟩ := ih N h2 w (fi + 1) bb cp true (by omega) (by omega) (by omega) c0 (by omega) v7 (fun _ => v4) (fun z => by cases z) B2 T2 G2 R2
          refine ⟨h6, ?_, F2.trans y2, y3, ?_⟩
          · rw [show (if true = true then (1 : Int) else 0) = 1 from rfl] at y1
            unfold g_X2_replace_b95
            simp (maxSteps := 4000000) (disch := first | assumption | omega | (simp only [jw_t_I, px_cpt]; done) | (simp only [jw_t_I, px_cpt]; omega)) only [pxL0, pxL1, pxL2, pxL3, pxL4, pxL5, pxL6, pxL7, pxL8, pxL9, pxL10, pxL11, pxL12, pxL13, pxL14, pxL15, pxL16, pxL17, pxL18, pxL19, pxL20, pxL21, pxL22, pxL23, pxL24, pxL25, pxL26, pxL27, pxL28, pxL29, pxL30, pxL31, pxL32, pxL33, pxL34, pxL35, pxL36, pxL37, pxL38, pxL39, pxL40, pxL41, pxL42, pxL43, pxL44, pxL45, pxL46, pxL47, pxL48, pxL49, pxL51, pxL57, pxL58, pxL59, pxL60, pxL61, pxL62, pxL63, pxL64, pxL65, pxL66, pxL67, pxL68, pxL69, pxL70, pxL71, pxL72, pxL73, pxL74, pxL75, pxL76, pxL77, pxL78, pxL79, pxL80, pxL81, pxL82, pxL83, pxL84, pxL85, pxL86, pxL87, pxL88, pxL89, pxL90, pxL91, pxL92, pxL93, pxL94, pxL95, pxL96, pxL97, pxL98, pxL99, pxL100, pxL101, pxL102, pxL103, pxL104, pxL105, pxL106, pxL107, pxL108, pxL109, pxL110, pxL111, pxL112, pxL113, pxL114, pxL115, pxL116, pxL117, pxL118, pxL119, pxL120, pxL121, pxL122, pxL123, pxL124, pxL125, pxL126, pxL200, pxL240, pxL287, pxL388, pxL400, pxL429, pxL431, pxL440, pxL1240, pxL1600, pxL1681, pxL12028, pxL13849, pxL14880, pxL25173, pxL26908, pxL49600, pxL65535, pxL65536, ↓reduceIte, reduceCtorEq, pxJ_add, pxJ_sub, pxJ_mul, pxJ_neg, pxD_lt_t, pxD_lt_f, pxD_le_t, pxD_le_f, pxD_eq_t, pxD_eq_f, pxJ_lt, pxJ_le, pxJ_eq, px_gI, px_gR, px_pI, px_rc, px_ai, px_ar, px_si, px_ln, px_cp, pxJ_div, pxJ_b8, pxJ_byte, px_b2, px_bs, px_rb0, px_rb1, px_min, px_max, px_compare, pxW_some, jw_t_I, px_cpt, jw_r_I, px_cpr, jw_l_I, px_cpl, Option.some.injEq, m0, v1, o52, y1]
          · rw [y4, keep5]
end
