/-! orders over the whole: g, G and blocks, done -/
theorem pxSSX.fr {P : Nat → Nat → Prop} {h h' : jw_H} {s : Nat} (H : pxSSX h s) (F : pxF P h h') (hP : ∀ k f, s ≤ k → k ≤ s + 19 → ¬ P k f) : pxSSX h' s :=
  ⟨H.1.fr F (fun k f e => hP k f (by omega) (by omega)), H.2.1.fr F (fun k f a b => hP k f (by omega) (by omega)), H.2.2.1.fr F (fun k f a b => hP k f (by omega) (by omega)), fun k k1 k2 => (H.2.2.2 k k1 k2).fr F (fun k f a b => hP k f (by omega) (by omega))⟩
theorem pxGS.fr {nB : Int} {P : Nat → Nat → Prop} {h h' : jw_H} {T : pxTx} {S : pxSto} {rep : Bool} {came : Int} (G : pxGS nB h T S rep came) (F : pxF P h h') (hP : ∀ k f, (255 ≤ k ∧ k ≤ 281) ∨ (k = 559 ∧ (f < 11 ∨ f = 15)) ∨ (k = 531 ∧ f < 5) ∨ (k = 536 ∧ (f < 3 ∨ f = 5)) ∨ (560 ≤ k ∧ k ≤ 568) → ¬ P k f) : pxGS nB h' T S rep came := by
  obtain ⟨A, I, Y, IV, IS, m15, ca0, ca1, nb⟩ := G
  exact ⟨A.fr F (fun k f z => hP k f (by omega)), pxIT.fr I F (fun k f _ _ => hP k f (by omega)), pxIS.fr Y F (fun k f _ _ => hP k f (by omega)), IV, IS, by rw [F.m (hP _ _ (by omega))]; exact m15, ca0, ca1, nb⟩
theorem pxMetA.fr {P : Nat → Nat → Prop} {h h' : jw_H} {met : List Int} (A : pxMetA h met) (F : pxF P h h') (h1 : ¬ P 559 11) (h2 : ∀ f, ¬ P 570 f) : pxMetA h' met :=
  ⟨by rw [F.m h1]; exact A.1, A.2.1, fun y y1 y2 => by rw [F.m (h2 _)]; exact A.2.2 y y1 y2⟩
section
variable {b : Nat} {s : List Int} {S0 : pxSto} {nB : Int}
theorem s_X10_doGroup_b18 {k : Nat} {cnt : Int} {met ps : List Int} (hk : k < 60) (c60 : cnt ≤ 60) (kc : ((k + 1 + ps.length : Nat) : Int) ≤ cnt) : ∀ (ids : List Int) (N : Nat) (h : jw_H) (i : Nat) (came : Int) (T : pxTx) (S : pxSto) (rep : Bool), ids.length < N → met.drop i = ids → i ≤ met.length → pxMetA h met → pxIQ h b s (k + 1) ps → pxM h (12 + 4 * k) 9 = ((k + 1 + ps.length : Nat) : Int) → pxPS h → pxM h 10 6 = cnt → (jw_t h (12 + 4 * k)).1 = 5 → pxGS nB h T S rep came → pxIS h 538 S0.1 S0.2.1 S0.2.2 →
    ((pxMets s ps ids came T S rep).1 = 0 → ∃ h', f_X10_doGroup_b18 N h 559 (some (12 + 4 * k)) (pxJ k) (pxJ i) = some (pxJ 0, h') ∧ pxF pxQG h h' ∧ pxGS nB h' (pxMets s ps ids came T S rep).2.2.1 (pxMets s ps ids came T S rep).2.2.2.1 (pxMets s ps ids came T S rep).2.2.2.2 (pxMets s ps ids came T S rep).2.1) ∧
    ((pxMets s ps ids came T S rep).1 ≠ 0 → ∃ h', f_X10_doGroup_b18 N h 559 (some (12 + 4 * k)) (pxJ k) (pxJ i) = some (pxJ (pxMets s ps ids came T S rep).1, h') ∧ pxBad h h' S0 ∧ 0 ≤ (pxMets s ps ids came T S rep).1 ∧ (pxMets s ps ids came T S rep).1 ≤ 7) := by
  intro ids
  induction ids with
  | nil =>
    intro N h i came T S rep hN dr il MA IQ m9 PS m6 t5 G B
    obtain ⟨N, rfl, -⟩ := px_fu (m := 0) (N := N) hN
    have le := List.drop_eq_nil_iff.mp dr
    refine ⟨fun _ => ⟨h, ?_, pxF.rfl, G⟩, fun z => absurd rfl z⟩
    have w0 := G.1.1.1
    obtain ⟨m11, m40, -⟩ := MA
    rw [u_X10_doGroup_b18]
    unfold g_X10_doGroup_b18
    clear IQ G B
    simp (maxSteps := 4000000) (disch := first | assumption | omega | (simp only [jw_t_I, px_cpt]; done) | (simp only [jw_t_I, px_cpt]; omega)) only [pxL0, pxL1, pxL2, pxL3, pxL4, pxL5, pxL6, pxL7, pxL8, pxL9, pxL10, pxL11, pxL12, pxL13, pxL14, pxL15, pxL16, pxL17, pxL18, pxL19, pxL20, pxL21, pxL22, pxL23, pxL24, pxL25, pxL26, pxL27, pxL28, pxL29, pxL30, pxL31, pxL32, pxL33, pxL34, pxL35, pxL36, pxL37, pxL38, pxL39, pxL40, pxL41, pxL42, pxL43, pxL44, pxL45, pxL46, pxL47, pxL48, pxL49, pxL51, pxL57, pxL58, pxL59, pxL60, pxL61, pxL62, pxL63, pxL64, pxL65, pxL66, pxL67, pxL68, pxL69, pxL70, pxL71, pxL72, pxL73, pxL74, pxL75, pxL76, pxL77, pxL78, pxL79, pxL80, pxL81, pxL82, pxL83, pxL84, pxL85, pxL86, pxL87, pxL88, pxL89, pxL90, pxL91, pxL92, pxL93, pxL94, pxL95, pxL96, pxL97, pxL98, pxL99, pxL100, pxL101, pxL102, pxL103, pxL104, pxL105, pxL106, pxL107, pxL108, pxL109, pxL110, pxL111, pxL112, pxL113, pxL114, pxL115, pxL116, pxL117, pxL118, pxL119, pxL120, pxL121, pxL122, pxL123, pxL124, pxL125, pxL126, pxL200, pxL240, pxL287, pxL388, pxL400, pxL429, pxL431, pxL440, pxL1240, pxL1600, pxL1681, pxL12028, pxL13849, pxL14880, pxL25173, pxL26908, pxL49600, pxL65535, pxL65536, ↓reduceIte, reduceCtorEq, pxJ_add, pxJ_sub, pxJ_mul, pxJ_neg, pxD_lt_t, pxD_lt_f, pxD_le_t, pxD_le_f, pxD_eq_t, pxD_eq_f, pxJ_lt, pxJ_le, pxJ_eq, px_gI, px_gR, px_pI, px_rc, px_ai, px_ar, px_si, px_ln, px_cp, pxJ_div, pxJ_b8, pxJ_byte, px_b2, px_bs, px_rb0, px_rb1, px_min, px_max, px_compare, pxW_some, jw_t_I, px_cpt, jw_r_I, px_cpr, jw_l_I, px_cpl, Option.some.injEq, m11, w0]
  | cons id ids ih =>
    intro N h i came T S rep hN dr il MA IQ m9 PS m6 t5 G B
    obtain ⟨N, rfl, -⟩ := px_fu (m := ids.length + 1) (N := N) (by simp at hN; omega)
    rw [List.length_cons] at hN
    have hN := Nat.lt_of_succ_lt_succ hN
    have ln : met.length = i + (ids.length + 1) := by
      have := congrArg List.length dr
      rw [List.length_drop, List.length_cons] at this
      omega
    have dr2 : met.drop (i + 1) = ids := by
      have := congrArg (List.drop 1) dr
      rw [List.drop_drop] at this
      exact this
    have gi : pxG 0 met ((i : Int) + 1) = id := by
      have := pxG_dropc (d := (0 : Int)) (l := met) (x := (i : Int) + 1) (by omega) (by omega)
      rw [show ((i : Int) + 1 - 1).toNat = i by omega, dr] at this
      exact (List.cons.inj this).1.symm
    have mi : pxM h 570 i = id := by
      have := MA.2.2 ((i : Int) + 1) (by omega) (by omega)
      rw [show ((i : Int) + 1 - 1).toNat = i by omega, gi] at this
      exact this
    have i1 := pxM_lo h 570 i
    have i2 := pxM_hi h 570 i
    rw [mi] at i1 i2
    have m11 := MA.1
    have m40 := MA.2.1
    have G' := G
    obtain ⟨A, I, Y, IV, IS, m15, ca0, ca1, nb⟩ := G
    have w0 := A.1.1
    have w1 := A.1.2.2.1
    have w10 := A.1.2.2.2.2.2.2.2.2.2.2.2.1
    have t20 := A.1.2.2.2.2.2.2.2.2.2.2.2.2.2
    have t9 := I.1.1
    have no := s_X9_numberOf I (id := id) (by omega) (by omega)
    have nb1 := pxNoF_in id T.1 1
    have lnn : jw_ln h (some 570) = some (pxJ 40) := by rw [px_ln (by rw [t20]; simp), t20]; rfl
    have ai : jw_ai h 20 (some 570) (pxJ (i : Int)) = some (pxJ id) := by rw [px_ai (by rw [t20]) (by omega) (by rw [t20]; show (i : Int) < ((40 : Nat) : Int); omega) (by omega), show ((i : Int)).toNat = i by omega, mi]
    have eM : pxMets s ps (id :: ids) came T S rep = if pxNo T.1 id = -1 then pxMets s ps ids came T S rep
      else if (pxInnr s ps came (T.1, T.2.1, pxNo T.1 id, T.2.2.2) S rep).1 ≠ 0 then pxInnr s ps came (T.1, T.2.1, pxNo T.1 id, T.2.2.2) S rep
      else pxMets s ps ids (pxInnr s ps came (T.1, T.2.1, pxNo T.1 id, T.2.2.2) S rep).2.1 (pxInnr s ps came (T.1, T.2.1, pxNo T.1 id, T.2.2.2) S rep).2.2.1 (pxInnr s ps came (T.1, T.2.1, pxNo T.1 id, T.2.2.2) S rep).2.2.2.1 (pxInnr s ps came (T.1, T.2.1, pxNo T.1 id, T.2.2.2) S rep).2.2.2.2 := rfl
    by_cases c : pxNo T.1 id = -1
    · rw [eM, if_pos c]
      obtain ⟨z1, z2⟩ := ih N h (i + 1) came T S rep hN dr2 (by omega) MA IQ m9 PS m6 t5 G' B
      have st : f_X10_doGroup_b18 (N + 1) h 559 (some (12 + 4 * k)) (pxJ k) (pxJ i) = f_X10_doGroup_b18 N h 559 (some (12 + 4 * k)) (pxJ k) (pxJ ((i + 1 : Nat) : Int)) := by
        rw [u_X10_doGroup_b18, show ((i + 1 : Nat) : Int) = (i : Int) + 1 by omega]
        unfold g_X10_doGroup_b18 g_X10_doGroup_b171
        rw [c] at no
        clear ih IQ G' B eM z1 z2 MA
        simp (maxSteps := 4000000) (disch := first | assumption | omega | (simp only [jw_t_I, px_cpt]; done) | (simp only [jw_t_I, px_cpt]; omega)) only [pxL0, pxL1, pxL2, pxL3, pxL4, pxL5, pxL6, pxL7, pxL8, pxL9, pxL10, pxL11, pxL12, pxL13, pxL14, pxL15, pxL16, pxL17, pxL18, pxL19, pxL20, pxL21, pxL22, pxL23, pxL24, pxL25, pxL26, pxL27, pxL28, pxL29, pxL30, pxL31, pxL32, pxL33, pxL34, pxL35, pxL36, pxL37, pxL38, pxL39, pxL40, pxL41, pxL42, pxL43, pxL44, pxL45, pxL46, pxL47, pxL48, pxL49, pxL51, pxL57, pxL58, pxL59, pxL60, pxL61, pxL62, pxL63, pxL64, pxL65, pxL66, pxL67, pxL68, pxL69, pxL70, pxL71, pxL72, pxL73, pxL74, pxL75, pxL76, pxL77, pxL78, pxL79, pxL80, pxL81, pxL82, pxL83, pxL84, pxL85, pxL86, pxL87, pxL88, pxL89, pxL90, pxL91, pxL92, pxL93, pxL94, pxL95, pxL96, pxL97, pxL98, pxL99, pxL100, pxL101, pxL102, pxL103, pxL104, pxL105, pxL106, pxL107, pxL108, pxL109, pxL110, pxL111, pxL112, pxL113, pxL114, pxL115, pxL116, pxL117, pxL118, pxL119, pxL120, pxL121, pxL122, pxL123, pxL124, pxL125, pxL126, pxL200, pxL240, pxL287, pxL388, pxL400, pxL429, pxL431, pxL440, pxL1240, pxL1600, pxL1681, pxL12028, pxL13849, pxL14880, pxL25173, pxL26908, pxL49600, pxL65535, pxL65536, ↓reduceIte, reduceCtorEq, pxJ_add, pxJ_sub, pxJ_mul, pxJ_neg, pxD_lt_t, pxD_lt_f, pxD_le_t, pxD_le_f, pxD_eq_t, pxD_eq_f, pxJ_lt, pxJ_le, pxJ_eq, px_gI, px_gR, px_pI, px_rc, px_ai, px_ar, px_si, px_ln, px_cp, pxJ_div, pxJ_b8, pxJ_byte, px_b2, px_bs, px_rb0, px_rb1, px_min, px_max, px_compare, pxW_some, jw_t_I, px_cpt, jw_r_I, px_cpr, jw_l_I, px_cpl, Option.some.injEq, m11, w0, w1, w10, lnn, ai, t9, no]
      rw [st]
      exact ⟨z1, z2⟩
    · rw [eM, if_neg c]
      have nr : 1 ≤ pxNo T.1 id ∧ pxNo T.1 id ≤ T.1.length := by
        rcases nb1 with z | z
        · exact absurd z c
        · show 1 ≤ pxNoF id T.1 1 ∧ pxNoF id T.1 1 ≤ T.1.length; omega
      have l40 := IV.1
      have F1 : pxF (fun k f => k = 255 ∧ f = 3) h (jw_setI h 255 3 (pxJ (pxNo T.1 id))) := pxF.setI ⟨rfl, rfl⟩
      have F1' : pxF pxQG h (jw_setI h 255 3 (pxJ (pxNo T.1 id))) := F1.mono (fun k f z => by unfold pxQG pxQA; omega)
      have I1 : pxIX (jw_setI h 255 3 (pxJ (pxNo T.1 id))) (T.1, T.2.1, pxNo T.1 id, T.2.2.2) := pxIT.now3 I (by omega) (by omega)
      have G1 : pxGS nB (jw_setI h 255 3 (pxJ (pxNo T.1 id))) (T.1, T.2.1, pxNo T.1 id, T.2.2.2) S rep came := ⟨A.fr F1 (fun k f z => by omega), I1, pxIS.fr Y F1 (fun k f _ _ => by omega), IV.setNow (by omega) (by omega) (by omega), IS, by rw [F1.m (by omega)]; exact m15, ca0, ca1, nb⟩
      have B1 := B.fr F1 (fun k f _ _ => by omega)
      have IQ1 : pxIQ (jw_setI h 255 3 (pxJ (pxNo T.1 id))) b s (k + 1) ps := IQ.fb F1 (fun k f z => by omega)
      obtain ⟨y1, y2⟩ := s_X10_doGroup_b73 (b := b) (s := s) (S0 := S0) (x2 := pxJ k) (x3 := pxJ i) (k18 := f_X10_doGroup_b18 N) (oo := 12 + 4 * k) (cnt := cnt) (by omega) c60 ps jw_FU _ (k + 1) came _ S rep (by unfold jw_FU; omega) IQ1 (by rw [F1.m (by omega)]; exact m9) (PS.fr F1 (fun k f z => by omega)) (by rw [F1.m (by omega)]; exact m6) kc (by rw [F1.t]; exact t5) G1 B1
      have st : f_X10_doGroup_b18 (N + 1) h 559 (some (12 + 4 * k)) (pxJ k) (pxJ i) = f_X10_doGroup_b73 (f_X10_doGroup_b18 N) jw_FU (jw_setI h 255 3 (pxJ (pxNo T.1 id))) 559 (some (12 + 4 * k)) (pxJ k) (pxJ i) (pxJ ((k + 1 : Nat) : Int)) := by
        rw [u_X10_doGroup_b18, show ((k + 1 : Nat) : Int) = (k : Int) + 1 by omega]
        unfold g_X10_doGroup_b18
        clear ih IQ G' B eM y1 y2 MA G1 B1 IQ1 nb1
        simp (maxSteps := 4000000) (disch := first | assumption | omega | (simp only [jw_t_I, px_cpt]; done) | (simp only [jw_t_I, px_cpt]; omega)) only [pxL0, pxL1, pxL2, pxL3, pxL4, pxL5, pxL6, pxL7, pxL8, pxL9, pxL10, pxL11, pxL12, pxL13, pxL14, pxL15, pxL16, pxL17, pxL18, pxL19, pxL20, pxL21, pxL22, pxL23, pxL24, pxL25, pxL26, pxL27, pxL28, pxL29, pxL30, pxL31, pxL32, pxL33, pxL34, pxL35, pxL36, pxL37, pxL38, pxL39, pxL40, pxL41, pxL42, pxL43, pxL44, pxL45, pxL46, pxL47, pxL48, pxL49, pxL51, pxL57, pxL58, pxL59, pxL60, pxL61, pxL62, pxL63, pxL64, pxL65, pxL66, pxL67, pxL68, pxL69, pxL70, pxL71, pxL72, pxL73, pxL74, pxL75, pxL76, pxL77, pxL78, pxL79, pxL80, pxL81, pxL82, pxL83, pxL84, pxL85, pxL86, pxL87, pxL88, pxL89, pxL90, pxL91, pxL92, pxL93, pxL94, pxL95, pxL96, pxL97, pxL98, pxL99, pxL100, pxL101, pxL102, pxL103, pxL104, pxL105, pxL106, pxL107, pxL108, pxL109, pxL110, pxL111, pxL112, pxL113, pxL114, pxL115, pxL116, pxL117, pxL118, pxL119, pxL120, pxL121, pxL122, pxL123, pxL124, pxL125, pxL126, pxL200, pxL240, pxL287, pxL388, pxL400, pxL429, pxL431, pxL440, pxL1240, pxL1600, pxL1681, pxL12028, pxL13849, pxL14880, pxL25173, pxL26908, pxL49600, pxL65535, pxL65536, ↓reduceIte, reduceCtorEq, pxJ_add, pxJ_sub, pxJ_mul, pxJ_neg, pxD_lt_t, pxD_lt_f, pxD_le_t, pxD_le_f, pxD_eq_t, pxD_eq_f, pxJ_lt, pxJ_le, pxJ_eq, px_gI, px_gR, px_pI, px_rc, px_ai, px_ar, px_si, px_ln, px_cp, pxJ_div, pxJ_b8, pxJ_byte, px_b2, px_bs, px_rb0, px_rb1, px_min, px_max, px_compare, pxW_some, jw_t_I, px_cpt, jw_r_I, px_cpr, jw_l_I, px_cpl, Option.some.injEq, m11, w0, w1, w10, lnn, ai, t9, no]
      rw [st]
      generalize pxInnr s ps came (T.1, T.2.1, pxNo T.1 id, T.2.2.2) S rep = R at *
      by_cases r0 : R.1 = 0
      · rw [if_neg (show ¬ R.1 ≠ 0 from fun z => z r0)]
        obtain ⟨h2, e2, F2, G2⟩ := y1 r0
        have F12 : pxF pxQG h h2 := F1'.trans F2
        obtain ⟨z1, z2⟩ := ih N h2 (i + 1) R.2.1 R.2.2.1 R.2.2.2.1 R.2.2.2.2 hN dr2 (by omega) (MA.fr F12 (by unfold pxQG pxQA; omega) (fun f => by unfold pxQG pxQA; omega)) (IQ.fb F12 (fun k f z => by unfold pxQG pxQA; omega)) (by rw [F12.m (by unfold pxQG pxQA; omega)]; exact m9) (PS.fr F12 (fun k f z => by unfold pxQG pxQA; omega)) (by rw [F12.m (by unfold pxQG pxQA; omega)]; exact m6) (by rw [F12.t]; exact t5) G2 (B1.fr F2 (fun k f _ _ => by unfold pxQG pxQA; omega))
        have e3 : pxJ ((i + 1 : Nat) : Int) = pxJ i + 1 := by
          rw [show ((i + 1 : Nat) : Int) = (i : Int) + 1 by omega, ← pxJ_add]
          rfl
        rw [e2, ← e3]
        refine ⟨fun z => ?_, fun z => ?_⟩
        · obtain ⟨h', e, F3, G3⟩ := z1 z
          exact ⟨h', e, F12.trans F3, G3⟩
        · obtain ⟨h', e, bd, q1, q2⟩ := z2 z
          exact ⟨h', e, ⟨F12.trans bd.1, bd.2⟩, q1, q2⟩
      · rw [if_pos (show R.1 ≠ 0 from r0)]
        obtain ⟨h2, e2, bd, q1, q2⟩ := y2 r0
        exact ⟨fun z => absurd z r0, fun _ => ⟨h2, e2, ⟨F1'.trans bd.1, bd.2⟩, q1, q2⟩⟩
def pxQH : Nat → Nat → Prop := fun k f => pxQG k f ∨ (k = 559 ∧ f = 11) ∨ k = 570 ∨ (538 ≤ k ∧ k ≤ 558)
/-- a group's order -/
def pxGp (s : List Int) (p : Int) (ps : List Int) (f l came : Int) (T : pxTx) (S : pxSto) (rep : Bool) : pxRes := pxMets s ps (pxMetL s (pxAc s p) (pxWh s p).2.1 (pxSub T.1 f l)) came T S rep
theorem s_X10_doGroup {h : jw_H} {k : Nat} {p f l cnt came : Int} {ps : List Int} {T : pxTx} {S : pxSto} {rep : Bool} (C : pxOC h b s k p) (cc : pxAc s p = 103 ∨ pxAc s p = 71 ∨ pxAc s p = 123) (IQ : pxIQ h b s (k + 1) ps) (m9 : pxM h (12 + 4 * k) 9 = ((k + 1 + ps.length : Nat) : Int)) (m6 : pxM h 10 6 = cnt) (c60 : cnt ≤ 60) (kc : ((k + 1 + ps.length : Nat) : Int) ≤ cnt) (Rn : pxRn h f l) (f1 : 1 ≤ f) (fl : f ≤ l + 1) (l1 : l ≤ T.1.length) (B : pxSSX h 538) (G : pxGS nB h T S rep came) :
    ((pxGp s p ps f l came T S rep).1 = 0 → ∃ h', f_X10_doGroup h 559 (some (12 + 4 * k)) (pxJ k) = some (pxJ 0, h') ∧ pxF pxQH h h' ∧ pxSSX h' 538 ∧ pxGS nB h' (pxGp s p ps f l came T S rep).2.2.1 (pxGp s p ps f l came T S rep).2.2.2.1 (pxGp s p ps f l came T S rep).2.2.2.2 (pxGp s p ps f l came T S rep).2.1) ∧
    ((pxGp s p ps f l came T S rep).1 ≠ 0 → ∃ h', f_X10_doGroup h 559 (some (12 + 4 * k)) (pxJ k) = some (pxJ (pxGp s p ps f l came T S rep).1, h') ∧ pxF pxQH h h' ∧ pxSSX h' 538 ∧ ((∃ rep', pxAux h' rep') ∧ (∃ T', pxIX h' T') ∧ pxIY h' S) ∧ 0 ≤ (pxGp s p ps f l came T S rep).1 ∧ (pxGp s p ps f l came T S rep).1 ≤ 7) := by
  obtain ⟨hb, hi, PG, O, okw, oka, m7, p0, p1⟩ := id C
  obtain ⟨A, I, Y, IV, IS, m15, ca0, ca1, nb⟩ := id G
  have PS := PG.1
  have t5 := (PS.2.2.2.2.2.2.2 k hi).2.1
  have ak := O.2.2.2
  have w0 := A.1.1
  have w2 := A.1.2.2.2.1
  have w3 := A.1.2.2.2.2.1
  have okp : pxAc s p ≠ 123 → (pxPat s ((pxWh s p).2.1 + 2)).1 = true := fun z => by
    rcases oka with q | q | q
    · exact absurd q z
    · have lt := pxP_lt (s := s) (p := (pxWh s p).2.1) (by omega)
      have := ((pxPtn_b (s := s) (p := (pxWh s p).2.1 + 1) (by omega) (by omega)).2.2 q.2).2.1
      rw [show (pxWh s p).2.1 + 1 + 1 = (pxWh s p).2.1 + 2 by omega] at this
      exact this
    · exact absurd (show pxP s (pxWh s p).2.1 = 123 ∨ pxP s (pxWh s p).2.1 = 103 ∨ pxP s (pxWh s p).2.1 = 71 by unfold pxAc at cc; omega) q.1
  obtain ⟨h1, v1, F1, MA⟩ := s_X10_meet (c := pxAc s p) (pa := (pxWh s p).2.1) (oo := 12 + 4 * k) (by omega) f1 fl l1 (by omega) okp A.1 A.2.1 PS m7 Rn I t5 ak.1 (fun z => ak.2.2.2.1 (by unfold pxAc at z cc; omega))
  have F1' : pxF pxQH h h1 := F1.mono (fun k f z => by unfold pxQ11 pxQx at z; unfold pxQH pxQG pxQA; omega)
  have G1 := G.fr F1 (fun k f z => by unfold pxQ11 pxQx; omega)
  obtain ⟨a, h2, e2, F2, B2⟩ := s_X8_copy (h := h1) (s := 538) (s2 := 261) (B.fr F1 (fun k f _ _ => by unfold pxQ11 pxQx; omega)) (hl := S.1) (ou := S.2.1) (fl := S.2.2) G1.2.2.1 (by omega)
  have F2' : pxF pxQH h1 h2 := F2.mono (fun k f z => by unfold pxC at z; unfold pxQH; omega)
  have F12 : pxF pxQH h h2 := F1'.trans F2'
  have G2 := G1.fr F2 (fun k f z => by unfold pxC; omega)
  have w01 := G1.1.1.1
  have w21 := G1.1.1.2.2.2.1
  have w31 := G1.1.1.2.2.2.2.1
  have t8 := B.1.1
  have t81 : (jw_t h1 538).1 = 8 := by rw [F1.t]; exact t8
  obtain ⟨y1, y2⟩ := s_X10_doGroup_b18 (b := b) (s := s) (S0 := S) (k := k) (cnt := cnt) (met := pxMetL s (pxAc s p) (pxWh s p).2.1 (pxSub T.1 f l)) (ps := ps) hi c60 kc (pxMetL s (pxAc s p) (pxWh s p).2.1 (pxSub T.1 f l)) jw_FU h2 0 came T S rep (by have := MA.2.1; unfold jw_FU; omega) rfl (by omega) (MA.fr F2 (by unfold pxC; omega) (fun f => by unfold pxC; omega)) (IQ.fb F12 (fun k f z => by unfold pxQH pxQG pxQA; omega)) (by rw [F12.m (by unfold pxQH pxQG pxQA; omega)]; exact m9) (PS.fr F12 (fun k f z => by unfold pxQH pxQG pxQA; omega)) (by rw [F12.m (by unfold pxQH pxQG pxQA; omega)]; exact m6) (by rw [F12.t]; exact t5) G2 B2
  have st : f_X10_doGroup h 559 (some (12 + 4 * k)) (pxJ k) = f_X10_doGroup_b18 jw_FU h2 559 (some (12 + 4 * k)) (pxJ k) (pxJ ((0 : Nat) : Int)) := by
    unfold f_X10_doGroup
    clear y1 y2 G1 G2 B2 MA G IQ C
    simp (maxSteps := 4000000) (disch := first | assumption | omega | (simp only [jw_t_I, px_cpt]; done) | (simp only [jw_t_I, px_cpt]; omega)) only [pxL0, pxL1, pxL2, pxL3, pxL4, pxL5, pxL6, pxL7, pxL8, pxL9, pxL10, pxL11, pxL12, pxL13, pxL14, pxL15, pxL16, pxL17, pxL18, pxL19, pxL20, pxL21, pxL22, pxL23, pxL24, pxL25, pxL26, pxL27, pxL28, pxL29, pxL30, pxL31, pxL32, pxL33, pxL34, pxL35, pxL36, pxL37, pxL38, pxL39, pxL40, pxL41, pxL42, pxL43, pxL44, pxL45, pxL46, pxL47, pxL48, pxL49, pxL51, pxL57, pxL58, pxL59, pxL60, pxL61, pxL62, pxL63, pxL64, pxL65, pxL66, pxL67, pxL68, pxL69, pxL70, pxL71, pxL72, pxL73, pxL74, pxL75, pxL76, pxL77, pxL78, pxL79, pxL80, pxL81, pxL82, pxL83, pxL84, pxL85, pxL86, pxL87, pxL88, pxL89, pxL90, pxL91, pxL92, pxL93, pxL94, pxL95, pxL96, pxL97, pxL98, pxL99, pxL100, pxL101, pxL102, pxL103, pxL104, pxL105, pxL106, pxL107, pxL108, pxL109, pxL110, pxL111, pxL112, pxL113, pxL114, pxL115, pxL116, pxL117, pxL118, pxL119, pxL120, pxL121, pxL122, pxL123, pxL124, pxL125, pxL126, pxL200, pxL240, pxL287, pxL388, pxL400, pxL429, pxL431, pxL440, pxL1240, pxL1600, pxL1681, pxL12028, pxL13849, pxL14880, pxL25173, pxL26908, pxL49600, pxL65535, pxL65536, ↓reduceIte, reduceCtorEq, pxJ_add, pxJ_sub, pxJ_mul, pxJ_neg, pxD_lt_t, pxD_lt_f, pxD_le_t, pxD_le_f, pxD_eq_t, pxD_eq_f, pxJ_lt, pxJ_le, pxJ_eq, px_gI, px_gR, px_pI, px_rc, px_ai, px_ar, px_si, px_ln, px_cp, pxJ_div, pxJ_b8, pxJ_byte, px_b2, px_bs, px_rb0, px_rb1, px_min, px_max, px_compare, pxW_some, jw_t_I, px_cpt, jw_r_I, px_cpr, jw_l_I, px_cpl, Option.some.injEq, w0, v1, w01, w21, w31, t81, e2]
    rfl
  rw [st]
  show ((pxMets s ps (pxMetL s (pxAc s p) (pxWh s p).2.1 (pxSub T.1 f l)) came T S rep).1 = 0 → _) ∧ _
  refine ⟨fun z => ?_, fun z => ?_⟩
  · obtain ⟨h', e, F3, G3⟩ := y1 z
    exact ⟨h', e, F12.trans (F3.mono (fun k f z => Or.inl z)), (pxIS.sx B2).fr F3 (fun k f _ _ => by unfold pxQG pxQA; omega), G3⟩
  · obtain ⟨h', e, bd, q1, q2⟩ := y2 z
    exact ⟨h', e, F12.trans (bd.1.mono (fun k f z => Or.inl z)), (pxIS.sx B2).fr bd.1 (fun k f _ _ => by unfold pxQG pxQA; omega), bd.2, q1, q2⟩
end
