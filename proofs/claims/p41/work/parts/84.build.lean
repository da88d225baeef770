/-! changing rows: what is built -/
def pxHS (h : jw_H) : Prop := (jw_t h 536).1 = 2 ∧ jw_r h 536 0 = some 10 ∧ jw_r h 536 1 = some 531 ∧ jw_r h 536 2 = some 537 ∧ jw_t h 537 = (21, 30)
theorem pxHS.fr {P : Nat → Nat → Prop} {h h' : jw_H} (H : pxHS h) (F : pxF P h h') (hP : ∀ f, f < 3 → ¬ P 536 f) : pxHS h' := by
  obtain ⟨a1, a2, a3, a4, a5⟩ := H
  exact ⟨by rw [F.t]; exact a1, by rw [F.r (hP _ (by omega))]; exact a2, by rw [F.r (hP _ (by omega))]; exact a3, by rw [F.r (hP _ (by omega))]; exact a4, by rw [F.t]; exact a5⟩
/-- w was built, or is too long -/
def pxBu (h : jw_H) (w : List Int) : Prop := pxHS h ∧ (∀ c ∈ w, pxCh c) ∧ (w.length ≤ 30 → pxM h 536 4 = 0 ∧ pxM h 536 3 = w.length ∧ ∀ j : Int, 0 ≤ j → j < w.length → pxM h 537 j.toNat = pxE w j) ∧ (30 < w.length → pxM h 536 4 = 1 ∧ 0 ≤ pxM h 536 3 ∧ pxM h 536 3 ≤ 30)
theorem pxBu.fr {P : Nat → Nat → Prop} {h h' : jw_H} {w : List Int} (H : pxBu h w) (F : pxF P h h') (hP : ∀ k f, (k = 536 ∧ f < 5) ∨ k = 537 → ¬ P k f) : pxBu h' w :=
  ⟨H.1.fr F (fun f z => hP _ _ (by omega)), H.2.1, fun z => ⟨by rw [F.m (hP _ _ (by omega))]; exact (H.2.2.1 z).1, by rw [F.m (hP _ _ (by omega))]; exact (H.2.2.1 z).2.1, fun j j0 j1 => by rw [F.m (hP _ _ (by omega))]; exact (H.2.2.1 z).2.2 j j0 j1⟩, fun z => ⟨by rw [F.m (hP _ _ (by omega))]; exact (H.2.2.2 z).1, by rw [F.m (hP _ _ (by omega))]; exact (H.2.2.2 z).2⟩⟩
def pxQc : Nat → Nat → Prop := fun k f => k = 537 ∨ (k = 536 ∧ 3 ≤ f ∧ f ≤ 4)
/-- signs a to b of a row -/
def pxSl (r : List Int) (a b : Int) : List Int := (r.drop a.toNat).take (b - a).toNat
theorem pxSl_len {r : List Int} {a b : Int} (h0 : 0 ≤ a) (h1 : a ≤ b) (h2 : b ≤ r.length) : ((pxSl r a b).length : Int) = b - a := by
  unfold pxSl; rw [List.length_take, List.length_drop]; omega
theorem pxSl_at {r : List Int} {a b y : Int} (h0 : 0 ≤ a) (h1 : 0 ≤ y) (h2 : y < b - a) : pxE (pxSl r a b) y = pxE r (a + y) := by
  unfold pxSl
  rw [pxE_take h2 h1, pxE_drop2 h1 h0, Int.add_comm]
theorem pxSl_mem {r : List Int} {a b c : Int} (h : c ∈ pxSl r a b) : c ∈ r := List.mem_of_mem_drop (List.mem_of_mem_take h)
section
variable {h : jw_H} {w r : List Int}
theorem s_X2_append {c : Int} (B : pxBu h w) (hc : pxCh c) : ∃ h', f_X2_append h 536 (pxJ c) = some ((), h') ∧ pxF pxQc h h' ∧ pxBu h' (w ++ [c]) := by
  have B' := B
  obtain ⟨⟨t0, r0, r1, r2, t537⟩, ok, b1, b2⟩ := B
  have ci := pxCh_in hc
  have ln : jw_ln h (some 537) = some (pxJ 30) := by rw [px_ln (by rw [t537]; simp), t537]; rfl
  have ok2 : ∀ d ∈ w ++ [c], pxCh d := fun d hd => by
    rcases List.mem_append.mp hd with hd | hd
    · exact ok d hd
    · rw [List.mem_singleton.mp hd]; exact hc
  have b8 : vp_nar .byte (pxJ c).toInt8.toInt32 = pxJ c := by rw [pxJ_b8 (by omega) (by omega), pxJ_byte (by omega) (by omega)]
  have lw : (w ++ [c]).length = w.length + 1 := by simp
  have wr : ∀ z : Int, pxM h 536 3 = z → 0 ≤ z → z < 30 → ∃ h', f_X2_append h 536 (pxJ c) = some ((), h') ∧ h' = jw_setI (jw_setI h 537 z.toNat (pxJ c)) 536 3 (pxJ (z + 1)) := by
    intro z ez z0 z1
    refine ⟨_, ?_, rfl⟩
    have si : jw_si h 21 (some 537) (pxJ z) (pxJ c) = some (jw_setI h 537 z.toNat (pxJ c)) := px_si (by rw [t537]) z0 (by rw [t537]; show z < ((30 : Nat) : Int); omega) (by omega)
    have t02 : (jw_t (jw_setI h 537 z.toNat (pxJ c)) 536).1 = 2 := t0
    have m3 : pxM (jw_setI h 537 z.toNat (pxJ c)) 536 3 = z := by rw [pxM_ne (by omega)]; exact ez
    unfold f_X2_append
    simp (maxSteps := 4000000) (disch := first | assumption | omega | (simp only [jw_t_I, px_cpt]; done) | (simp only [jw_t_I, px_cpt]; omega)) only [pxL0, pxL1, pxL2, pxL3, pxL4, pxL5, pxL6, pxL7, pxL8, pxL9, pxL10, pxL11, pxL12, pxL13, pxL14, pxL15, pxL16, pxL17, pxL18, pxL19, pxL20, pxL21, pxL22, pxL23, pxL24, pxL25, pxL26, pxL27, pxL28, pxL29, pxL30, pxL31, pxL32, pxL33, pxL34, pxL35, pxL36, pxL37, pxL38, pxL39, pxL40, pxL41, pxL42, pxL43, pxL44, pxL45, pxL46, pxL47, pxL48, pxL49, pxL51, pxL57, pxL58, pxL59, pxL60, pxL61, pxL62, pxL63, pxL64, pxL65, pxL66, pxL67, pxL68, pxL69, pxL70, pxL71, pxL72, pxL73, pxL74, pxL75, pxL76, pxL77, pxL78, pxL79, pxL80, pxL81, pxL82, pxL83, pxL84, pxL85, pxL86, pxL87, pxL88, pxL89, pxL90, pxL91, pxL92, pxL93, pxL94, pxL95, pxL96, pxL97, pxL98, pxL99, pxL100, pxL101, pxL102, pxL103, pxL104, pxL105, pxL106, pxL107, pxL108, pxL109, pxL110, pxL111, pxL112, pxL113, pxL114, pxL115, pxL116, pxL117, pxL118, pxL119, pxL120, pxL121, pxL122, pxL123, pxL124, pxL125, pxL126, pxL200, pxL240, pxL287, pxL388, pxL400, pxL429, pxL431, pxL440, pxL1240, pxL1600, pxL1681, pxL12028, pxL13849, pxL14880, pxL25173, pxL26908, pxL49600, pxL65535, pxL65536, ↓reduceIte, reduceCtorEq, pxJ_add, pxJ_sub, pxJ_mul, pxJ_neg, pxD_lt_t, pxD_lt_f, pxD_le_t, pxD_le_f, pxD_eq_t, pxD_eq_f, pxJ_lt, pxJ_le, pxJ_eq, px_gI, px_gR, px_pI, px_rc, px_ai, px_ar, px_si, px_ln, px_cp, pxJ_div, pxJ_b8, pxJ_byte, px_b2, px_bs, px_rb0, px_rb1, px_min, px_max, px_compare, pxW_some, jw_t_I, px_cpt, jw_r_I, px_cpr, jw_l_I, px_cpl, Option.some.injEq, t0, ez, r2, ln, b8, si, m3]
  have full : ∀ z : Int, pxM h 536 3 = z → z = 30 → f_X2_append h 536 (pxJ c) = some ((), jw_setI h 536 4 (pxJ 1)) := by
    intro z ez z1
    unfold f_X2_append g_X2_append_b43
    simp (maxSteps := 4000000) (disch := first | assumption | omega | (simp only [jw_t_I, px_cpt]; done) | (simp only [jw_t_I, px_cpt]; omega)) only [pxL0, pxL1, pxL2, pxL3, pxL4, pxL5, pxL6, pxL7, pxL8, pxL9, pxL10, pxL11, pxL12, pxL13, pxL14, pxL15, pxL16, pxL17, pxL18, pxL19, pxL20, pxL21, pxL22, pxL23, pxL24, pxL25, pxL26, pxL27, pxL28, pxL29, pxL30, pxL31, pxL32, pxL33, pxL34, pxL35, pxL36, pxL37, pxL38, pxL39, pxL40, pxL41, pxL42, pxL43, pxL44, pxL45, pxL46, pxL47, pxL48, pxL49, pxL51, pxL57, pxL58, pxL59, pxL60, pxL61, pxL62, pxL63, pxL64, pxL65, pxL66, pxL67, pxL68, pxL69, pxL70, pxL71, pxL72, pxL73, pxL74, pxL75, pxL76, pxL77, pxL78, pxL79, pxL80, pxL81, pxL82, pxL83, pxL84, pxL85, pxL86, pxL87, pxL88, pxL89, pxL90, pxL91, pxL92, pxL93, pxL94, pxL95, pxL96, pxL97, pxL98, pxL99, pxL100, pxL101, pxL102, pxL103, pxL104, pxL105, pxL106, pxL107, pxL108, pxL109, pxL110, pxL111, pxL112, pxL113, pxL114, pxL115, pxL116, pxL117, pxL118, pxL119, pxL120, pxL121, pxL122, pxL123, pxL124, pxL125, pxL126, pxL200, pxL240, pxL287, pxL388, pxL400, pxL429, pxL431, pxL440, pxL1240, pxL1600, pxL1681, pxL12028, pxL13849, pxL14880, pxL25173, pxL26908, pxL49600, pxL65535, pxL65536, ↓reduceIte, reduceCtorEq, pxJ_add, pxJ_sub, pxJ_mul, pxJ_neg, pxD_lt_t, pxD_lt_f, pxD_le_t, pxD_le_f, pxD_eq_t, pxD_eq_f, pxJ_lt, pxJ_le, pxJ_eq, px_gI, px_gR, px_pI, px_rc, px_ai, px_ar, px_si, px_ln, px_cp, pxJ_div, pxJ_b8, pxJ_byte, px_b2, px_bs, px_rb0, px_rb1, px_min, px_max, px_compare, pxW_some, jw_t_I, px_cpt, jw_r_I, px_cpr, jw_l_I, px_cpl, Option.some.injEq, t0, ez, r2, ln, px_pB1]
  have Fw : ∀ z : Int, pxF pxQc h (jw_setI (jw_setI h 537 z.toNat (pxJ c)) 536 3 (pxJ (z + 1))) := fun z => (pxF.setI (by unfold pxQc; omega)).trans (pxF.setI (by unfold pxQc; omega))
  by_cases c1 : w.length ≤ 30
  · obtain ⟨m4, m3, mb⟩ := b1 c1
    by_cases c2 : w.length < 30
    · obtain ⟨h', e, eh⟩ := wr w.length m3 (by omega) (by omega)
      subst eh
      refine ⟨_, e, Fw _, B'.1.fr (Fw _) (fun f z => by unfold pxQc; omega), ok2, fun _ => ⟨?_, ?_, fun j j0 j1 => ?_⟩, fun z => by omega⟩
      · simp (disch := omega) only [pxM_ne, pxM_eq, pxPl_p, pxPl_n]
        exact m4
      · rw [pxM_eq (by omega) (by omega), lw]; omega
      · rw [pxM_ne (by omega)]
        by_cases ej : j = w.length
        · subst ej
          rw [pxM_eq (by omega) (by omega), pxE_app2 (by omega), show (w.length : Int) - w.length = 0 by omega]
          rfl
        · rw [pxM_ne (by omega), pxE_app1 j0 (by omega)]
          exact mb j j0 (by omega)
    · have e := full w.length m3 (by omega)
      have F : pxF pxQc h (jw_setI h 536 4 (pxJ 1)) := pxF.setI (by unfold pxQc; omega)
      refine ⟨_, e, F, B'.1.fr F (fun f z => by unfold pxQc; omega), ok2, fun z => by omega, fun _ => ⟨?_, ?_, ?_⟩⟩
      · simp (disch := omega) only [pxM_ne, pxM_eq, pxPl_p, pxPl_n]
      · simp (disch := omega) only [pxM_ne, pxM_eq, pxPl_p, pxPl_n]
        omega
      · simp (disch := omega) only [pxM_ne, pxM_eq, pxPl_p, pxPl_n]
        omega
  · obtain ⟨m4, m30, m31⟩ := b2 (by omega)
    by_cases c2 : pxM h 536 3 < 30
    · obtain ⟨h', e, eh⟩ := wr (pxM h 536 3) rfl (by omega) (by omega)
      subst eh
      refine ⟨_, e, Fw _, B'.1.fr (Fw _) (fun f z => by unfold pxQc; omega), ok2, fun z => by omega, fun _ => ⟨?_, ?_, ?_⟩⟩
      · simp (disch := omega) only [pxM_ne, pxM_eq, pxPl_p, pxPl_n]
        exact m4
      · rw [pxM_eq (by omega) (by omega)]; omega
      · rw [pxM_eq (by omega) (by omega)]; omega
    · have e := full (pxM h 536 3) rfl (by omega)
      have F : pxF pxQc h (jw_setI h 536 4 (pxJ 1)) := pxF.setI (by unfold pxQc; omega)
      refine ⟨_, e, F, B'.1.fr F (fun f z => by unfold pxQc; omega), ok2, fun z => by omega, fun _ => ⟨?_, ?_, ?_⟩⟩
      · simp (disch := omega) only [pxM_ne, pxM_eq, pxPl_p, pxPl_n]
      · simp (disch := omega) only [pxM_ne, pxM_eq, pxPl_p, pxPl_n]
        omega
      · simp (disch := omega) only [pxM_ne, pxM_eq, pxPl_p, pxPl_n]
        omega
theorem s_X2_appendRow {a b : Int} (B : pxBu h w) (T : pxMT h r) (a0 : 0 ≤ a) (ab : a ≤ b) (b1 : b ≤ r.length) : ∃ h', f_X2_appendRow h 536 (pxJ a) (pxJ b) = some ((), h') ∧ pxF pxQc h h' ∧ pxBu h' (w ++ pxSl r a b) := by
  have B' := B
  obtain ⟨⟨t0, r0, r1, r2, t537⟩, ok, b1', b2⟩ := B
  obtain ⟨⟨m0, q0, q1, q2, q3, q4, t532, t533, t534, t535⟩, okr, m5, mr⟩ := T
  have l30 := okr.1
  have ln : jw_ln h (some 537) = some (pxJ 30) := by rw [px_ln (by rw [t537]; simp), t537]; rfl
  have ln2 : jw_ln h (some 532) = some (pxJ 30) := by rw [px_ln (by rw [t532]; simp), t532]; rfl
  have sl := pxSl_len (r := r) a0 ab b1
  have ok2 : ∀ d ∈ w ++ pxSl r a b, pxCh d := fun d hd => by
    rcases List.mem_append.mp hd with hd | hd
    · exact ok d hd
    · exact okr.2 d (pxSl_mem hd)
  have lw : ((w ++ pxSl r a b).length : Int) = w.length + (b - a) := by rw [List.length_append]; omega
  have wr : ∀ z : Int, pxM h 536 3 = z → 0 ≤ z → z + (b - a) ≤ 30 → f_X2_appendRow h 536 (pxJ a) (pxJ b) = some ((), jw_setI (px_cpH h 532 a.toNat 537 z.toNat (b - a).toNat) 536 3 (pxJ (z + (b - a)))) := by
    intro z ez z0 z1
    have cp : jw_cp h 21 (some 532) (pxJ a) (some 537) (pxJ z) (pxJ (b - a)) = some (px_cpH h 532 a.toNat 537 z.toNat (b - a).toNat) := px_cp (by rw [t532]) (by rw [t537]) a0 z0 (by omega) (by rw [t532]; show a + (b - a) ≤ ((30 : Nat) : Int); omega) (by rw [t537]; show z + (b - a) ≤ ((30 : Nat) : Int); omega) (by omega) (by omega)
    have m3 : pxM (px_cpH h 532 a.toNat 537 z.toNat (b - a).toNat) 536 3 = z := by rw [px_cpM_ne (by omega)]; exact ez
    have t02 : (jw_t (px_cpH h 532 a.toNat 537 z.toNat (b - a).toNat) 536).1 = 2 := t0
    unfold f_X2_appendRow
    simp (maxSteps := 4000000) (disch := first | assumption | omega | (simp only [jw_t_I, px_cpt]; done) | (simp only [jw_t_I, px_cpt]; omega)) only [pxL0, pxL1, pxL2, pxL3, pxL4, pxL5, pxL6, pxL7, pxL8, pxL9, pxL10, pxL11, pxL12, pxL13, pxL14, pxL15, pxL16, pxL17, pxL18, pxL19, pxL20, pxL21, pxL22, pxL23, pxL24, pxL25, pxL26, pxL27, pxL28, pxL29, pxL30, pxL31, pxL32, pxL33, pxL34, pxL35, pxL36, pxL37, pxL38, pxL39, pxL40, pxL41, pxL42, pxL43, pxL44, pxL45, pxL46, pxL47, pxL48, pxL49, pxL51, pxL57, pxL58, pxL59, pxL60, pxL61, pxL62, pxL63, pxL64, pxL65, pxL66, pxL67, pxL68, pxL69, pxL70, pxL71, pxL72, pxL73, pxL74, pxL75, pxL76, pxL77, pxL78, pxL79, pxL80, pxL81, pxL82, pxL83, pxL84, pxL85, pxL86, pxL87, pxL88, pxL89, pxL90, pxL91, pxL92, pxL93, pxL94, pxL95, pxL96, pxL97, pxL98, pxL99, pxL100, pxL101, pxL102, pxL103, pxL104, pxL105, pxL106, pxL107, pxL108, pxL109, pxL110, pxL111, pxL112, pxL113, pxL114, pxL115, pxL116, pxL117, pxL118, pxL119, pxL120, pxL121, pxL122, pxL123, pxL124, pxL125, pxL126, pxL200, pxL240, pxL287, pxL388, pxL400, pxL429, pxL431, pxL440, pxL1240, pxL1600, pxL1681, pxL12028, pxL13849, pxL14880, pxL25173, pxL26908, pxL49600, pxL65535, pxL65536, ↓reduceIte, reduceCtorEq, pxJ_add, pxJ_sub, pxJ_mul, pxJ_neg, pxD_lt_t, pxD_lt_f, pxD_le_t, pxD_le_f, pxD_eq_t, pxD_eq_f, pxJ_lt, pxJ_le, pxJ_eq, px_gI, px_gR, px_pI, px_rc, px_ai, px_ar, px_si, px_ln, px_cp, pxJ_div, pxJ_b8, pxJ_byte, px_b2, px_bs, px_rb0, px_rb1, px_min, px_max, px_compare, pxW_some, jw_t_I, px_cpt, jw_r_I, px_cpr, jw_l_I, px_cpl, Option.some.injEq, t0, r1, m0, q1, ln2, ez, r2, ln, cp, m3]
  have full : ∀ z : Int, pxM h 536 3 = z → 0 ≤ z → z ≤ 30 → 30 < z + (b - a) → f_X2_appendRow h 536 (pxJ a) (pxJ b) = some ((), jw_setI h 536 4 (pxJ 1)) := by
    intro z ez z0 z1 z2
    unfold f_X2_appendRow g_X2_appendRow_b46
    simp (maxSteps := 4000000) (disch := first | assumption | omega | (simp only [jw_t_I, px_cpt]; done) | (simp only [jw_t_I, px_cpt]; omega)) only [pxL0, pxL1, pxL2, pxL3, pxL4, pxL5, pxL6, pxL7, pxL8, pxL9, pxL10, pxL11, pxL12, pxL13, pxL14, pxL15, pxL16, pxL17, pxL18, pxL19, pxL20, pxL21, pxL22, pxL23, pxL24, pxL25, pxL26, pxL27, pxL28, pxL29, pxL30, pxL31, pxL32, pxL33, pxL34, pxL35, pxL36, pxL37, pxL38, pxL39, pxL40, pxL41, pxL42, pxL43, pxL44, pxL45, pxL46, pxL47, pxL48, pxL49, pxL51, pxL57, pxL58, pxL59, pxL60, pxL61, pxL62, pxL63, pxL64, pxL65, pxL66, pxL67, pxL68, pxL69, pxL70, pxL71, pxL72, pxL73, pxL74, pxL75, pxL76, pxL77, pxL78, pxL79, pxL80, pxL81, pxL82, pxL83, pxL84, pxL85, pxL86, pxL87, pxL88, pxL89, pxL90, pxL91, pxL92, pxL93, pxL94, pxL95, pxL96, pxL97, pxL98, pxL99, pxL100, pxL101, pxL102, pxL103, pxL104, pxL105, pxL106, pxL107, pxL108, pxL109, pxL110, pxL111, pxL112, pxL113, pxL114, pxL115, pxL116, pxL117, pxL118, pxL119, pxL120, pxL121, pxL122, pxL123, pxL124, pxL125, pxL126, pxL200, pxL240, pxL287, pxL388, pxL400, pxL429, pxL431, pxL440, pxL1240, pxL1600, pxL1681, pxL12028, pxL13849, pxL14880, pxL25173, pxL26908, pxL49600, pxL65535, pxL65536, ↓reduceIte, reduceCtorEq, pxJ_add, pxJ_sub, pxJ_mul, pxJ_neg, pxD_lt_t, pxD_lt_f, pxD_le_t, pxD_le_f, pxD_eq_t, pxD_eq_f, pxJ_lt, pxJ_le, pxJ_eq, px_gI, px_gR, px_pI, px_rc, px_ai, px_ar, px_si, px_ln, px_cp, pxJ_div, pxJ_b8, pxJ_byte, px_b2, px_bs, px_rb0, px_rb1, px_min, px_max, px_compare, pxW_some, jw_t_I, px_cpt, jw_r_I, px_cpr, jw_l_I, px_cpl, Option.some.injEq, t0, r1, m0, q1, ln2, ez, r2, ln, px_pB1]
  have Fw : ∀ z : Int, pxF pxQc h (jw_setI (px_cpH h 532 a.toNat 537 z.toNat (b - a).toNat) 536 3 (pxJ (z + (b - a)))) := fun z => (pxF.cpH (fun f _ _ => by unfold pxQc; omega)).trans (pxF.setI (by unfold pxQc; omega))
  have Ff : pxF pxQc h (jw_setI h 536 4 (pxJ 1)) := pxF.setI (by unfold pxQc; omega)
  by_cases c1 : w.length ≤ 30
  · obtain ⟨m4, m3, mb⟩ := b1' c1
    by_cases c2 : w.length + (b - a) ≤ 30
    · refine ⟨_, wr w.length m3 (by omega) c2, Fw _, B'.1.fr (Fw _) (fun f z => by unfold pxQc; omega), ok2, fun _ => ⟨?_, ?_, fun j j0 j1 => ?_⟩, fun z => by omega⟩
      · rw [pxM_ne (by omega), px_cpM_ne (by omega)]; exact m4
      · rw [pxM_eq (by omega) (by omega), lw]
      · rw [pxM_ne (by omega)]
        by_cases ej : j < w.length
        · rw [px_cpM_out (by omega) j0 (Or.inl ej), pxE_app1 j0 ej]
          exact mb j j0 ej
        · rw [px_cpM_in (by omega) (by omega) (by omega) a0, pxE_app2 (by omega), pxSl_at a0 (by omega) (by omega), (mr _ (by omega) (by omega)).1]
          rw [Int.add_comm]
    · refine ⟨_, full w.length m3 (by omega) (by omega) (by omega), Ff, B'.1.fr Ff (fun f z => by unfold pxQc; omega), ok2, fun z => by omega, fun _ => ⟨?_, ?_, ?_⟩⟩
      · simp (disch := omega) only [pxM_ne, pxM_eq, pxPl_p, pxPl_n]
      · simp (disch := omega) only [pxM_ne, pxM_eq, pxPl_p, pxPl_n]
        omega
      · simp (disch := omega) only [pxM_ne, pxM_eq, pxPl_p, pxPl_n]
        omega
  · obtain ⟨m4, m30, m31⟩ := b2 (by omega)
    by_cases c2 : pxM h 536 3 + (b - a) ≤ 30
    · refine ⟨_, wr (pxM h 536 3) rfl (by omega) c2, Fw _, B'.1.fr (Fw _) (fun f z => by unfold pxQc; omega), ok2, fun z => by omega, fun _ => ⟨?_, ?_, ?_⟩⟩
      · rw [pxM_ne (by omega), px_cpM_ne (by omega)]; exact m4
      · rw [pxM_eq (by omega) (by omega)]; omega
      · rw [pxM_eq (by omega) (by omega)]; omega
    · refine ⟨_, full (pxM h 536 3) rfl (by omega) (by omega) (by omega), Ff, B'.1.fr Ff (fun f z => by unfold pxQc; omega), ok2, fun z => by omega, fun _ => ⟨?_, ?_, ?_⟩⟩
      · simp (disch := omega) only [pxM_ne, pxM_eq, pxPl_p, pxPl_n]
      · simp (disch := omega) only [pxM_ne, pxM_eq, pxPl_p, pxPl_n]
        omega
      · simp (disch := omega) only [pxM_ne, pxM_eq, pxPl_p, pxPl_n]
        omega
theorem pxMT.fc {h h' : jw_H} {r : List Int} (T : pxMT h r) (F : pxF pxQc h h') : pxMT h' r := T.fr F (fun k f z => by unfold pxQc; omega)
end
