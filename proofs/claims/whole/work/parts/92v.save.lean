/-! the reference: text and stores saved, and brought back -/
theorem pyV.less {P Q : Nat → Nat → Prop} {h h' : jw_H} (V : pyV P h h') (e : ∀ k f, P k f → ¬ Q k f → pxM h' k f = pxM h k f) : pyV Q h h' :=
  ⟨V.1, V.2.1, V.2.2.1, V.2.2.2.1, V.2.2.2.2.1, V.2.2.2.2.2.1, fun k f nq => by
    by_cases hp : P k f
    · exact e k f hp nq
    · exact V.m hp⟩
set_option maxHeartbeats 8000000 in
theorem n_save_b84 {h0 : jw_H} {Q : Unit → jw_H → Prop} (hQ : ∀ h1, pyV (fun k f => (k = 607 ∧ 0 ≤ f ∧ f < 4) ∨ (k = 587 ∧ (f = 50 ∨ f = 51 ∨ f = 52 ∨ f = 53 ∨ f = 54))) h0 h1 → (∀ j : Int, 0 ≤ j → j < 4 → pxM h1 607 j.toNat = pxM h0 597 j.toNat) → pxM h1 587 50 = pxM h0 587 12 → pxM h1 587 51 = pxM h0 587 14 → pxM h1 587 52 = pxM h0 587 15 → pxM h1 587 53 = pxM h0 587 16 → pxM h1 587 54 = pxM h0 587 17 → Q () h1) : ∀ (m N : Nat) (h : jw_H) (k : Int), k + m = 4 → 0 ≤ k → m < N → pyS h → pyV (fun k f => k = 607 ∧ 0 ≤ f ∧ f < 4) h0 h → (∀ j : Int, 0 ≤ j → j < k → pxM h 607 j.toNat = pxM h0 597 j.toNat) →
    pxW (f_X12_save_b84 N h 587 (pxJ k)) Q := by
  intro m
  induction m with
  | zero =>
    intro N h k hk k0 hN H V C
    obtain ⟨N, rfl, -⟩ := px_fu hN
    have ek : k = 4 := by omega
    rw [ek] at C
    rw [u_X12_save_b84, ek]
    unfold g_X12_save_b84
    try simp (maxSteps := 4000000) (disch := first | assumption | omega | (simp only [pyS_I]; assumption)) only [pxL0, pxL1, pxL2, pxL3, pxL4, pxL5, pxL6, pxL7, pxL8, pxL9, pxL10, pxL11, pxL12, pxL13, pxL14, pxL15, pxL16, pxL17, pxL18, pxL19, pxL20, pxL21, pxL22, pxL23, pxL24, pxL25, pxL26, pxL27, pxL28, pxL29, pxL30, pxL31, pxL32, pxL33, pxL34, pxL35, pxL36, pxL37, pxL38, pxL39, pxL40, pxL41, pxL42, pxL43, pxL44, pxL45, pxL46, pxL47, pxL48, pxL49, pxL51, pxL57, pxL58, pxL59, pxL60, pxL61, pxL62, pxL63, pxL64, pxL65, pxL66, pxL67, pxL68, pxL69, pxL70, pxL71, pxL72, pxL73, pxL74, pxL75, pxL76, pxL77, pxL78, pxL79, pxL80, pxL81, pxL82, pxL83, pxL84, pxL85, pxL86, pxL87, pxL88, pxL89, pxL90, pxL91, pxL92, pxL93, pxL94, pxL95, pxL96, pxL97, pxL98, pxL99, pxL100, pxL101, pxL102, pxL103, pxL104, pxL105, pxL106, pxL107, pxL108, pxL109, pxL110, pxL111, pxL112, pxL113, pxL114, pxL115, pxL116, pxL117, pxL118, pxL119, pxL120, pxL121, pxL122, pxL123, pxL124, pxL125, pxL126, pxL200, pxL240, pxL287, pxL388, pxL400, pxL429, pxL431, pxL440, pxL1240, pxL1600, pxL1681, pxL12028, pxL13849, pxL14880, pxL25173, pxL26908, pxL49600, pxL65535, pxL65536, ↓reduceIte, reduceCtorEq, pxJ_add, pxJ_sub, pxJ_mul, pxJ_neg, pxD_lt_t, pxD_lt_f, pxD_le_t, pxD_le_f, pxD_eq_t, pxD_eq_f, pxJ_lt, pxJ_le, pxJ_eq, pxJ_div, px_b2, px_bs, px_rb0, px_rb1, pxW_some, Option.some.injEq, pxM_eq, pxM_ne, pyN_gI, pyN_pI, pyN_rc, pyN_g1, pyN_a588, pyN_s588, pyN_g3, pyN_a589, pyN_s589, pyN_g4, pyN_a590, pyN_s590, pyN_g5, pyN_a591, pyN_s591, pyN_g6, pyN_a592, pyN_s592, pyN_g7, pyN_a593, pyN_s593, pyN_g8, pyN_a594, pyN_s594, pyN_g9, pyN_a595, pyN_s595, pyN_g10, pyN_a596, pyN_s596, pyN_g11, pyN_a597, pyN_s597, pyN_g19, pyN_a598, pyN_s598, pyN_g21, pyN_a599, pyN_s599, pyN_g31, pyN_a600, pyN_s600, pyN_g32, pyN_a601, pyN_s601, pyN_g38, pyN_a602, pyN_s602, pyN_g39, pyN_a603, pyN_s603, pyN_g46, pyN_a604, pyN_s604, pyN_g47, pyN_a605, pyN_s605, pyN_g48, pyN_a606, pyN_s606, pyN_g49, pyN_a607, pyN_s607, pyN_g55, pyN_a608, pyN_s608, pyN_g56, pyN_a609, pyN_s609, pyN_g57, pyN_a610, pyN_s610, pyN_g58, pyN_a611, pyN_s611, pyN_g59, pyN_a612, pyN_s612, pyN_g60, pyN_a613, pyN_s613, pyN_g74, pyN_a614, pyN_s614, pyN_g75, pyN_a615, pyN_s615, pyN_g76, pyN_a616, pyN_s616, pyN_g78, pyN_a617, pyN_s617, pyN_g79, pyN_a618, pyN_s618]
    apply hQ
    · exact (((((V.mono (fun k f z => Or.inl z)).set (Or.inr ⟨rfl, by omega⟩)).set (Or.inr ⟨rfl, by omega⟩)).set (Or.inr ⟨rfl, by omega⟩)).set (Or.inr ⟨rfl, by omega⟩)).set (Or.inr ⟨rfl, by omega⟩)
    · intro j j0 j1
      rw [pxM_ne (by omega), pxM_ne (by omega), pxM_ne (by omega), pxM_ne (by omega), pxM_ne (by omega)]
      exact C j j0 j1
    · have lo := pxM_lo h 587 12
      have hi := pxM_hi h 587 12
      have ev : pxM h 587 12 = pxM h0 587 12 := V.m (by omega)
      (first | omega | (simp (disch := omega) only [pxM_eq, pxM_ne, ev]; done) | (simp (disch := omega) only [pxM_eq, pxM_ne, ev]; omega))
    · have lo := pxM_lo h 587 14
      have hi := pxM_hi h 587 14
      have ev : pxM h 587 14 = pxM h0 587 14 := V.m (by omega)
      (first | omega | (simp (disch := omega) only [pxM_eq, pxM_ne, ev]; done) | (simp (disch := omega) only [pxM_eq, pxM_ne, ev]; omega))
    · have lo := pxM_lo h 587 15
      have hi := pxM_hi h 587 15
      have ev : pxM h 587 15 = pxM h0 587 15 := V.m (by omega)
      (first | omega | (simp (disch := omega) only [pxM_eq, pxM_ne, ev]; done) | (simp (disch := omega) only [pxM_eq, pxM_ne, ev]; omega))
    · have lo := pxM_lo h 587 16
      have hi := pxM_hi h 587 16
      have ev : pxM h 587 16 = pxM h0 587 16 := V.m (by omega)
      (first | omega | (simp (disch := omega) only [pxM_eq, pxM_ne, ev]; done) | (simp (disch := omega) only [pxM_eq, pxM_ne, ev]; omega))
    · have lo := pxM_lo h 587 17
      have hi := pxM_hi h 587 17
      have ev : pxM h 587 17 = pxM h0 587 17 := V.m (by omega)
      (first | omega | (simp (disch := omega) only [pxM_eq, pxM_ne, ev]; done) | (simp (disch := omega) only [pxM_eq, pxM_ne, ev]; omega))
  | succ m ih =>
    intro N h k hk k0 hN H V C
    obtain ⟨N, rfl, hN⟩ := px_fu hN
    have lo := pxM_lo h 597 k.toNat
    have hi := pxM_hi h 597 k.toNat
    have ev : pxM h 597 k.toNat = pxM h0 597 k.toNat := V.m (by omega)
    rw [u_X12_save_b84]
    unfold g_X12_save_b84
    try simp (maxSteps := 4000000) (disch := first | assumption | omega | (simp only [pyS_I]; assumption)) only [pxL0, pxL1, pxL2, pxL3, pxL4, pxL5, pxL6, pxL7, pxL8, pxL9, pxL10, pxL11, pxL12, pxL13, pxL14, pxL15, pxL16, pxL17, pxL18, pxL19, pxL20, pxL21, pxL22, pxL23, pxL24, pxL25, pxL26, pxL27, pxL28, pxL29, pxL30, pxL31, pxL32, pxL33, pxL34, pxL35, pxL36, pxL37, pxL38, pxL39, pxL40, pxL41, pxL42, pxL43, pxL44, pxL45, pxL46, pxL47, pxL48, pxL49, pxL51, pxL57, pxL58, pxL59, pxL60, pxL61, pxL62, pxL63, pxL64, pxL65, pxL66, pxL67, pxL68, pxL69, pxL70, pxL71, pxL72, pxL73, pxL74, pxL75, pxL76, pxL77, pxL78, pxL79, pxL80, pxL81, pxL82, pxL83, pxL84, pxL85, pxL86, pxL87, pxL88, pxL89, pxL90, pxL91, pxL92, pxL93, pxL94, pxL95, pxL96, pxL97, pxL98, pxL99, pxL100, pxL101, pxL102, pxL103, pxL104, pxL105, pxL106, pxL107, pxL108, pxL109, pxL110, pxL111, pxL112, pxL113, pxL114, pxL115, pxL116, pxL117, pxL118, pxL119, pxL120, pxL121, pxL122, pxL123, pxL124, pxL125, pxL126, pxL200, pxL240, pxL287, pxL388, pxL400, pxL429, pxL431, pxL440, pxL1240, pxL1600, pxL1681, pxL12028, pxL13849, pxL14880, pxL25173, pxL26908, pxL49600, pxL65535, pxL65536, ↓reduceIte, reduceCtorEq, pxJ_add, pxJ_sub, pxJ_mul, pxJ_neg, pxD_lt_t, pxD_lt_f, pxD_le_t, pxD_le_f, pxD_eq_t, pxD_eq_f, pxJ_lt, pxJ_le, pxJ_eq, pxJ_div, px_b2, px_bs, px_rb0, px_rb1, pxW_some, Option.some.injEq, pxM_eq, pxM_ne, pyN_gI, pyN_pI, pyN_rc, pyN_g1, pyN_a588, pyN_s588, pyN_g3, pyN_a589, pyN_s589, pyN_g4, pyN_a590, pyN_s590, pyN_g5, pyN_a591, pyN_s591, pyN_g6, pyN_a592, pyN_s592, pyN_g7, pyN_a593, pyN_s593, pyN_g8, pyN_a594, pyN_s594, pyN_g9, pyN_a595, pyN_s595, pyN_g10, pyN_a596, pyN_s596, pyN_g11, pyN_a597, pyN_s597, pyN_g19, pyN_a598, pyN_s598, pyN_g21, pyN_a599, pyN_s599, pyN_g31, pyN_a600, pyN_s600, pyN_g32, pyN_a601, pyN_s601, pyN_g38, pyN_a602, pyN_s602, pyN_g39, pyN_a603, pyN_s603, pyN_g46, pyN_a604, pyN_s604, pyN_g47, pyN_a605, pyN_s605, pyN_g48, pyN_a606, pyN_s606, pyN_g49, pyN_a607, pyN_s607, pyN_g55, pyN_a608, pyN_s608, pyN_g56, pyN_a609, pyN_s609, pyN_g57, pyN_a610, pyN_s610, pyN_g58, pyN_a611, pyN_s611, pyN_g59, pyN_a612, pyN_s612, pyN_g60, pyN_a613, pyN_s613, pyN_g74, pyN_a614, pyN_s614, pyN_g75, pyN_a615, pyN_s615, pyN_g76, pyN_a616, pyN_s616, pyN_g78, pyN_a617, pyN_s617, pyN_g79, pyN_a618, pyN_s618]
    refine ih N (jw_setI h 607 k.toNat (pxJ (pxM h 597 k.toNat))) (k + 1) (by omega) (by omega) (by omega) H (V.set ⟨rfl, by omega, by omega⟩) fun j j0 j1 => ?_
    by_cases e : j = k
    · rw [e, pxM_eq lo hi, ev]
    · rw [pxM_ne (by omega)]
      exact C j j0 (by omega)
set_option maxHeartbeats 8000000 in
theorem n_save_b59 {h0 : jw_H} {Q : Unit → jw_H → Prop} (hQ : ∀ h1, pyV (fun k f => k = 606 ∧ 0 ≤ f ∧ f < 5) h0 h1 → (∀ j : Int, 0 ≤ j → j < 5 → pxM h1 606 j.toNat = pxM h0 596 j.toNat) → pxW (f_X12_save_b84 jw_FU h1 587 (pxJ 0)) Q) : ∀ (m N : Nat) (h : jw_H) (k : Int), k + m = 5 → 0 ≤ k → m < N → pyS h → pyV (fun k f => k = 606 ∧ 0 ≤ f ∧ f < 5) h0 h → (∀ j : Int, 0 ≤ j → j < k → pxM h 606 j.toNat = pxM h0 596 j.toNat) →
    pxW (f_X12_save_b59 N h 587 (pxJ k)) Q := by
  intro m
  induction m with
  | zero =>
    intro N h k hk k0 hN H V C
    obtain ⟨N, rfl, -⟩ := px_fu hN
    have ek : k = 5 := by omega
    rw [ek] at C
    rw [u_X12_save_b59, ek]
    unfold g_X12_save_b59
    try simp (maxSteps := 4000000) (disch := first | assumption | omega | (simp only [pyS_I]; assumption)) only [pxL0, pxL1, pxL2, pxL3, pxL4, pxL5, pxL6, pxL7, pxL8, pxL9, pxL10, pxL11, pxL12, pxL13, pxL14, pxL15, pxL16, pxL17, pxL18, pxL19, pxL20, pxL21, pxL22, pxL23, pxL24, pxL25, pxL26, pxL27, pxL28, pxL29, pxL30, pxL31, pxL32, pxL33, pxL34, pxL35, pxL36, pxL37, pxL38, pxL39, pxL40, pxL41, pxL42, pxL43, pxL44, pxL45, pxL46, pxL47, pxL48, pxL49, pxL51, pxL57, pxL58, pxL59, pxL60, pxL61, pxL62, pxL63, pxL64, pxL65, pxL66, pxL67, pxL68, pxL69, pxL70, pxL71, pxL72, pxL73, pxL74, pxL75, pxL76, pxL77, pxL78, pxL79, pxL80, pxL81, pxL82, pxL83, pxL84, pxL85, pxL86, pxL87, pxL88, pxL89, pxL90, pxL91, pxL92, pxL93, pxL94, pxL95, pxL96, pxL97, pxL98, pxL99, pxL100, pxL101, pxL102, pxL103, pxL104, pxL105, pxL106, pxL107, pxL108, pxL109, pxL110, pxL111, pxL112, pxL113, pxL114, pxL115, pxL116, pxL117, pxL118, pxL119, pxL120, pxL121, pxL122, pxL123, pxL124, pxL125, pxL126, pxL200, pxL240, pxL287, pxL388, pxL400, pxL429, pxL431, pxL440, pxL1240, pxL1600, pxL1681, pxL12028, pxL13849, pxL14880, pxL25173, pxL26908, pxL49600, pxL65535, pxL65536, ↓reduceIte, reduceCtorEq, pxJ_add, pxJ_sub, pxJ_mul, pxJ_neg, pxD_lt_t, pxD_lt_f, pxD_le_t, pxD_le_f, pxD_eq_t, pxD_eq_f, pxJ_lt, pxJ_le, pxJ_eq, pxJ_div, px_b2, px_bs, px_rb0, px_rb1, pxW_some, Option.some.injEq, pxM_eq, pxM_ne, pyN_gI, pyN_pI, pyN_rc, pyN_g1, pyN_a588, pyN_s588, pyN_g3, pyN_a589, pyN_s589, pyN_g4, pyN_a590, pyN_s590, pyN_g5, pyN_a591, pyN_s591, pyN_g6, pyN_a592, pyN_s592, pyN_g7, pyN_a593, pyN_s593, pyN_g8, pyN_a594, pyN_s594, pyN_g9, pyN_a595, pyN_s595, pyN_g10, pyN_a596, pyN_s596, pyN_g11, pyN_a597, pyN_s597, pyN_g19, pyN_a598, pyN_s598, pyN_g21, pyN_a599, pyN_s599, pyN_g31, pyN_a600, pyN_s600, pyN_g32, pyN_a601, pyN_s601, pyN_g38, pyN_a602, pyN_s602, pyN_g39, pyN_a603, pyN_s603, pyN_g46, pyN_a604, pyN_s604, pyN_g47, pyN_a605, pyN_s605, pyN_g48, pyN_a606, pyN_s606, pyN_g49, pyN_a607, pyN_s607, pyN_g55, pyN_a608, pyN_s608, pyN_g56, pyN_a609, pyN_s609, pyN_g57, pyN_a610, pyN_s610, pyN_g58, pyN_a611, pyN_s611, pyN_g59, pyN_a612, pyN_s612, pyN_g60, pyN_a613, pyN_s613, pyN_g74, pyN_a614, pyN_s614, pyN_g75, pyN_a615, pyN_s615, pyN_g76, pyN_a616, pyN_s616, pyN_g78, pyN_a617, pyN_s617, pyN_g79, pyN_a618, pyN_s618]
    exact hQ h V C
  | succ m ih =>
    intro N h k hk k0 hN H V C
    obtain ⟨N, rfl, hN⟩ := px_fu hN
    have lo := pxM_lo h 596 k.toNat
    have hi := pxM_hi h 596 k.toNat
    have ev : pxM h 596 k.toNat = pxM h0 596 k.toNat := V.m (by omega)
    rw [u_X12_save_b59]
    unfold g_X12_save_b59
    try simp (maxSteps := 4000000) (disch := first | assumption | omega | (simp only [pyS_I]; assumption)) only [pxL0, pxL1, pxL2, pxL3, pxL4, pxL5, pxL6, pxL7, pxL8, pxL9, pxL10, pxL11, pxL12, pxL13, pxL14, pxL15, pxL16, pxL17, pxL18, pxL19, pxL20, pxL21, pxL22, pxL23, pxL24, pxL25, pxL26, pxL27, pxL28, pxL29, pxL30, pxL31, pxL32, pxL33, pxL34, pxL35, pxL36, pxL37, pxL38, pxL39, pxL40, pxL41, pxL42, pxL43, pxL44, pxL45, pxL46, pxL47, pxL48, pxL49, pxL51, pxL57, pxL58, pxL59, pxL60, pxL61, pxL62, pxL63, pxL64, pxL65, pxL66, pxL67, pxL68, pxL69, pxL70, pxL71, pxL72, pxL73, pxL74, pxL75, pxL76, pxL77, pxL78, pxL79, pxL80, pxL81, pxL82, pxL83, pxL84, pxL85, pxL86, pxL87, pxL88, pxL89, pxL90, pxL91, pxL92, pxL93, pxL94, pxL95, pxL96, pxL97, pxL98, pxL99, pxL100, pxL101, pxL102, pxL103, pxL104, pxL105, pxL106, pxL107, pxL108, pxL109, pxL110, pxL111, pxL112, pxL113, pxL114, pxL115, pxL116, pxL117, pxL118, pxL119, pxL120, pxL121, pxL122, pxL123, pxL124, pxL125, pxL126, pxL200, pxL240, pxL287, pxL388, pxL400, pxL429, pxL431, pxL440, pxL1240, pxL1600, pxL1681, pxL12028, pxL13849, pxL14880, pxL25173, pxL26908, pxL49600, pxL65535, pxL65536, ↓reduceIte, reduceCtorEq, pxJ_add, pxJ_sub, pxJ_mul, pxJ_neg, pxD_lt_t, pxD_lt_f, pxD_le_t, pxD_le_f, pxD_eq_t, pxD_eq_f, pxJ_lt, pxJ_le, pxJ_eq, pxJ_div, px_b2, px_bs, px_rb0, px_rb1, pxW_some, Option.some.injEq, pxM_eq, pxM_ne, pyN_gI, pyN_pI, pyN_rc, pyN_g1, pyN_a588, pyN_s588, pyN_g3, pyN_a589, pyN_s589, pyN_g4, pyN_a590, pyN_s590, pyN_g5, pyN_a591, pyN_s591, pyN_g6, pyN_a592, pyN_s592, pyN_g7, pyN_a593, pyN_s593, pyN_g8, pyN_a594, pyN_s594, pyN_g9, pyN_a595, pyN_s595, pyN_g10, pyN_a596, pyN_s596, pyN_g11, pyN_a597, pyN_s597, pyN_g19, pyN_a598, pyN_s598, pyN_g21, pyN_a599, pyN_s599, pyN_g31, pyN_a600, pyN_s600, pyN_g32, pyN_a601, pyN_s601, pyN_g38, pyN_a602, pyN_s602, pyN_g39, pyN_a603, pyN_s603, pyN_g46, pyN_a604, pyN_s604, pyN_g47, pyN_a605, pyN_s605, pyN_g48, pyN_a606, pyN_s606, pyN_g49, pyN_a607, pyN_s607, pyN_g55, pyN_a608, pyN_s608, pyN_g56, pyN_a609, pyN_s609, pyN_g57, pyN_a610, pyN_s610, pyN_g58, pyN_a611, pyN_s611, pyN_g59, pyN_a612, pyN_s612, pyN_g60, pyN_a613, pyN_s613, pyN_g74, pyN_a614, pyN_s614, pyN_g75, pyN_a615, pyN_s615, pyN_g76, pyN_a616, pyN_s616, pyN_g78, pyN_a617, pyN_s617, pyN_g79, pyN_a618, pyN_s618]
    refine ih N (jw_setI h 606 k.toNat (pxJ (pxM h 596 k.toNat))) (k + 1) (by omega) (by omega) (by omega) H (V.set ⟨rfl, by omega, by omega⟩) fun j j0 j1 => ?_
    by_cases e : j = k
    · rw [e, pxM_eq lo hi, ev]
    · rw [pxM_ne (by omega)]
      exact C j j0 (by omega)
set_option maxHeartbeats 8000000 in
theorem n_save_b33 {h0 : jw_H} {Q : Unit → jw_H → Prop} (hQ : ∀ h1, pyV (fun k f => k = 605 ∧ 0 ≤ f ∧ f < 41) h0 h1 → (∀ j : Int, 0 ≤ j → j < 41 → pxM h1 605 j.toNat = pxM h0 593 j.toNat) → pxW (f_X12_save_b59 jw_FU h1 587 (pxJ 0)) Q) : ∀ (m N : Nat) (h : jw_H) (k : Int), k + m = 41 → 0 ≤ k → m < N → pyS h → pyV (fun k f => k = 605 ∧ 0 ≤ f ∧ f < 41) h0 h → (∀ j : Int, 0 ≤ j → j < k → pxM h 605 j.toNat = pxM h0 593 j.toNat) →
    pxW (f_X12_save_b33 N h 587 (pxJ k)) Q := by
  intro m
  induction m with
  | zero =>
    intro N h k hk k0 hN H V C
    obtain ⟨N, rfl, -⟩ := px_fu hN
    have ek : k = 41 := by omega
    rw [ek] at C
    rw [u_X12_save_b33, ek]
    unfold g_X12_save_b33
    try simp (maxSteps := 4000000) (disch := first | assumption | omega | (simp only [pyS_I]; assumption)) only [pxL0, pxL1, pxL2, pxL3, pxL4, pxL5, pxL6, pxL7, pxL8, pxL9, pxL10, pxL11, pxL12, pxL13, pxL14, pxL15, pxL16, pxL17, pxL18, pxL19, pxL20, pxL21, pxL22, pxL23, pxL24, pxL25, pxL26, pxL27, pxL28, pxL29, pxL30, pxL31, pxL32, pxL33, pxL34, pxL35, pxL36, pxL37, pxL38, pxL39, pxL40, pxL41, pxL42, pxL43, pxL44, pxL45, pxL46, pxL47, pxL48, pxL49, pxL51, pxL57, pxL58, pxL59, pxL60, pxL61, pxL62, pxL63, pxL64, pxL65, pxL66, pxL67, pxL68, pxL69, pxL70, pxL71, pxL72, pxL73, pxL74, pxL75, pxL76, pxL77, pxL78, pxL79, pxL80, pxL81, pxL82, pxL83, pxL84, pxL85, pxL86, pxL87, pxL88, pxL89, pxL90, pxL91, pxL92, pxL93, pxL94, pxL95, pxL96, pxL97, pxL98, pxL99, pxL100, pxL101, pxL102, pxL103, pxL104, pxL105, pxL106, pxL107, pxL108, pxL109, pxL110, pxL111, pxL112, pxL113, pxL114, pxL115, pxL116, pxL117, pxL118, pxL119, pxL120, pxL121, pxL122, pxL123, pxL124, pxL125, pxL126, pxL200, pxL240, pxL287, pxL388, pxL400, pxL429, pxL431, pxL440, pxL1240, pxL1600, pxL1681, pxL12028, pxL13849, pxL14880, pxL25173, pxL26908, pxL49600, pxL65535, pxL65536, ↓reduceIte, reduceCtorEq, pxJ_add, pxJ_sub, pxJ_mul, pxJ_neg, pxD_lt_t, pxD_lt_f, pxD_le_t, pxD_le_f, pxD_eq_t, pxD_eq_f, pxJ_lt, pxJ_le, pxJ_eq, pxJ_div, px_b2, px_bs, px_rb0, px_rb1, pxW_some, Option.some.injEq, pxM_eq, pxM_ne, pyN_gI, pyN_pI, pyN_rc, pyN_g1, pyN_a588, pyN_s588, pyN_g3, pyN_a589, pyN_s589, pyN_g4, pyN_a590, pyN_s590, pyN_g5, pyN_a591, pyN_s591, pyN_g6, pyN_a592, pyN_s592, pyN_g7, pyN_a593, pyN_s593, pyN_g8, pyN_a594, pyN_s594, pyN_g9, pyN_a595, pyN_s595, pyN_g10, pyN_a596, pyN_s596, pyN_g11, pyN_a597, pyN_s597, pyN_g19, pyN_a598, pyN_s598, pyN_g21, pyN_a599, pyN_s599, pyN_g31, pyN_a600, pyN_s600, pyN_g32, pyN_a601, pyN_s601, pyN_g38, pyN_a602, pyN_s602, pyN_g39, pyN_a603, pyN_s603, pyN_g46, pyN_a604, pyN_s604, pyN_g47, pyN_a605, pyN_s605, pyN_g48, pyN_a606, pyN_s606, pyN_g49, pyN_a607, pyN_s607, pyN_g55, pyN_a608, pyN_s608, pyN_g56, pyN_a609, pyN_s609, pyN_g57, pyN_a610, pyN_s610, pyN_g58, pyN_a611, pyN_s611, pyN_g59, pyN_a612, pyN_s612, pyN_g60, pyN_a613, pyN_s613, pyN_g74, pyN_a614, pyN_s614, pyN_g75, pyN_a615, pyN_s615, pyN_g76, pyN_a616, pyN_s616, pyN_g78, pyN_a617, pyN_s617, pyN_g79, pyN_a618, pyN_s618]
    exact hQ h V C
  | succ m ih =>
    intro N h k hk k0 hN H V C
    obtain ⟨N, rfl, hN⟩ := px_fu hN
    have lo := pxM_lo h 593 k.toNat
    have hi := pxM_hi h 593 k.toNat
    have ev : pxM h 593 k.toNat = pxM h0 593 k.toNat := V.m (by omega)
    rw [u_X12_save_b33]
    unfold g_X12_save_b33
    try simp (maxSteps := 4000000) (disch := first | assumption | omega | (simp only [pyS_I]; assumption)) only [pxL0, pxL1, pxL2, pxL3, pxL4, pxL5, pxL6, pxL7, pxL8, pxL9, pxL10, pxL11, pxL12, pxL13, pxL14, pxL15, pxL16, pxL17, pxL18, pxL19, pxL20, pxL21, pxL22, pxL23, pxL24, pxL25, pxL26, pxL27, pxL28, pxL29, pxL30, pxL31, pxL32, pxL33, pxL34, pxL35, pxL36, pxL37, pxL38, pxL39, pxL40, pxL41, pxL42, pxL43, pxL44, pxL45, pxL46, pxL47, pxL48, pxL49, pxL51, pxL57, pxL58, pxL59, pxL60, pxL61, pxL62, pxL63, pxL64, pxL65, pxL66, pxL67, pxL68, pxL69, pxL70, pxL71, pxL72, pxL73, pxL74, pxL75, pxL76, pxL77, pxL78, pxL79, pxL80, pxL81, pxL82, pxL83, pxL84, pxL85, pxL86, pxL87, pxL88, pxL89, pxL90, pxL91, pxL92, pxL93, pxL94, pxL95, pxL96, pxL97, pxL98, pxL99, pxL100, pxL101, pxL102, pxL103, pxL104, pxL105, pxL106, pxL107, pxL108, pxL109, pxL110, pxL111, pxL112, pxL113, pxL114, pxL115, pxL116, pxL117, pxL118, pxL119, pxL120, pxL121, pxL122, pxL123, pxL124, pxL125, pxL126, pxL200, pxL240, pxL287, pxL388, pxL400, pxL429, pxL431, pxL440, pxL1240, pxL1600, pxL1681, pxL12028, pxL13849, pxL14880, pxL25173, pxL26908, pxL49600, pxL65535, pxL65536, ↓reduceIte, reduceCtorEq, pxJ_add, pxJ_sub, pxJ_mul, pxJ_neg, pxD_lt_t, pxD_lt_f, pxD_le_t, pxD_le_f, pxD_eq_t, pxD_eq_f, pxJ_lt, pxJ_le, pxJ_eq, pxJ_div, px_b2, px_bs, px_rb0, px_rb1, pxW_some, Option.some.injEq, pxM_eq, pxM_ne, pyN_gI, pyN_pI, pyN_rc, pyN_g1, pyN_a588, pyN_s588, pyN_g3, pyN_a589, pyN_s589, pyN_g4, pyN_a590, pyN_s590, pyN_g5, pyN_a591, pyN_s591, pyN_g6, pyN_a592, pyN_s592, pyN_g7, pyN_a593, pyN_s593, pyN_g8, pyN_a594, pyN_s594, pyN_g9, pyN_a595, pyN_s595, pyN_g10, pyN_a596, pyN_s596, pyN_g11, pyN_a597, pyN_s597, pyN_g19, pyN_a598, pyN_s598, pyN_g21, pyN_a599, pyN_s599, pyN_g31, pyN_a600, pyN_s600, pyN_g32, pyN_a601, pyN_s601, pyN_g38, pyN_a602, pyN_s602, pyN_g39, pyN_a603, pyN_s603, pyN_g46, pyN_a604, pyN_s604, pyN_g47, pyN_a605, pyN_s605, pyN_g48, pyN_a606, pyN_s606, pyN_g49, pyN_a607, pyN_s607, pyN_g55, pyN_a608, pyN_s608, pyN_g56, pyN_a609, pyN_s609, pyN_g57, pyN_a610, pyN_s610, pyN_g58, pyN_a611, pyN_s611, pyN_g59, pyN_a612, pyN_s612, pyN_g60, pyN_a613, pyN_s613, pyN_g74, pyN_a614, pyN_s614, pyN_g75, pyN_a615, pyN_s615, pyN_g76, pyN_a616, pyN_s616, pyN_g78, pyN_a617, pyN_s617, pyN_g79, pyN_a618, pyN_s618]
    refine ih N (jw_setI h 605 k.toNat (pxJ (pxM h 593 k.toNat))) (k + 1) (by omega) (by omega) (by omega) H (V.set ⟨rfl, by omega, by omega⟩) fun j j0 j1 => ?_
    by_cases e : j = k
    · rw [e, pxM_eq lo hi, ev]
    · rw [pxM_ne (by omega)]
      exact C j j0 (by omega)
set_option maxHeartbeats 8000000 in
theorem n_save_b2 {h0 : jw_H} {Q : Unit → jw_H → Prop} (hQ : ∀ h1, pyV (fun k f => k = 592 ∧ 14880 ≤ f ∧ f < 26908) h0 h1 → (∀ j : Int, 0 ≤ j → j < 12028 → pxM h1 592 (14880 + j).toNat = pxM h0 592 j.toNat) → pxW (f_X12_save_b33 jw_FU h1 587 (pxJ 0)) Q) : ∀ (m N : Nat) (h : jw_H) (k : Int), k + m = 12028 → 0 ≤ k → m < N → pyS h → pyV (fun k f => k = 592 ∧ 14880 ≤ f ∧ f < 26908) h0 h → (∀ j : Int, 0 ≤ j → j < k → pxM h 592 (14880 + j).toNat = pxM h0 592 j.toNat) →
    pxW (f_X12_save_b2 N h 587 (pxJ k)) Q := by
  intro m
  induction m with
  | zero =>
    intro N h k hk k0 hN H V C
    obtain ⟨N, rfl, -⟩ := px_fu hN
    have ek : k = 12028 := by omega
    rw [ek] at C
    rw [u_X12_save_b2, ek]
    unfold g_X12_save_b2
    try simp (maxSteps := 4000000) (disch := first | assumption | omega | (simp only [pyS_I]; assumption)) only [pxL0, pxL1, pxL2, pxL3, pxL4, pxL5, pxL6, pxL7, pxL8, pxL9, pxL10, pxL11, pxL12, pxL13, pxL14, pxL15, pxL16, pxL17, pxL18, pxL19, pxL20, pxL21, pxL22, pxL23, pxL24, pxL25, pxL26, pxL27, pxL28, pxL29, pxL30, pxL31, pxL32, pxL33, pxL34, pxL35, pxL36, pxL37, pxL38, pxL39, pxL40, pxL41, pxL42, pxL43, pxL44, pxL45, pxL46, pxL47, pxL48, pxL49, pxL51, pxL57, pxL58, pxL59, pxL60, pxL61, pxL62, pxL63, pxL64, pxL65, pxL66, pxL67, pxL68, pxL69, pxL70, pxL71, pxL72, pxL73, pxL74, pxL75, pxL76, pxL77, pxL78, pxL79, pxL80, pxL81, pxL82, pxL83, pxL84, pxL85, pxL86, pxL87, pxL88, pxL89, pxL90, pxL91, pxL92, pxL93, pxL94, pxL95, pxL96, pxL97, pxL98, pxL99, pxL100, pxL101, pxL102, pxL103, pxL104, pxL105, pxL106, pxL107, pxL108, pxL109, pxL110, pxL111, pxL112, pxL113, pxL114, pxL115, pxL116, pxL117, pxL118, pxL119, pxL120, pxL121, pxL122, pxL123, pxL124, pxL125, pxL126, pxL200, pxL240, pxL287, pxL388, pxL400, pxL429, pxL431, pxL440, pxL1240, pxL1600, pxL1681, pxL12028, pxL13849, pxL14880, pxL25173, pxL26908, pxL49600, pxL65535, pxL65536, ↓reduceIte, reduceCtorEq, pxJ_add, pxJ_sub, pxJ_mul, pxJ_neg, pxD_lt_t, pxD_lt_f, pxD_le_t, pxD_le_f, pxD_eq_t, pxD_eq_f, pxJ_lt, pxJ_le, pxJ_eq, pxJ_div, px_b2, px_bs, px_rb0, px_rb1, pxW_some, Option.some.injEq, pxM_eq, pxM_ne, pyN_gI, pyN_pI, pyN_rc, pyN_g1, pyN_a588, pyN_s588, pyN_g3, pyN_a589, pyN_s589, pyN_g4, pyN_a590, pyN_s590, pyN_g5, pyN_a591, pyN_s591, pyN_g6, pyN_a592, pyN_s592, pyN_g7, pyN_a593, pyN_s593, pyN_g8, pyN_a594, pyN_s594, pyN_g9, pyN_a595, pyN_s595, pyN_g10, pyN_a596, pyN_s596, pyN_g11, pyN_a597, pyN_s597, pyN_g19, pyN_a598, pyN_s598, pyN_g21, pyN_a599, pyN_s599, pyN_g31, pyN_a600, pyN_s600, pyN_g32, pyN_a601, pyN_s601, pyN_g38, pyN_a602, pyN_s602, pyN_g39, pyN_a603, pyN_s603, pyN_g46, pyN_a604, pyN_s604, pyN_g47, pyN_a605, pyN_s605, pyN_g48, pyN_a606, pyN_s606, pyN_g49, pyN_a607, pyN_s607, pyN_g55, pyN_a608, pyN_s608, pyN_g56, pyN_a609, pyN_s609, pyN_g57, pyN_a610, pyN_s610, pyN_g58, pyN_a611, pyN_s611, pyN_g59, pyN_a612, pyN_s612, pyN_g60, pyN_a613, pyN_s613, pyN_g74, pyN_a614, pyN_s614, pyN_g75, pyN_a615, pyN_s615, pyN_g76, pyN_a616, pyN_s616, pyN_g78, pyN_a617, pyN_s617, pyN_g79, pyN_a618, pyN_s618]
    exact hQ h V C
  | succ m ih =>
    intro N h k hk k0 hN H V C
    obtain ⟨N, rfl, hN⟩ := px_fu hN
    have lo := pxM_lo h 592 k.toNat
    have hi := pxM_hi h 592 k.toNat
    have ev : pxM h 592 k.toNat = pxM h0 592 k.toNat := V.m (by omega)
    rw [u_X12_save_b2]
    unfold g_X12_save_b2
    try simp (maxSteps := 4000000) (disch := first | assumption | omega | (simp only [pyS_I]; assumption)) only [pxL0, pxL1, pxL2, pxL3, pxL4, pxL5, pxL6, pxL7, pxL8, pxL9, pxL10, pxL11, pxL12, pxL13, pxL14, pxL15, pxL16, pxL17, pxL18, pxL19, pxL20, pxL21, pxL22, pxL23, pxL24, pxL25, pxL26, pxL27, pxL28, pxL29, pxL30, pxL31, pxL32, pxL33, pxL34, pxL35, pxL36, pxL37, pxL38, pxL39, pxL40, pxL41, pxL42, pxL43, pxL44, pxL45, pxL46, pxL47, pxL48, pxL49, pxL51, pxL57, pxL58, pxL59, pxL60, pxL61, pxL62, pxL63, pxL64, pxL65, pxL66, pxL67, pxL68, pxL69, pxL70, pxL71, pxL72, pxL73, pxL74, pxL75, pxL76, pxL77, pxL78, pxL79, pxL80, pxL81, pxL82, pxL83, pxL84, pxL85, pxL86, pxL87, pxL88, pxL89, pxL90, pxL91, pxL92, pxL93, pxL94, pxL95, pxL96, pxL97, pxL98, pxL99, pxL100, pxL101, pxL102, pxL103, pxL104, pxL105, pxL106, pxL107, pxL108, pxL109, pxL110, pxL111, pxL112, pxL113, pxL114, pxL115, pxL116, pxL117, pxL118, pxL119, pxL120, pxL121, pxL122, pxL123, pxL124, pxL125, pxL126, pxL200, pxL240, pxL287, pxL388, pxL400, pxL429, pxL431, pxL440, pxL1240, pxL1600, pxL1681, pxL12028, pxL13849, pxL14880, pxL25173, pxL26908, pxL49600, pxL65535, pxL65536, ↓reduceIte, reduceCtorEq, pxJ_add, pxJ_sub, pxJ_mul, pxJ_neg, pxD_lt_t, pxD_lt_f, pxD_le_t, pxD_le_f, pxD_eq_t, pxD_eq_f, pxJ_lt, pxJ_le, pxJ_eq, pxJ_div, px_b2, px_bs, px_rb0, px_rb1, pxW_some, Option.some.injEq, pxM_eq, pxM_ne, pyN_gI, pyN_pI, pyN_rc, pyN_g1, pyN_a588, pyN_s588, pyN_g3, pyN_a589, pyN_s589, pyN_g4, pyN_a590, pyN_s590, pyN_g5, pyN_a591, pyN_s591, pyN_g6, pyN_a592, pyN_s592, pyN_g7, pyN_a593, pyN_s593, pyN_g8, pyN_a594, pyN_s594, pyN_g9, pyN_a595, pyN_s595, pyN_g10, pyN_a596, pyN_s596, pyN_g11, pyN_a597, pyN_s597, pyN_g19, pyN_a598, pyN_s598, pyN_g21, pyN_a599, pyN_s599, pyN_g31, pyN_a600, pyN_s600, pyN_g32, pyN_a601, pyN_s601, pyN_g38, pyN_a602, pyN_s602, pyN_g39, pyN_a603, pyN_s603, pyN_g46, pyN_a604, pyN_s604, pyN_g47, pyN_a605, pyN_s605, pyN_g48, pyN_a606, pyN_s606, pyN_g49, pyN_a607, pyN_s607, pyN_g55, pyN_a608, pyN_s608, pyN_g56, pyN_a609, pyN_s609, pyN_g57, pyN_a610, pyN_s610, pyN_g58, pyN_a611, pyN_s611, pyN_g59, pyN_a612, pyN_s612, pyN_g60, pyN_a613, pyN_s613, pyN_g74, pyN_a614, pyN_s614, pyN_g75, pyN_a615, pyN_s615, pyN_g76, pyN_a616, pyN_s616, pyN_g78, pyN_a617, pyN_s617, pyN_g79, pyN_a618, pyN_s618]
    refine ih N (jw_setI h 592 (14880 + k).toNat (pxJ (pxM h 592 k.toNat))) (k + 1) (by omega) (by omega) (by omega) H (V.set ⟨rfl, by omega, by omega⟩) fun j j0 j1 => ?_
    by_cases e : j = k
    · rw [e, pxM_eq lo hi, ev]
    · rw [pxM_ne (by omega)]
      exact C j j0 (by omega)
set_option maxHeartbeats 8000000 in
theorem n_comeBack_b84 {h0 : jw_H} {Q : Unit → jw_H → Prop} (hQ : ∀ h1, pyV (fun k f => (k = 597 ∧ 0 ≤ f ∧ f < 4) ∨ (k = 587 ∧ (f = 12 ∨ f = 14 ∨ f = 15 ∨ f = 16 ∨ f = 17))) h0 h1 → (∀ j : Int, 0 ≤ j → j < 4 → pxM h1 597 j.toNat = pxM h0 607 j.toNat) → pxM h1 587 12 = pxM h0 587 50 → pxM h1 587 14 = pxM h0 587 51 → pxM h1 587 15 = pxM h0 587 52 → pxM h1 587 16 = pxM h0 587 53 → pxM h1 587 17 = pxM h0 587 54 → Q () h1) : ∀ (m N : Nat) (h : jw_H) (k : Int), k + m = 4 → 0 ≤ k → m < N → pyS h → pyV (fun k f => k = 597 ∧ 0 ≤ f ∧ f < 4) h0 h → (∀ j : Int, 0 ≤ j → j < k → pxM h 597 j.toNat = pxM h0 607 j.toNat) →
    pxW (f_X12_comeBack_b84 N h 587 (pxJ k)) Q := by
  intro m
  induction m with
  | zero =>
    intro N h k hk k0 hN H V C
    obtain ⟨N, rfl, -⟩ := px_fu hN
    have ek : k = 4 := by omega
    rw [ek] at C
    rw [u_X12_comeBack_b84, ek]
    unfold g_X12_comeBack_b84
    try simp (maxSteps := 4000000) (disch := first | assumption | omega | (simp only [pyS_I]; assumption)) only [pxL0, pxL1, pxL2, pxL3, pxL4, pxL5, pxL6, pxL7, pxL8, pxL9, pxL10, pxL11, pxL12, pxL13, pxL14, pxL15, pxL16, pxL17, pxL18, pxL19, pxL20, pxL21, pxL22, pxL23, pxL24, pxL25, pxL26, pxL27, pxL28, pxL29, pxL30, pxL31, pxL32, pxL33, pxL34, pxL35, pxL36, pxL37, pxL38, pxL39, pxL40, pxL41, pxL42, pxL43, pxL44, pxL45, pxL46, pxL47, pxL48, pxL49, pxL51, pxL57, pxL58, pxL59, pxL60, pxL61, pxL62, pxL63, pxL64, pxL65, pxL66, pxL67, pxL68, pxL69, pxL70, pxL71, pxL72, pxL73, pxL74, pxL75, pxL76, pxL77, pxL78, pxL79, pxL80, pxL81, pxL82, pxL83, pxL84, pxL85, pxL86, pxL87, pxL88, pxL89, pxL90, pxL91, pxL92, pxL93, pxL94, pxL95, pxL96, pxL97, pxL98, pxL99, pxL100, pxL101, pxL102, pxL103, pxL104, pxL105, pxL106, pxL107, pxL108, pxL109, pxL110, pxL111, pxL112, pxL113, pxL114, pxL115, pxL116, pxL117, pxL118, pxL119, pxL120, pxL121, pxL122, pxL123, pxL124, pxL125, pxL126, pxL200, pxL240, pxL287, pxL388, pxL400, pxL429, pxL431, pxL440, pxL1240, pxL1600, pxL1681, pxL12028, pxL13849, pxL14880, pxL25173, pxL26908, pxL49600, pxL65535, pxL65536, ↓reduceIte, reduceCtorEq, pxJ_add, pxJ_sub, pxJ_mul, pxJ_neg, pxD_lt_t, pxD_lt_f, pxD_le_t, pxD_le_f, pxD_eq_t, pxD_eq_f, pxJ_lt, pxJ_le, pxJ_eq, pxJ_div, px_b2, px_bs, px_rb0, px_rb1, pxW_some, Option.some.injEq, pxM_eq, pxM_ne, pyN_gI, pyN_pI, pyN_rc, pyN_g1, pyN_a588, pyN_s588, pyN_g3, pyN_a589, pyN_s589, pyN_g4, pyN_a590, pyN_s590, pyN_g5, pyN_a591, pyN_s591, pyN_g6, pyN_a592, pyN_s592, pyN_g7, pyN_a593, pyN_s593, pyN_g8, pyN_a594, pyN_s594, pyN_g9, pyN_a595, pyN_s595, pyN_g10, pyN_a596, pyN_s596, pyN_g11, pyN_a597, pyN_s597, pyN_g19, pyN_a598, pyN_s598, pyN_g21, pyN_a599, pyN_s599, pyN_g31, pyN_a600, pyN_s600, pyN_g32, pyN_a601, pyN_s601, pyN_g38, pyN_a602, pyN_s602, pyN_g39, pyN_a603, pyN_s603, pyN_g46, pyN_a604, pyN_s604, pyN_g47, pyN_a605, pyN_s605, pyN_g48, pyN_a606, pyN_s606, pyN_g49, pyN_a607, pyN_s607, pyN_g55, pyN_a608, pyN_s608, pyN_g56, pyN_a609, pyN_s609, pyN_g57, pyN_a610, pyN_s610, pyN_g58, pyN_a611, pyN_s611, pyN_g59, pyN_a612, pyN_s612, pyN_g60, pyN_a613, pyN_s613, pyN_g74, pyN_a614, pyN_s614, pyN_g75, pyN_a615, pyN_s615, pyN_g76, pyN_a616, pyN_s616, pyN_g78, pyN_a617, pyN_s617, pyN_g79, pyN_a618, pyN_s618]
    apply hQ
    · exact (((((V.mono (fun k f z => Or.inl z)).set (Or.inr ⟨rfl, by omega⟩)).set (Or.inr ⟨rfl, by omega⟩)).set (Or.inr ⟨rfl, by omega⟩)).set (Or.inr ⟨rfl, by omega⟩)).set (Or.inr ⟨rfl, by omega⟩)
    · intro j j0 j1
      rw [pxM_ne (by omega), pxM_ne (by omega), pxM_ne (by omega), pxM_ne (by omega), pxM_ne (by omega)]
      exact C j j0 j1
    · have lo := pxM_lo h 587 50
      have hi := pxM_hi h 587 50
      have ev : pxM h 587 50 = pxM h0 587 50 := V.m (by omega)
      (first | omega | (simp (disch := omega) only [pxM_eq, pxM_ne, ev]; done) | (simp (disch := omega) only [pxM_eq, pxM_ne, ev]; omega))
    · have lo := pxM_lo h 587 51
      have hi := pxM_hi h 587 51
      have ev : pxM h 587 51 = pxM h0 587 51 := V.m (by omega)
      (first | omega | (simp (disch := omega) only [pxM_eq, pxM_ne, ev]; done) | (simp (disch := omega) only [pxM_eq, pxM_ne, ev]; omega))
    · have lo := pxM_lo h 587 52
      have hi := pxM_hi h 587 52
      have ev : pxM h 587 52 = pxM h0 587 52 := V.m (by omega)
      (first | omega | (simp (disch := omega) only [pxM_eq, pxM_ne, ev]; done) | (simp (disch := omega) only [pxM_eq, pxM_ne, ev]; omega))
    · have lo := pxM_lo h 587 53
      have hi := pxM_hi h 587 53
      have ev : pxM h 587 53 = pxM h0 587 53 := V.m (by omega)
      (first | omega | (simp (disch := omega) only [pxM_eq, pxM_ne, ev]; done) | (simp (disch := omega) only [pxM_eq, pxM_ne, ev]; omega))
    · have lo := pxM_lo h 587 54
      have hi := pxM_hi h 587 54
      have ev : pxM h 587 54 = pxM h0 587 54 := V.m (by omega)
      (first | omega | (simp (disch := omega) only [pxM_eq, pxM_ne, ev]; done) | (simp (disch := omega) only [pxM_eq, pxM_ne, ev]; omega))
  | succ m ih =>
    intro N h k hk k0 hN H V C
    obtain ⟨N, rfl, hN⟩ := px_fu hN
    have lo := pxM_lo h 607 k.toNat
    have hi := pxM_hi h 607 k.toNat
    have ev : pxM h 607 k.toNat = pxM h0 607 k.toNat := V.m (by omega)
    rw [u_X12_comeBack_b84]
    unfold g_X12_comeBack_b84
    try simp (maxSteps := 4000000) (disch := first | assumption | omega | (simp only [pyS_I]; assumption)) only [pxL0, pxL1, pxL2, pxL3, pxL4, pxL5, pxL6, pxL7, pxL8, pxL9, pxL10, pxL11, pxL12, pxL13, pxL14, pxL15, pxL16, pxL17, pxL18, pxL19, pxL20, pxL21, pxL22, pxL23, pxL24, pxL25, pxL26, pxL27, pxL28, pxL29, pxL30, pxL31, pxL32, pxL33, pxL34, pxL35, pxL36, pxL37, pxL38, pxL39, pxL40, pxL41, pxL42, pxL43, pxL44, pxL45, pxL46, pxL47, pxL48, pxL49, pxL51, pxL57, pxL58, pxL59, pxL60, pxL61, pxL62, pxL63, pxL64, pxL65, pxL66, pxL67, pxL68, pxL69, pxL70, pxL71, pxL72, pxL73, pxL74, pxL75, pxL76, pxL77, pxL78, pxL79, pxL80, pxL81, pxL82, pxL83, pxL84, pxL85, pxL86, pxL87, pxL88, pxL89, pxL90, pxL91, pxL92, pxL93, pxL94, pxL95, pxL96, pxL97, pxL98, pxL99, pxL100, pxL101, pxL102, pxL103, pxL104, pxL105, pxL106, pxL107, pxL108, pxL109, pxL110, pxL111, pxL112, pxL113, pxL114, pxL115, pxL116, pxL117, pxL118, pxL119, pxL120, pxL121, pxL122, pxL123, pxL124, pxL125, pxL126, pxL200, pxL240, pxL287, pxL388, pxL400, pxL429, pxL431, pxL440, pxL1240, pxL1600, pxL1681, pxL12028, pxL13849, pxL14880, pxL25173, pxL26908, pxL49600, pxL65535, pxL65536, ↓reduceIte, reduceCtorEq, pxJ_add, pxJ_sub, pxJ_mul, pxJ_neg, pxD_lt_t, pxD_lt_f, pxD_le_t, pxD_le_f, pxD_eq_t, pxD_eq_f, pxJ_lt, pxJ_le, pxJ_eq, pxJ_div, px_b2, px_bs, px_rb0, px_rb1, pxW_some, Option.some.injEq, pxM_eq, pxM_ne, pyN_gI, pyN_pI, pyN_rc, pyN_g1, pyN_a588, pyN_s588, pyN_g3, pyN_a589, pyN_s589, pyN_g4, pyN_a590, pyN_s590, pyN_g5, pyN_a591, pyN_s591, pyN_g6, pyN_a592, pyN_s592, pyN_g7, pyN_a593, pyN_s593, pyN_g8, pyN_a594, pyN_s594, pyN_g9, pyN_a595, pyN_s595, pyN_g10, pyN_a596, pyN_s596, pyN_g11, pyN_a597, pyN_s597, pyN_g19, pyN_a598, pyN_s598, pyN_g21, pyN_a599, pyN_s599, pyN_g31, pyN_a600, pyN_s600, pyN_g32, pyN_a601, pyN_s601, pyN_g38, pyN_a602, pyN_s602, pyN_g39, pyN_a603, pyN_s603, pyN_g46, pyN_a604, pyN_s604, pyN_g47, pyN_a605, pyN_s605, pyN_g48, pyN_a606, pyN_s606, pyN_g49, pyN_a607, pyN_s607, pyN_g55, pyN_a608, pyN_s608, pyN_g56, pyN_a609, pyN_s609, pyN_g57, pyN_a610, pyN_s610, pyN_g58, pyN_a611, pyN_s611, pyN_g59, pyN_a612, pyN_s612, pyN_g60, pyN_a613, pyN_s613, pyN_g74, pyN_a614, pyN_s614, pyN_g75, pyN_a615, pyN_s615, pyN_g76, pyN_a616, pyN_s616, pyN_g78, pyN_a617, pyN_s617, pyN_g79, pyN_a618, pyN_s618]
    refine ih N (jw_setI h 597 k.toNat (pxJ (pxM h 607 k.toNat))) (k + 1) (by omega) (by omega) (by omega) H (V.set ⟨rfl, by omega, by omega⟩) fun j j0 j1 => ?_
    by_cases e : j = k
    · rw [e, pxM_eq lo hi, ev]
    · rw [pxM_ne (by omega)]
      exact C j j0 (by omega)
set_option maxHeartbeats 8000000 in
theorem n_comeBack_b59 {h0 : jw_H} {Q : Unit → jw_H → Prop} (hQ : ∀ h1, pyV (fun k f => k = 596 ∧ 0 ≤ f ∧ f < 5) h0 h1 → (∀ j : Int, 0 ≤ j → j < 5 → pxM h1 596 j.toNat = pxM h0 606 j.toNat) → pxW (f_X12_comeBack_b84 jw_FU h1 587 (pxJ 0)) Q) : ∀ (m N : Nat) (h : jw_H) (k : Int), k + m = 5 → 0 ≤ k → m < N → pyS h → pyV (fun k f => k = 596 ∧ 0 ≤ f ∧ f < 5) h0 h → (∀ j : Int, 0 ≤ j → j < k → pxM h 596 j.toNat = pxM h0 606 j.toNat) →
    pxW (f_X12_comeBack_b59 N h 587 (pxJ k)) Q := by
  intro m
  induction m with
  | zero =>
    intro N h k hk k0 hN H V C
    obtain ⟨N, rfl, -⟩ := px_fu hN
    have ek : k = 5 := by omega
    rw [ek] at C
    rw [u_X12_comeBack_b59, ek]
    unfold g_X12_comeBack_b59
    try simp (maxSteps := 4000000) (disch := first | assumption | omega | (simp only [pyS_I]; assumption)) only [pxL0, pxL1, pxL2, pxL3, pxL4, pxL5, pxL6, pxL7, pxL8, pxL9, pxL10, pxL11, pxL12, pxL13, pxL14, pxL15, pxL16, pxL17, pxL18, pxL19, pxL20, pxL21, pxL22, pxL23, pxL24, pxL25, pxL26, pxL27, pxL28, pxL29, pxL30, pxL31, pxL32, pxL33, pxL34, pxL35, pxL36, pxL37, pxL38, pxL39, pxL40, pxL41, pxL42, pxL43, pxL44, pxL45, pxL46, pxL47, pxL48, pxL49, pxL51, pxL57, pxL58, pxL59, pxL60, pxL61, pxL62, pxL63, pxL64, pxL65, pxL66, pxL67, pxL68, pxL69, pxL70, pxL71, pxL72, pxL73, pxL74, pxL75, pxL76, pxL77, pxL78, pxL79, pxL80, pxL81, pxL82, pxL83, pxL84, pxL85, pxL86, pxL87, pxL88, pxL89, pxL90, pxL91, pxL92, pxL93, pxL94, pxL95, pxL96, pxL97, pxL98, pxL99, pxL100, pxL101, pxL102, pxL103, pxL104, pxL105, pxL106, pxL107, pxL108, pxL109, pxL110, pxL111, pxL112, pxL113, pxL114, pxL115, pxL116, pxL117, pxL118, pxL119, pxL120, pxL121, pxL122, pxL123, pxL124, pxL125, pxL126, pxL200, pxL240, pxL287, pxL388, pxL400, pxL429, pxL431, pxL440, pxL1240, pxL1600, pxL1681, pxL12028, pxL13849, pxL14880, pxL25173, pxL26908, pxL49600, pxL65535, pxL65536, ↓reduceIte, reduceCtorEq, pxJ_add, pxJ_sub, pxJ_mul, pxJ_neg, pxD_lt_t, pxD_lt_f, pxD_le_t, pxD_le_f, pxD_eq_t, pxD_eq_f, pxJ_lt, pxJ_le, pxJ_eq, pxJ_div, px_b2, px_bs, px_rb0, px_rb1, pxW_some, Option.some.injEq, pxM_eq, pxM_ne, pyN_gI, pyN_pI, pyN_rc, pyN_g1, pyN_a588, pyN_s588, pyN_g3, pyN_a589, pyN_s589, pyN_g4, pyN_a590, pyN_s590, pyN_g5, pyN_a591, pyN_s591, pyN_g6, pyN_a592, pyN_s592, pyN_g7, pyN_a593, pyN_s593, pyN_g8, pyN_a594, pyN_s594, pyN_g9, pyN_a595, pyN_s595, pyN_g10, pyN_a596, pyN_s596, pyN_g11, pyN_a597, pyN_s597, pyN_g19, pyN_a598, pyN_s598, pyN_g21, pyN_a599, pyN_s599, pyN_g31, pyN_a600, pyN_s600, pyN_g32, pyN_a601, pyN_s601, pyN_g38, pyN_a602, pyN_s602, pyN_g39, pyN_a603, pyN_s603, pyN_g46, pyN_a604, pyN_s604, pyN_g47, pyN_a605, pyN_s605, pyN_g48, pyN_a606, pyN_s606, pyN_g49, pyN_a607, pyN_s607, pyN_g55, pyN_a608, pyN_s608, pyN_g56, pyN_a609, pyN_s609, pyN_g57, pyN_a610, pyN_s610, pyN_g58, pyN_a611, pyN_s611, pyN_g59, pyN_a612, pyN_s612, pyN_g60, pyN_a613, pyN_s613, pyN_g74, pyN_a614, pyN_s614, pyN_g75, pyN_a615, pyN_s615, pyN_g76, pyN_a616, pyN_s616, pyN_g78, pyN_a617, pyN_s617, pyN_g79, pyN_a618, pyN_s618]
    exact hQ h V C
  | succ m ih =>
    intro N h k hk k0 hN H V C
    obtain ⟨N, rfl, hN⟩ := px_fu hN
    have lo := pxM_lo h 606 k.toNat
    have hi := pxM_hi h 606 k.toNat
    have ev : pxM h 606 k.toNat = pxM h0 606 k.toNat := V.m (by omega)
    rw [u_X12_comeBack_b59]
    unfold g_X12_comeBack_b59
    try simp (maxSteps := 4000000) (disch := first | assumption | omega | (simp only [pyS_I]; assumption)) only [pxL0, pxL1, pxL2, pxL3, pxL4, pxL5, pxL6, pxL7, pxL8, pxL9, pxL10, pxL11, pxL12, pxL13, pxL14, pxL15, pxL16, pxL17, pxL18, pxL19, pxL20, pxL21, pxL22, pxL23, pxL24, pxL25, pxL26, pxL27, pxL28, pxL29, pxL30, pxL31, pxL32, pxL33, pxL34, pxL35, pxL36, pxL37, pxL38, pxL39, pxL40, pxL41, pxL42, pxL43, pxL44, pxL45, pxL46, pxL47, pxL48, pxL49, pxL51, pxL57, pxL58, pxL59, pxL60, pxL61, pxL62, pxL63, pxL64, pxL65, pxL66, pxL67, pxL68, pxL69, pxL70, pxL71, pxL72, pxL73, pxL74, pxL75, pxL76, pxL77, pxL78, pxL79, pxL80, pxL81, pxL82, pxL83, pxL84, pxL85, pxL86, pxL87, pxL88, pxL89, pxL90, pxL91, pxL92, pxL93, pxL94, pxL95, pxL96, pxL97, pxL98, pxL99, pxL100, pxL101, pxL102, pxL103, pxL104, pxL105, pxL106, pxL107, pxL108, pxL109, pxL110, pxL111, pxL112, pxL113, pxL114, pxL115, pxL116, pxL117, pxL118, pxL119, pxL120, pxL121, pxL122, pxL123, pxL124, pxL125, pxL126, pxL200, pxL240, pxL287, pxL388, pxL400, pxL429, pxL431, pxL440, pxL1240, pxL1600, pxL1681, pxL12028, pxL13849, pxL14880, pxL25173, pxL26908, pxL49600, pxL65535, pxL65536, ↓reduceIte, reduceCtorEq, pxJ_add, pxJ_sub, pxJ_mul, pxJ_neg, pxD_lt_t, pxD_lt_f, pxD_le_t, pxD_le_f, pxD_eq_t, pxD_eq_f, pxJ_lt, pxJ_le, pxJ_eq, pxJ_div, px_b2, px_bs, px_rb0, px_rb1, pxW_some, Option.some.injEq, pxM_eq, pxM_ne, pyN_gI, pyN_pI, pyN_rc, pyN_g1, pyN_a588, pyN_s588, pyN_g3, pyN_a589, pyN_s589, pyN_g4, pyN_a590, pyN_s590, pyN_g5, pyN_a591, pyN_s591, pyN_g6, pyN_a592, pyN_s592, pyN_g7, pyN_a593, pyN_s593, pyN_g8, pyN_a594, pyN_s594, pyN_g9, pyN_a595, pyN_s595, pyN_g10, pyN_a596, pyN_s596, pyN_g11, pyN_a597, pyN_s597, pyN_g19, pyN_a598, pyN_s598, pyN_g21, pyN_a599, pyN_s599, pyN_g31, pyN_a600, pyN_s600, pyN_g32, pyN_a601, pyN_s601, pyN_g38, pyN_a602, pyN_s602, pyN_g39, pyN_a603, pyN_s603, pyN_g46, pyN_a604, pyN_s604, pyN_g47, pyN_a605, pyN_s605, pyN_g48, pyN_a606, pyN_s606, pyN_g49, pyN_a607, pyN_s607, pyN_g55, pyN_a608, pyN_s608, pyN_g56, pyN_a609, pyN_s609, pyN_g57, pyN_a610, pyN_s610, pyN_g58, pyN_a611, pyN_s611, pyN_g59, pyN_a612, pyN_s612, pyN_g60, pyN_a613, pyN_s613, pyN_g74, pyN_a614, pyN_s614, pyN_g75, pyN_a615, pyN_s615, pyN_g76, pyN_a616, pyN_s616, pyN_g78, pyN_a617, pyN_s617, pyN_g79, pyN_a618, pyN_s618]
    refine ih N (jw_setI h 596 k.toNat (pxJ (pxM h 606 k.toNat))) (k + 1) (by omega) (by omega) (by omega) H (V.set ⟨rfl, by omega, by omega⟩) fun j j0 j1 => ?_
    by_cases e : j = k
    · rw [e, pxM_eq lo hi, ev]
    · rw [pxM_ne (by omega)]
      exact C j j0 (by omega)
set_option maxHeartbeats 8000000 in
theorem n_comeBack_b33 {h0 : jw_H} {Q : Unit → jw_H → Prop} (hQ : ∀ h1, pyV (fun k f => k = 593 ∧ 0 ≤ f ∧ f < 41) h0 h1 → (∀ j : Int, 0 ≤ j → j < 41 → pxM h1 593 j.toNat = pxM h0 605 j.toNat) → pxW (f_X12_comeBack_b59 jw_FU h1 587 (pxJ 0)) Q) : ∀ (m N : Nat) (h : jw_H) (k : Int), k + m = 41 → 0 ≤ k → m < N → pyS h → pyV (fun k f => k = 593 ∧ 0 ≤ f ∧ f < 41) h0 h → (∀ j : Int, 0 ≤ j → j < k → pxM h 593 j.toNat = pxM h0 605 j.toNat) →
    pxW (f_X12_comeBack_b33 N h 587 (pxJ k)) Q := by
  intro m
  induction m with
  | zero =>
    intro N h k hk k0 hN H V C
    obtain ⟨N, rfl, -⟩ := px_fu hN
    have ek : k = 41 := by omega
    rw [ek] at C
    rw [u_X12_comeBack_b33, ek]
    unfold g_X12_comeBack_b33
    try simp (maxSteps := 4000000) (disch := first | assumption | omega | (simp only [pyS_I]; assumption)) only [pxL0, pxL1, pxL2, pxL3, pxL4, pxL5, pxL6, pxL7, pxL8, pxL9, pxL10, pxL11, pxL12, pxL13, pxL14, pxL15, pxL16, pxL17, pxL18, pxL19, pxL20, pxL21, pxL22, pxL23, pxL24, pxL25, pxL26, pxL27, pxL28, pxL29, pxL30, pxL31, pxL32, pxL33, pxL34, pxL35, pxL36, pxL37, pxL38, pxL39, pxL40, pxL41, pxL42, pxL43, pxL44, pxL45, pxL46, pxL47, pxL48, pxL49, pxL51, pxL57, pxL58, pxL59, pxL60, pxL61, pxL62, pxL63, pxL64, pxL65, pxL66, pxL67, pxL68, pxL69, pxL70, pxL71, pxL72, pxL73, pxL74, pxL75, pxL76, pxL77, pxL78, pxL79, pxL80, pxL81, pxL82, pxL83, pxL84, pxL85, pxL86, pxL87, pxL88, pxL89, pxL90, pxL91, pxL92, pxL93, pxL94, pxL95, pxL96, pxL97, pxL98, pxL99, pxL100, pxL101, pxL102, pxL103, pxL104, pxL105, pxL106, pxL107, pxL108, pxL109, pxL110, pxL111, pxL112, pxL113, pxL114, pxL115, pxL116, pxL117, pxL118, pxL119, pxL120, pxL121, pxL122, pxL123, pxL124, pxL125, pxL126, pxL200, pxL240, pxL287, pxL388, pxL400, pxL429, pxL431, pxL440, pxL1240, pxL1600, pxL1681, pxL12028, pxL13849, pxL14880, pxL25173, pxL26908, pxL49600, pxL65535, pxL65536, ↓reduceIte, reduceCtorEq, pxJ_add, pxJ_sub, pxJ_mul, pxJ_neg, pxD_lt_t, pxD_lt_f, pxD_le_t, pxD_le_f, pxD_eq_t, pxD_eq_f, pxJ_lt, pxJ_le, pxJ_eq, pxJ_div, px_b2, px_bs, px_rb0, px_rb1, pxW_some, Option.some.injEq, pxM_eq, pxM_ne, pyN_gI, pyN_pI, pyN_rc, pyN_g1, pyN_a588, pyN_s588, pyN_g3, pyN_a589, pyN_s589, pyN_g4, pyN_a590, pyN_s590, pyN_g5, pyN_a591, pyN_s591, pyN_g6, pyN_a592, pyN_s592, pyN_g7, pyN_a593, pyN_s593, pyN_g8, pyN_a594, pyN_s594, pyN_g9, pyN_a595, pyN_s595, pyN_g10, pyN_a596, pyN_s596, pyN_g11, pyN_a597, pyN_s597, pyN_g19, pyN_a598, pyN_s598, pyN_g21, pyN_a599, pyN_s599, pyN_g31, pyN_a600, pyN_s600, pyN_g32, pyN_a601, pyN_s601, pyN_g38, pyN_a602, pyN_s602, pyN_g39, pyN_a603, pyN_s603, pyN_g46, pyN_a604, pyN_s604, pyN_g47, pyN_a605, pyN_s605, pyN_g48, pyN_a606, pyN_s606, pyN_g49, pyN_a607, pyN_s607, pyN_g55, pyN_a608, pyN_s608, pyN_g56, pyN_a609, pyN_s609, pyN_g57, pyN_a610, pyN_s610, pyN_g58, pyN_a611, pyN_s611, pyN_g59, pyN_a612, pyN_s612, pyN_g60, pyN_a613, pyN_s613, pyN_g74, pyN_a614, pyN_s614, pyN_g75, pyN_a615, pyN_s615, pyN_g76, pyN_a616, pyN_s616, pyN_g78, pyN_a617, pyN_s617, pyN_g79, pyN_a618, pyN_s618]
    exact hQ h V C
  | succ m ih =>
    intro N h k hk k0 hN H V C
    obtain ⟨N, rfl, hN⟩ := px_fu hN
    have lo := pxM_lo h 605 k.toNat
    have hi := pxM_hi h 605 k.toNat
    have ev : pxM h 605 k.toNat = pxM h0 605 k.toNat := V.m (by omega)
    rw [u_X12_comeBack_b33]
    unfold g_X12_comeBack_b33
    try simp (maxSteps := 4000000) (disch := first | assumption | omega | (simp only [pyS_I]; assumption)) only [pxL0, pxL1, pxL2, pxL3, pxL4, pxL5, pxL6, pxL7, pxL8, pxL9, pxL10, pxL11, pxL12, pxL13, pxL14, pxL15, pxL16, pxL17, pxL18, pxL19, pxL20, pxL21, pxL22, pxL23, pxL24, pxL25, pxL26, pxL27, pxL28, pxL29, pxL30, pxL31, pxL32, pxL33, pxL34, pxL35, pxL36, pxL37, pxL38, pxL39, pxL40, pxL41, pxL42, pxL43, pxL44, pxL45, pxL46, pxL47, pxL48, pxL49, pxL51, pxL57, pxL58, pxL59, pxL60, pxL61, pxL62, pxL63, pxL64, pxL65, pxL66, pxL67, pxL68, pxL69, pxL70, pxL71, pxL72, pxL73, pxL74, pxL75, pxL76, pxL77, pxL78, pxL79, pxL80, pxL81, pxL82, pxL83, pxL84, pxL85, pxL86, pxL87, pxL88, pxL89, pxL90, pxL91, pxL92, pxL93, pxL94, pxL95, pxL96, pxL97, pxL98, pxL99, pxL100, pxL101, pxL102, pxL103, pxL104, pxL105, pxL106, pxL107, pxL108, pxL109, pxL110, pxL111, pxL112, pxL113, pxL114, pxL115, pxL116, pxL117, pxL118, pxL119, pxL120, pxL121, pxL122, pxL123, pxL124, pxL125, pxL126, pxL200, pxL240, pxL287, pxL388, pxL400, pxL429, pxL431, pxL440, pxL1240, pxL1600, pxL1681, pxL12028, pxL13849, pxL14880, pxL25173, pxL26908, pxL49600, pxL65535, pxL65536, ↓reduceIte, reduceCtorEq, pxJ_add, pxJ_sub, pxJ_mul, pxJ_neg, pxD_lt_t, pxD_lt_f, pxD_le_t, pxD_le_f, pxD_eq_t, pxD_eq_f, pxJ_lt, pxJ_le, pxJ_eq, pxJ_div, px_b2, px_bs, px_rb0, px_rb1, pxW_some, Option.some.injEq, pxM_eq, pxM_ne, pyN_gI, pyN_pI, pyN_rc, pyN_g1, pyN_a588, pyN_s588, pyN_g3, pyN_a589, pyN_s589, pyN_g4, pyN_a590, pyN_s590, pyN_g5, pyN_a591, pyN_s591, pyN_g6, pyN_a592, pyN_s592, pyN_g7, pyN_a593, pyN_s593, pyN_g8, pyN_a594, pyN_s594, pyN_g9, pyN_a595, pyN_s595, pyN_g10, pyN_a596, pyN_s596, pyN_g11, pyN_a597, pyN_s597, pyN_g19, pyN_a598, pyN_s598, pyN_g21, pyN_a599, pyN_s599, pyN_g31, pyN_a600, pyN_s600, pyN_g32, pyN_a601, pyN_s601, pyN_g38, pyN_a602, pyN_s602, pyN_g39, pyN_a603, pyN_s603, pyN_g46, pyN_a604, pyN_s604, pyN_g47, pyN_a605, pyN_s605, pyN_g48, pyN_a606, pyN_s606, pyN_g49, pyN_a607, pyN_s607, pyN_g55, pyN_a608, pyN_s608, pyN_g56, pyN_a609, pyN_s609, pyN_g57, pyN_a610, pyN_s610, pyN_g58, pyN_a611, pyN_s611, pyN_g59, pyN_a612, pyN_s612, pyN_g60, pyN_a613, pyN_s613, pyN_g74, pyN_a614, pyN_s614, pyN_g75, pyN_a615, pyN_s615, pyN_g76, pyN_a616, pyN_s616, pyN_g78, pyN_a617, pyN_s617, pyN_g79, pyN_a618, pyN_s618]
    refine ih N (jw_setI h 593 k.toNat (pxJ (pxM h 605 k.toNat))) (k + 1) (by omega) (by omega) (by omega) H (V.set ⟨rfl, by omega, by omega⟩) fun j j0 j1 => ?_
    by_cases e : j = k
    · rw [e, pxM_eq lo hi, ev]
    · rw [pxM_ne (by omega)]
      exact C j j0 (by omega)
set_option maxHeartbeats 8000000 in
theorem n_comeBack_b2 {h0 : jw_H} {Q : Unit → jw_H → Prop} (hQ : ∀ h1, pyV (fun k f => k = 592 ∧ 0 ≤ f ∧ f < 12028) h0 h1 → (∀ j : Int, 0 ≤ j → j < 12028 → pxM h1 592 j.toNat = pxM h0 592 (14880 + j).toNat) → pxW (f_X12_comeBack_b33 jw_FU h1 587 (pxJ 0)) Q) : ∀ (m N : Nat) (h : jw_H) (k : Int), k + m = 12028 → 0 ≤ k → m < N → pyS h → pyV (fun k f => k = 592 ∧ 0 ≤ f ∧ f < 12028) h0 h → (∀ j : Int, 0 ≤ j → j < k → pxM h 592 j.toNat = pxM h0 592 (14880 + j).toNat) →
    pxW (f_X12_comeBack_b2 N h 587 (pxJ k)) Q := by
  intro m
  induction m with
  | zero =>
    intro N h k hk k0 hN H V C
    obtain ⟨N, rfl, -⟩ := px_fu hN
    have ek : k = 12028 := by omega
    rw [ek] at C
    rw [u_X12_comeBack_b2, ek]
    unfold g_X12_comeBack_b2
    try simp (maxSteps := 4000000) (disch := first | assumption | omega | (simp only [pyS_I]; assumption)) only [pxL0, pxL1, pxL2, pxL3, pxL4, pxL5, pxL6, pxL7, pxL8, pxL9, pxL10, pxL11, pxL12, pxL13, pxL14, pxL15, pxL16, pxL17, pxL18, pxL19, pxL20, pxL21, pxL22, pxL23, pxL24, pxL25, pxL26, pxL27, pxL28, pxL29, pxL30, pxL31, pxL32, pxL33, pxL34, pxL35, pxL36, pxL37, pxL38, pxL39, pxL40, pxL41, pxL42, pxL43, pxL44, pxL45, pxL46, pxL47, pxL48, pxL49, pxL51, pxL57, pxL58, pxL59, pxL60, pxL61, pxL62, pxL63, pxL64, pxL65, pxL66, pxL67, pxL68, pxL69, pxL70, pxL71, pxL72, pxL73, pxL74, pxL75, pxL76, pxL77, pxL78, pxL79, pxL80, pxL81, pxL82, pxL83, pxL84, pxL85, pxL86, pxL87, pxL88, pxL89, pxL90, pxL91, pxL92, pxL93, pxL94, pxL95, pxL96, pxL97, pxL98, pxL99, pxL100, pxL101, pxL102, pxL103, pxL104, pxL105, pxL106, pxL107, pxL108, pxL109, pxL110, pxL111, pxL112, pxL113, pxL114, pxL115, pxL116, pxL117, pxL118, pxL119, pxL120, pxL121, pxL122, pxL123, pxL124, pxL125, pxL126, pxL200, pxL240, pxL287, pxL388, pxL400, pxL429, pxL431, pxL440, pxL1240, pxL1600, pxL1681, pxL12028, pxL13849, pxL14880, pxL25173, pxL26908, pxL49600, pxL65535, pxL65536, ↓reduceIte, reduceCtorEq, pxJ_add, pxJ_sub, pxJ_mul, pxJ_neg, pxD_lt_t, pxD_lt_f, pxD_le_t, pxD_le_f, pxD_eq_t, pxD_eq_f, pxJ_lt, pxJ_le, pxJ_eq, pxJ_div, px_b2, px_bs, px_rb0, px_rb1, pxW_some, Option.some.injEq, pxM_eq, pxM_ne, pyN_gI, pyN_pI, pyN_rc, pyN_g1, pyN_a588, pyN_s588, pyN_g3, pyN_a589, pyN_s589, pyN_g4, pyN_a590, pyN_s590, pyN_g5, pyN_a591, pyN_s591, pyN_g6, pyN_a592, pyN_s592, pyN_g7, pyN_a593, pyN_s593, pyN_g8, pyN_a594, pyN_s594, pyN_g9, pyN_a595, pyN_s595, pyN_g10, pyN_a596, pyN_s596, pyN_g11, pyN_a597, pyN_s597, pyN_g19, pyN_a598, pyN_s598, pyN_g21, pyN_a599, pyN_s599, pyN_g31, pyN_a600, pyN_s600, pyN_g32, pyN_a601, pyN_s601, pyN_g38, pyN_a602, pyN_s602, pyN_g39, pyN_a603, pyN_s603, pyN_g46, pyN_a604, pyN_s604, pyN_g47, pyN_a605, pyN_s605, pyN_g48, pyN_a606, pyN_s606, pyN_g49, pyN_a607, pyN_s607, pyN_g55, pyN_a608, pyN_s608, pyN_g56, pyN_a609, pyN_s609, pyN_g57, pyN_a610, pyN_s610, pyN_g58, pyN_a611, pyN_s611, pyN_g59, pyN_a612, pyN_s612, pyN_g60, pyN_a613, pyN_s613, pyN_g74, pyN_a614, pyN_s614, pyN_g75, pyN_a615, pyN_s615, pyN_g76, pyN_a616, pyN_s616, pyN_g78, pyN_a617, pyN_s617, pyN_g79, pyN_a618, pyN_s618]
    exact hQ h V C
  | succ m ih =>
    intro N h k hk k0 hN H V C
    obtain ⟨N, rfl, hN⟩ := px_fu hN
    have lo := pxM_lo h 592 (14880 + k).toNat
    have hi := pxM_hi h 592 (14880 + k).toNat
    have ev : pxM h 592 (14880 + k).toNat = pxM h0 592 (14880 + k).toNat := V.m (by omega)
    rw [u_X12_comeBack_b2]
    unfold g_X12_comeBack_b2
    try simp (maxSteps := 4000000) (disch := first | assumption | omega | (simp only [pyS_I]; assumption)) only [pxL0, pxL1, pxL2, pxL3, pxL4, pxL5, pxL6, pxL7, pxL8, pxL9, pxL10, pxL11, pxL12, pxL13, pxL14, pxL15, pxL16, pxL17, pxL18, pxL19, pxL20, pxL21, pxL22, pxL23, pxL24, pxL25, pxL26, pxL27, pxL28, pxL29, pxL30, pxL31, pxL32, pxL33, pxL34, pxL35, pxL36, pxL37, pxL38, pxL39, pxL40, pxL41, pxL42, pxL43, pxL44, pxL45, pxL46, pxL47, pxL48, pxL49, pxL51, pxL57, pxL58, pxL59, pxL60, pxL61, pxL62, pxL63, pxL64, pxL65, pxL66, pxL67, pxL68, pxL69, pxL70, pxL71, pxL72, pxL73, pxL74, pxL75, pxL76, pxL77, pxL78, pxL79, pxL80, pxL81, pxL82, pxL83, pxL84, pxL85, pxL86, pxL87, pxL88, pxL89, pxL90, pxL91, pxL92, pxL93, pxL94, pxL95, pxL96, pxL97, pxL98, pxL99, pxL100, pxL101, pxL102, pxL103, pxL104, pxL105, pxL106, pxL107, pxL108, pxL109, pxL110, pxL111, pxL112, pxL113, pxL114, pxL115, pxL116, pxL117, pxL118, pxL119, pxL120, pxL121, pxL122, pxL123, pxL124, pxL125, pxL126, pxL200, pxL240, pxL287, pxL388, pxL400, pxL429, pxL431, pxL440, pxL1240, pxL1600, pxL1681, pxL12028, pxL13849, pxL14880, pxL25173, pxL26908, pxL49600, pxL65535, pxL65536, ↓reduceIte, reduceCtorEq, pxJ_add, pxJ_sub, pxJ_mul, pxJ_neg, pxD_lt_t, pxD_lt_f, pxD_le_t, pxD_le_f, pxD_eq_t, pxD_eq_f, pxJ_lt, pxJ_le, pxJ_eq, pxJ_div, px_b2, px_bs, px_rb0, px_rb1, pxW_some, Option.some.injEq, pxM_eq, pxM_ne, pyN_gI, pyN_pI, pyN_rc, pyN_g1, pyN_a588, pyN_s588, pyN_g3, pyN_a589, pyN_s589, pyN_g4, pyN_a590, pyN_s590, pyN_g5, pyN_a591, pyN_s591, pyN_g6, pyN_a592, pyN_s592, pyN_g7, pyN_a593, pyN_s593, pyN_g8, pyN_a594, pyN_s594, pyN_g9, pyN_a595, pyN_s595, pyN_g10, pyN_a596, pyN_s596, pyN_g11, pyN_a597, pyN_s597, pyN_g19, pyN_a598, pyN_s598, pyN_g21, pyN_a599, pyN_s599, pyN_g31, pyN_a600, pyN_s600, pyN_g32, pyN_a601, pyN_s601, pyN_g38, pyN_a602, pyN_s602, pyN_g39, pyN_a603, pyN_s603, pyN_g46, pyN_a604, pyN_s604, pyN_g47, pyN_a605, pyN_s605, pyN_g48, pyN_a606, pyN_s606, pyN_g49, pyN_a607, pyN_s607, pyN_g55, pyN_a608, pyN_s608, pyN_g56, pyN_a609, pyN_s609, pyN_g57, pyN_a610, pyN_s610, pyN_g58, pyN_a611, pyN_s611, pyN_g59, pyN_a612, pyN_s612, pyN_g60, pyN_a613, pyN_s613, pyN_g74, pyN_a614, pyN_s614, pyN_g75, pyN_a615, pyN_s615, pyN_g76, pyN_a616, pyN_s616, pyN_g78, pyN_a617, pyN_s617, pyN_g79, pyN_a618, pyN_s618]
    refine ih N (jw_setI h 592 k.toNat (pxJ (pxM h 592 (14880 + k).toNat))) (k + 1) (by omega) (by omega) (by omega) H (V.set ⟨rfl, by omega, by omega⟩) fun j j0 j1 => ?_
    by_cases e : j = k
    · rw [e, pxM_eq lo hi, ev]
    · rw [pxM_ne (by omega)]
      exact C j j0 (by omega)
/-- what lies saved in h is what stood in h0 -/
def pySv (h0 h : jw_H) : Prop := (∀ j : Int, 0 ≤ j → j < 12028 → pxM h 592 (14880 + j).toNat = pxM h0 592 j.toNat) ∧ (∀ j : Int, 0 ≤ j → j < 41 → pxM h 605 j.toNat = pxM h0 593 j.toNat) ∧ (∀ j : Int, 0 ≤ j → j < 5 → pxM h 606 j.toNat = pxM h0 596 j.toNat) ∧ (∀ j : Int, 0 ≤ j → j < 4 → pxM h 607 j.toNat = pxM h0 597 j.toNat) ∧ pxM h 587 50 = pxM h0 587 12 ∧ pxM h 587 51 = pxM h0 587 14 ∧ pxM h 587 52 = pxM h0 587 15 ∧ pxM h 587 53 = pxM h0 587 16 ∧ pxM h 587 54 = pxM h0 587 17
def pyQsv : Nat → Nat → Prop := fun k f => (k = 592 ∧ 14880 ≤ f) ∨ (605 ≤ k ∧ k ≤ 607) ∨ (k = 587 ∧ 50 ≤ f ∧ f ≤ 54)
theorem pySv.keep {P : Nat → Nat → Prop} {h0 h h1 : jw_H} (Z : pySv h0 h) (V : pyV P h h1) (n : ∀ k f, pyQsv k f → ¬ P k f) : pySv h0 h1 := by
  obtain ⟨z1, z2, z3, z4, z5, z6, z7, z8, z9⟩ := Z
  refine ⟨fun j j0 j1 => ?_, fun j j0 j1 => ?_, fun j j0 j1 => ?_, fun j j0 j1 => ?_, ?_, ?_, ?_, ?_, ?_⟩
  · rw [V.m (n _ _ (by unfold pyQsv; omega))]; exact z1 j j0 j1
  · rw [V.m (n _ _ (by unfold pyQsv; omega))]; exact z2 j j0 j1
  · rw [V.m (n _ _ (by unfold pyQsv; omega))]; exact z3 j j0 j1
  · rw [V.m (n _ _ (by unfold pyQsv; omega))]; exact z4 j j0 j1
  · rw [V.m (n _ _ (by unfold pyQsv; omega))]; exact z5
  · rw [V.m (n _ _ (by unfold pyQsv; omega))]; exact z6
  · rw [V.m (n _ _ (by unfold pyQsv; omega))]; exact z7
  · rw [V.m (n _ _ (by unfold pyQsv; omega))]; exact z8
  · rw [V.m (n _ _ (by unfold pyQsv; omega))]; exact z9
set_option maxHeartbeats 8000000 in
theorem n_save {h : jw_H} (H : pyS h) : pxW (f_X12_save h 587) fun _ h' => pyV pyQsv h h' ∧ pySv h h' := by
  unfold f_X12_save
  try simp (maxSteps := 4000000) (disch := first | assumption | omega | (simp only [pyS_I]; assumption)) only [pxL0, pxL1, pxL2, pxL3, pxL4, pxL5, pxL6, pxL7, pxL8, pxL9, pxL10, pxL11, pxL12, pxL13, pxL14, pxL15, pxL16, pxL17, pxL18, pxL19, pxL20, pxL21, pxL22, pxL23, pxL24, pxL25, pxL26, pxL27, pxL28, pxL29, pxL30, pxL31, pxL32, pxL33, pxL34, pxL35, pxL36, pxL37, pxL38, pxL39, pxL40, pxL41, pxL42, pxL43, pxL44, pxL45, pxL46, pxL47, pxL48, pxL49, pxL51, pxL57, pxL58, pxL59, pxL60, pxL61, pxL62, pxL63, pxL64, pxL65, pxL66, pxL67, pxL68, pxL69, pxL70, pxL71, pxL72, pxL73, pxL74, pxL75, pxL76, pxL77, pxL78, pxL79, pxL80, pxL81, pxL82, pxL83, pxL84, pxL85, pxL86, pxL87, pxL88, pxL89, pxL90, pxL91, pxL92, pxL93, pxL94, pxL95, pxL96, pxL97, pxL98, pxL99, pxL100, pxL101, pxL102, pxL103, pxL104, pxL105, pxL106, pxL107, pxL108, pxL109, pxL110, pxL111, pxL112, pxL113, pxL114, pxL115, pxL116, pxL117, pxL118, pxL119, pxL120, pxL121, pxL122, pxL123, pxL124, pxL125, pxL126, pxL200, pxL240, pxL287, pxL388, pxL400, pxL429, pxL431, pxL440, pxL1240, pxL1600, pxL1681, pxL12028, pxL13849, pxL14880, pxL25173, pxL26908, pxL49600, pxL65535, pxL65536, ↓reduceIte, reduceCtorEq, pxJ_add, pxJ_sub, pxJ_mul, pxJ_neg, pxD_lt_t, pxD_lt_f, pxD_le_t, pxD_le_f, pxD_eq_t, pxD_eq_f, pxJ_lt, pxJ_le, pxJ_eq, pxJ_div, px_b2, px_bs, px_rb0, px_rb1, pxW_some, Option.some.injEq, pxM_eq, pxM_ne, pyN_gI, pyN_pI, pyN_rc, pyN_g1, pyN_a588, pyN_s588, pyN_g3, pyN_a589, pyN_s589, pyN_g4, pyN_a590, pyN_s590, pyN_g5, pyN_a591, pyN_s591, pyN_g6, pyN_a592, pyN_s592, pyN_g7, pyN_a593, pyN_s593, pyN_g8, pyN_a594, pyN_s594, pyN_g9, pyN_a595, pyN_s595, pyN_g10, pyN_a596, pyN_s596, pyN_g11, pyN_a597, pyN_s597, pyN_g19, pyN_a598, pyN_s598, pyN_g21, pyN_a599, pyN_s599, pyN_g31, pyN_a600, pyN_s600, pyN_g32, pyN_a601, pyN_s601, pyN_g38, pyN_a602, pyN_s602, pyN_g39, pyN_a603, pyN_s603, pyN_g46, pyN_a604, pyN_s604, pyN_g47, pyN_a605, pyN_s605, pyN_g48, pyN_a606, pyN_s606, pyN_g49, pyN_a607, pyN_s607, pyN_g55, pyN_a608, pyN_s608, pyN_g56, pyN_a609, pyN_s609, pyN_g57, pyN_a610, pyN_s610, pyN_g58, pyN_a611, pyN_s611, pyN_g59, pyN_a612, pyN_s612, pyN_g60, pyN_a613, pyN_s613, pyN_g74, pyN_a614, pyN_s614, pyN_g75, pyN_a615, pyN_s615, pyN_g76, pyN_a616, pyN_s616, pyN_g78, pyN_a617, pyN_s617, pyN_g79, pyN_a618, pyN_s618]
  refine n_save_b2 (h0 := h) (fun h1 V1 c1 => ?_) 12028 jw_FU h 0 (by omega) (by omega) (by unfold jw_FU; omega) H pyV.rfl (fun j j0 j1 => by omega)
  refine n_save_b33 (h0 := h1) (fun h2 V2 c2 => ?_) 41 jw_FU h1 0 (by omega) (by omega) (by unfold jw_FU; omega) (V1.s H) pyV.rfl (fun j j0 j1 => by omega)
  refine n_save_b59 (h0 := h2) (fun h3 V3 c3 => ?_) 5 jw_FU h2 0 (by omega) (by omega) (by unfold jw_FU; omega) (V2.s (V1.s H)) pyV.rfl (fun j j0 j1 => by omega)
  refine n_save_b84 (h0 := h3) (fun h4 V4 c4 d1 d2 d3 d4 d5 => ?_) 4 jw_FU h3 0 (by omega) (by omega) (by unfold jw_FU; omega) (V3.s (V2.s (V1.s H))) pyV.rfl (fun j j0 j1 => by omega)
  refine ⟨(((V1.mono (fun k f z => by unfold pyQsv; omega)).trans (V2.mono (fun k f z => by unfold pyQsv; omega))).trans (V3.mono (fun k f z => by unfold pyQsv; omega))).trans (V4.mono (fun k f z => by unfold pyQsv; omega)), fun j j0 j1 => ?_, fun j j0 j1 => ?_, fun j j0 j1 => ?_, fun j j0 j1 => ?_, ?_, ?_, ?_, ?_, ?_⟩
  · rw [V4.m (by omega), V3.m (by omega), V2.m (by omega)]; exact c1 j j0 j1
  · rw [V4.m (by omega), V3.m (by omega), c2 j j0 j1, V1.m (by omega)]
  · rw [V4.m (by omega), c3 j j0 j1, V2.m (by omega), V1.m (by omega)]
  · rw [c4 j j0 j1, V3.m (by omega), V2.m (by omega), V1.m (by omega)]
  · rw [d1, V3.m (by omega), V2.m (by omega), V1.m (by omega)]
  · rw [d2, V3.m (by omega), V2.m (by omega), V1.m (by omega)]
  · rw [d3, V3.m (by omega), V2.m (by omega), V1.m (by omega)]
  · rw [d4, V3.m (by omega), V2.m (by omega), V1.m (by omega)]
  · rw [d5, V3.m (by omega), V2.m (by omega), V1.m (by omega)]
def pyQcb : Nat → Nat → Prop := fun k f => (k = 592 ∧ f < 12028) ∨ k = 593 ∨ k = 596 ∨ k = 597 ∨ (k = 587 ∧ (f = 12 ∨ f = 14 ∨ f = 15 ∨ f = 16 ∨ f = 17))
/-- all that is saved stands again as it stood -/
def pyCb (h0 h' : jw_H) : Prop := (∀ j : Int, 0 ≤ j → j < 12028 → pxM h' 592 j.toNat = pxM h0 592 j.toNat) ∧ (∀ j : Int, 0 ≤ j → j < 41 → pxM h' 593 j.toNat = pxM h0 593 j.toNat) ∧ (∀ j : Int, 0 ≤ j → j < 5 → pxM h' 596 j.toNat = pxM h0 596 j.toNat) ∧ (∀ j : Int, 0 ≤ j → j < 4 → pxM h' 597 j.toNat = pxM h0 597 j.toNat) ∧ pxM h' 587 12 = pxM h0 587 12 ∧ pxM h' 587 14 = pxM h0 587 14 ∧ pxM h' 587 15 = pxM h0 587 15 ∧ pxM h' 587 16 = pxM h0 587 16 ∧ pxM h' 587 17 = pxM h0 587 17
set_option maxHeartbeats 8000000 in
theorem n_comeBack {h0 h : jw_H} (H : pyS h) (Z : pySv h0 h) : pxW (f_X12_comeBack h 587) fun _ h' => pyV pyQcb h h' ∧ pyCb h0 h' := by
  obtain ⟨z1, z2, z3, z4, z5, z6, z7, z8, z9⟩ := Z
  unfold f_X12_comeBack
  try simp (maxSteps := 4000000) (disch := first | assumption | omega | (simp only [pyS_I]; assumption)) only [pxL0, pxL1, pxL2, pxL3, pxL4, pxL5, pxL6, pxL7, pxL8, pxL9, pxL10, pxL11, pxL12, pxL13, pxL14, pxL15, pxL16, pxL17, pxL18, pxL19, pxL20, pxL21, pxL22, pxL23, pxL24, pxL25, pxL26, pxL27, pxL28, pxL29, pxL30, pxL31, pxL32, pxL33, pxL34, pxL35, pxL36, pxL37, pxL38, pxL39, pxL40, pxL41, pxL42, pxL43, pxL44, pxL45, pxL46, pxL47, pxL48, pxL49, pxL51, pxL57, pxL58, pxL59, pxL60, pxL61, pxL62, pxL63, pxL64, pxL65, pxL66, pxL67, pxL68, pxL69, pxL70, pxL71, pxL72, pxL73, pxL74, pxL75, pxL76, pxL77, pxL78, pxL79, pxL80, pxL81, pxL82, pxL83, pxL84, pxL85, pxL86, pxL87, pxL88, pxL89, pxL90, pxL91, pxL92, pxL93, pxL94, pxL95, pxL96, pxL97, pxL98, pxL99, pxL100, pxL101, pxL102, pxL103, pxL104, pxL105, pxL106, pxL107, pxL108, pxL109, pxL110, pxL111, pxL112, pxL113, pxL114, pxL115, pxL116, pxL117, pxL118, pxL119, pxL120, pxL121, pxL122, pxL123, pxL124, pxL125, pxL126, pxL200, pxL240, pxL287, pxL388, pxL400, pxL429, pxL431, pxL440, pxL1240, pxL1600, pxL1681, pxL12028, pxL13849, pxL14880, pxL25173, pxL26908, pxL49600, pxL65535, pxL65536, ↓reduceIte, reduceCtorEq, pxJ_add, pxJ_sub, pxJ_mul, pxJ_neg, pxD_lt_t, pxD_lt_f, pxD_le_t, pxD_le_f, pxD_eq_t, pxD_eq_f, pxJ_lt, pxJ_le, pxJ_eq, pxJ_div, px_b2, px_bs, px_rb0, px_rb1, pxW_some, Option.some.injEq, pxM_eq, pxM_ne, pyN_gI, pyN_pI, pyN_rc, pyN_g1, pyN_a588, pyN_s588, pyN_g3, pyN_a589, pyN_s589, pyN_g4, pyN_a590, pyN_s590, pyN_g5, pyN_a591, pyN_s591, pyN_g6, pyN_a592, pyN_s592, pyN_g7, pyN_a593, pyN_s593, pyN_g8, pyN_a594, pyN_s594, pyN_g9, pyN_a595, pyN_s595, pyN_g10, pyN_a596, pyN_s596, pyN_g11, pyN_a597, pyN_s597, pyN_g19, pyN_a598, pyN_s598, pyN_g21, pyN_a599, pyN_s599, pyN_g31, pyN_a600, pyN_s600, pyN_g32, pyN_a601, pyN_s601, pyN_g38, pyN_a602, pyN_s602, pyN_g39, pyN_a603, pyN_s603, pyN_g46, pyN_a604, pyN_s604, pyN_g47, pyN_a605, pyN_s605, pyN_g48, pyN_a606, pyN_s606, pyN_g49, pyN_a607, pyN_s607, pyN_g55, pyN_a608, pyN_s608, pyN_g56, pyN_a609, pyN_s609, pyN_g57, pyN_a610, pyN_s610, pyN_g58, pyN_a611, pyN_s611, pyN_g59, pyN_a612, pyN_s612, pyN_g60, pyN_a613, pyN_s613, pyN_g74, pyN_a614, pyN_s614, pyN_g75, pyN_a615, pyN_s615, pyN_g76, pyN_a616, pyN_s616, pyN_g78, pyN_a617, pyN_s617, pyN_g79, pyN_a618, pyN_s618]
  refine n_comeBack_b2 (h0 := h) (fun h1 V1 c1 => ?_) 12028 jw_FU h 0 (by omega) (by omega) (by unfold jw_FU; omega) H pyV.rfl (fun j j0 j1 => by omega)
  refine n_comeBack_b33 (h0 := h1) (fun h2 V2 c2 => ?_) 41 jw_FU h1 0 (by omega) (by omega) (by unfold jw_FU; omega) (V1.s H) pyV.rfl (fun j j0 j1 => by omega)
  refine n_comeBack_b59 (h0 := h2) (fun h3 V3 c3 => ?_) 5 jw_FU h2 0 (by omega) (by omega) (by unfold jw_FU; omega) (V2.s (V1.s H)) pyV.rfl (fun j j0 j1 => by omega)
  refine n_comeBack_b84 (h0 := h3) (fun h4 V4 c4 d1 d2 d3 d4 d5 => ?_) 4 jw_FU h3 0 (by omega) (by omega) (by unfold jw_FU; omega) (V3.s (V2.s (V1.s H))) pyV.rfl (fun j j0 j1 => by omega)
  refine ⟨(((V1.mono (fun k f z => by unfold pyQcb; omega)).trans (V2.mono (fun k f z => by unfold pyQcb; omega))).trans (V3.mono (fun k f z => by unfold pyQcb; omega))).trans (V4.mono (fun k f z => by unfold pyQcb; omega)), fun j j0 j1 => ?_, fun j j0 j1 => ?_, fun j j0 j1 => ?_, fun j j0 j1 => ?_, ?_, ?_, ?_, ?_, ?_⟩
  · rw [V4.m (by omega), V3.m (by omega), V2.m (by omega), c1 j j0 j1]; exact z1 j j0 j1
  · rw [V4.m (by omega), V3.m (by omega), c2 j j0 j1, V1.m (by omega)]; exact z2 j j0 j1
  · rw [V4.m (by omega), c3 j j0 j1, V2.m (by omega), V1.m (by omega)]; exact z3 j j0 j1
  · rw [c4 j j0 j1, V3.m (by omega), V2.m (by omega), V1.m (by omega)]; exact z4 j j0 j1
  · rw [d1, V3.m (by omega), V2.m (by omega), V1.m (by omega)]; exact z5
  · rw [d2, V3.m (by omega), V2.m (by omega), V1.m (by omega)]; exact z6
  · rw [d3, V3.m (by omega), V2.m (by omega), V1.m (by omega)]; exact z7
  · rw [d4, V3.m (by omega), V2.m (by omega), V1.m (by omega)]; exact z8
  · rw [d5, V3.m (by omega), V2.m (by omega), V1.m (by omega)]; exact z9
/-- so the frame is what else was touched -/
theorem pyCb.v {P : Nat → Nat → Prop} {h0 h' : jw_H} (C : pyCb h0 h') (V : pyV P h0 h') (ids : ∀ f, P 593 f → f < 41) (mks : ∀ f, P 596 f → f < 5) (fls : ∀ f, P 597 f → f < 4) : pyV (fun k f => P k f ∧ ¬ pyQcb k f) h0 h' := by
  refine V.less fun k f p n => ?_
  obtain ⟨c1, c2, c3, c4, c5, c6, c7, c8, c9⟩ := C
  have q : pyQcb k f := Classical.byContradiction fun z => n ⟨p, z⟩
  unfold pyQcb at q
  rcases q with ⟨a, b⟩ | a | a | a | ⟨a, b⟩
  · rw [a]; have := c1 f (by omega) (by omega); rwa [show (f : Int).toNat = f by omega] at this
  · rw [a] at p ⊢; have := ids f p; have := c2 f (by omega) (by omega); rwa [show (f : Int).toNat = f by omega] at this
  · rw [a] at p ⊢; have := mks f p; have := c3 f (by omega) (by omega); rwa [show (f : Int).toNat = f by omega] at this
  · rw [a] at p ⊢; have := fls f p; have := c4 f (by omega) (by omega); rwa [show (f : Int).toNat = f by omega] at this
  · rw [a]
    rcases b with b | b | b | b | b <;> rw [b] <;> assumption
