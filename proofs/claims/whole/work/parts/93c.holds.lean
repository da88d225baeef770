/-! the reference, line by line: whether a where holds -/
theorem pyNb0 : vp_nar .boolean (0 : Int32) = pxJ 0 := by decide +kernel
theorem pyNb1 : vp_nar .boolean (1 : Int32) = pxJ 1 := by decide +kernel
theorem pyRb0 : jw_rb (0 : Int32) = some () := px_rb0
theorem pyRb1 : jw_rb (1 : Int32) = some () := px_rb1
theorem n_isNumeric {h : jw_H} {c : Int} (c0 : -1000 ≤ c) (c1 : c ≤ 1000) : f_X12_isNumeric h (pxJ c) = some (pxJ (if (48 ≤ c ∧ c ≤ 57) ∨ c = 36 then 1 else 0), h) := by
  unfold f_X12_isNumeric g_X12_isNumeric_b13 g_X12_isNumeric_b18
  rw [n_isDigit c0 c1, px_b2]
  by_cases a : pxIsDg c = true
  · have a' := pxIsDg_i.mp a
    rw [if_pos a, if_neg (show ¬ (pxJ 1 = 0) by decide), if_pos (Or.inl a'), pyRb1, px_bs]
    rfl
  · have a' : ¬ (48 ≤ c ∧ c ≤ 57) := fun z => a (pxIsDg_i.mpr z)
    rw [if_neg a, if_pos (show pxJ 0 = 0 from rfl)]
    by_cases b : c = 36
    · rw [if_pos (show pxJ c = (36 : Int32) by rw [b]; rfl), if_pos (Or.inr b), pyRb1, px_bs]
      rfl
    · rw [if_neg (show ¬ (pxJ c = (36 : Int32)) from fun z => b ((pxJ_eq (a := c) (b := 36) (by omega) (by omega) (by omega) (by omega)).mp z)), if_neg (fun z => z.elim a' b), pyRb0, px_bs]
      rfl
theorem n_numericAt_b47 {h : jw_H} {s : List Int} (H : pyS h) (G : pyG h s) : ∀ (m N : Nat) (p v : Int), (s.length : Int) + 1 ≤ p + m → m < N → 0 ≤ p → p ≤ s.length → (pxShf s m p).1 = true → m ≤ 61 → -(100 * (200 - m)) ≤ v → v ≤ 100 * (200 - m) →
    f_X12_numericAt_b47 N h 587 (pxJ v) (pxJ p) = some (pxJ (v + (pxShf s m p).2.2), h) := by
  have l60 := G.2.1.1
  intro m
  induction m with
  | zero => intro N p v hf; omega
  | succ m ih =>
    intro N p v hf hN p0 p1 ok m61 v0 v1
    obtain ⟨N, rfl, hN⟩ := px_fu hN
    have i0 := pxP_in G.2.1 p
    have e0 : pxShf s (m + 1) p = if pxP s p = 43 ∨ pxP s p = 45 then (if (pxNum s (p + 1)).1 = true then ((pxShf s m (pxNum s (p + 1)).2).1, (pxShf s m (pxNum s (p + 1)).2).2.1, (if pxP s p = 45 then - pxNumV s (p + 1) else pxNumV s (p + 1)) + (pxShf s m (pxNum s (p + 1)).2).2.2) else (false, (pxNum s (p + 1)).2, 0)) else (true, p, 0) := rfl
    rw [u_X12_numericAt_b47]
    unfold g_X12_numericAt_b47 g_X12_numericAt_b77 g_X12_numericAt_b107
    by_cases a : pxP s p = 43 ∨ pxP s p = 45
    · rw [if_pos a] at e0
      rw [e0] at ok ⊢
      have pl : p < s.length := by omega
      have m0 := G.2.2 p p0 pl
      rw [← pxP_E p0 pl] at m0
      by_cases d : (pxNum s (p + 1)).1 = true
      · rw [if_pos d] at ok ⊢
        have nb := pxNum_b (s := s) (p := p + 1) (by omega) (by omega)
        have nb2 := (nb.2.2.2.1 d).1
        have vb := pxNumV_b d
        have na := n_numberAt H G (p := p + 1) (by omega) d
        have nh := n_behindNumber H G (p := p + 1) (by omega) (by omega) d
        rcases a with a | a
        · have ih' := ih N (pxNum s (p + 1)).2 (v + pxNumV s (p + 1)) (by omega) (by omega) (by omega) (by omega) ok (by omega) (by omega) (by omega)
          rw [if_neg (show ¬ pxP s p = 45 by omega)]
          dsimp only
          rw [show v + (pxNumV s (p + 1) + (pxShf s m (pxNum s (p + 1)).2).2.2) = v + pxNumV s (p + 1) + (pxShf s m (pxNum s (p + 1)).2).2.2 by omega]
          try simp (maxSteps := 4000000) (disch := first | assumption | omega | (simp only [pyS_I]; assumption)) only [pxL0, pxL1, pxL2, pxL3, pxL4, pxL5, pxL6, pxL7, pxL8, pxL9, pxL10, pxL11, pxL12, pxL13, pxL14, pxL15, pxL16, pxL17, pxL18, pxL19, pxL20, pxL21, pxL22, pxL23, pxL24, pxL25, pxL26, pxL27, pxL28, pxL29, pxL30, pxL31, pxL32, pxL33, pxL34, pxL35, pxL36, pxL37, pxL38, pxL39, pxL40, pxL41, pxL42, pxL43, pxL44, pxL45, pxL46, pxL47, pxL48, pxL49, pxL51, pxL57, pxL58, pxL59, pxL60, pxL61, pxL62, pxL63, pxL64, pxL65, pxL66, pxL67, pxL68, pxL69, pxL70, pxL71, pxL72, pxL73, pxL74, pxL75, pxL76, pxL77, pxL78, pxL79, pxL80, pxL81, pxL82, pxL83, pxL84, pxL85, pxL86, pxL87, pxL88, pxL89, pxL90, pxL91, pxL92, pxL93, pxL94, pxL95, pxL96, pxL97, pxL98, pxL99, pxL100, pxL101, pxL102, pxL103, pxL104, pxL105, pxL106, pxL107, pxL108, pxL109, pxL110, pxL111, pxL112, pxL113, pxL114, pxL115, pxL116, pxL117, pxL118, pxL119, pxL120, pxL121, pxL122, pxL123, pxL124, pxL125, pxL126, pxL200, pxL240, pxL287, pxL388, pxL400, pxL429, pxL431, pxL440, pxL1240, pxL1600, pxL1681, pxL12028, pxL13849, pxL14880, pxL25173, pxL26908, pxL49600, pxL65535, pxL65536, ↓reduceIte, reduceCtorEq, pxJ_add, pxJ_sub, pxJ_mul, pxJ_neg, pxD_lt_t, pxD_lt_f, pxD_le_t, pxD_le_f, pxD_eq_t, pxD_eq_f, pxJ_lt, pxJ_le, pxJ_eq, pxJ_div, px_b2, px_bs, px_rb0, px_rb1, pxW_some, Option.some.injEq, pxM_eq, pxM_ne, pyN_gI, pyN_pI, pyN_rc, pyN_g1, pyN_a588, pyN_s588, pyN_g3, pyN_a589, pyN_s589, pyN_g4, pyN_a590, pyN_s590, pyN_g5, pyN_a591, pyN_s591, pyN_g6, pyN_a592, pyN_s592, pyN_g7, pyN_a593, pyN_s593, pyN_g8, pyN_a594, pyN_s594, pyN_g9, pyN_a595, pyN_s595, pyN_g10, pyN_a596, pyN_s596, pyN_g11, pyN_a597, pyN_s597, pyN_g19, pyN_a598, pyN_s598, pyN_g21, pyN_a599, pyN_s599, pyN_g31, pyN_a600, pyN_s600, pyN_g32, pyN_a601, pyN_s601, pyN_g38, pyN_a602, pyN_s602, pyN_g39, pyN_a603, pyN_s603, pyN_g46, pyN_a604, pyN_s604, pyN_g47, pyN_a605, pyN_s605, pyN_g48, pyN_a606, pyN_s606, pyN_g49, pyN_a607, pyN_s607, pyN_g55, pyN_a608, pyN_s608, pyN_g56, pyN_a609, pyN_s609, pyN_g57, pyN_a610, pyN_s610, pyN_g58, pyN_a611, pyN_s611, pyN_g59, pyN_a612, pyN_s612, pyN_g60, pyN_a613, pyN_s613, pyN_g74, pyN_a614, pyN_s614, pyN_g75, pyN_a615, pyN_s615, pyN_g76, pyN_a616, pyN_s616, pyN_g78, pyN_a617, pyN_s617, pyN_g79, pyN_a618, pyN_s618, G.1, m0, a, na, nh, ih']
        · have ih' := ih N (pxNum s (p + 1)).2 (v + - pxNumV s (p + 1)) (by omega) (by omega) (by omega) (by omega) ok (by omega) (by omega) (by omega)
          rw [if_pos a]
          dsimp only
          rw [show v + (-pxNumV s (p + 1) + (pxShf s m (pxNum s (p + 1)).2).2.2) = v + -pxNumV s (p + 1) + (pxShf s m (pxNum s (p + 1)).2).2.2 by omega]
          try simp (maxSteps := 4000000) (disch := first | assumption | omega | (simp only [pyS_I]; assumption)) only [pxL0, pxL1, pxL2, pxL3, pxL4, pxL5, pxL6, pxL7, pxL8, pxL9, pxL10, pxL11, pxL12, pxL13, pxL14, pxL15, pxL16, pxL17, pxL18, pxL19, pxL20, pxL21, pxL22, pxL23, pxL24, pxL25, pxL26, pxL27, pxL28, pxL29, pxL30, pxL31, pxL32, pxL33, pxL34, pxL35, pxL36, pxL37, pxL38, pxL39, pxL40, pxL41, pxL42, pxL43, pxL44, pxL45, pxL46, pxL47, pxL48, pxL49, pxL51, pxL57, pxL58, pxL59, pxL60, pxL61, pxL62, pxL63, pxL64, pxL65, pxL66, pxL67, pxL68, pxL69, pxL70, pxL71, pxL72, pxL73, pxL74, pxL75, pxL76, pxL77, pxL78, pxL79, pxL80, pxL81, pxL82, pxL83, pxL84, pxL85, pxL86, pxL87, pxL88, pxL89, pxL90, pxL91, pxL92, pxL93, pxL94, pxL95, pxL96, pxL97, pxL98, pxL99, pxL100, pxL101, pxL102, pxL103, pxL104, pxL105, pxL106, pxL107, pxL108, pxL109, pxL110, pxL111, pxL112, pxL113, pxL114, pxL115, pxL116, pxL117, pxL118, pxL119, pxL120, pxL121, pxL122, pxL123, pxL124, pxL125, pxL126, pxL200, pxL240, pxL287, pxL388, pxL400, pxL429, pxL431, pxL440, pxL1240, pxL1600, pxL1681, pxL12028, pxL13849, pxL14880, pxL25173, pxL26908, pxL49600, pxL65535, pxL65536, ↓reduceIte, reduceCtorEq, pxJ_add, pxJ_sub, pxJ_mul, pxJ_neg, pxD_lt_t, pxD_lt_f, pxD_le_t, pxD_le_f, pxD_eq_t, pxD_eq_f, pxJ_lt, pxJ_le, pxJ_eq, pxJ_div, px_b2, px_bs, px_rb0, px_rb1, pxW_some, Option.some.injEq, pxM_eq, pxM_ne, pyN_gI, pyN_pI, pyN_rc, pyN_g1, pyN_a588, pyN_s588, pyN_g3, pyN_a589, pyN_s589, pyN_g4, pyN_a590, pyN_s590, pyN_g5, pyN_a591, pyN_s591, pyN_g6, pyN_a592, pyN_s592, pyN_g7, pyN_a593, pyN_s593, pyN_g8, pyN_a594, pyN_s594, pyN_g9, pyN_a595, pyN_s595, pyN_g10, pyN_a596, pyN_s596, pyN_g11, pyN_a597, pyN_s597, pyN_g19, pyN_a598, pyN_s598, pyN_g21, pyN_a599, pyN_s599, pyN_g31, pyN_a600, pyN_s600, pyN_g32, pyN_a601, pyN_s601, pyN_g38, pyN_a602, pyN_s602, pyN_g39, pyN_a603, pyN_s603, pyN_g46, pyN_a604, pyN_s604, pyN_g47, pyN_a605, pyN_s605, pyN_g48, pyN_a606, pyN_s606, pyN_g49, pyN_a607, pyN_s607, pyN_g55, pyN_a608, pyN_s608, pyN_g56, pyN_a609, pyN_s609, pyN_g57, pyN_a610, pyN_s610, pyN_g58, pyN_a611, pyN_s611, pyN_g59, pyN_a612, pyN_s612, pyN_g60, pyN_a613, pyN_s613, pyN_g74, pyN_a614, pyN_s614, pyN_g75, pyN_a615, pyN_s615, pyN_g76, pyN_a616, pyN_s616, pyN_g78, pyN_a617, pyN_s617, pyN_g79, pyN_a618, pyN_s618, G.1, m0, a, na, nh, ih']
      · rw [if_neg d] at ok; cases ok
    · rw [if_neg a] at e0
      rw [e0]
      dsimp only
      rw [show v + 0 = v by omega]
      by_cases en : (s.length : Int) ≤ p
      · try simp (maxSteps := 4000000) (disch := first | assumption | omega | (simp only [pyS_I]; assumption)) only [pxL0, pxL1, pxL2, pxL3, pxL4, pxL5, pxL6, pxL7, pxL8, pxL9, pxL10, pxL11, pxL12, pxL13, pxL14, pxL15, pxL16, pxL17, pxL18, pxL19, pxL20, pxL21, pxL22, pxL23, pxL24, pxL25, pxL26, pxL27, pxL28, pxL29, pxL30, pxL31, pxL32, pxL33, pxL34, pxL35, pxL36, pxL37, pxL38, pxL39, pxL40, pxL41, pxL42, pxL43, pxL44, pxL45, pxL46, pxL47, pxL48, pxL49, pxL51, pxL57, pxL58, pxL59, pxL60, pxL61, pxL62, pxL63, pxL64, pxL65, pxL66, pxL67, pxL68, pxL69, pxL70, pxL71, pxL72, pxL73, pxL74, pxL75, pxL76, pxL77, pxL78, pxL79, pxL80, pxL81, pxL82, pxL83, pxL84, pxL85, pxL86, pxL87, pxL88, pxL89, pxL90, pxL91, pxL92, pxL93, pxL94, pxL95, pxL96, pxL97, pxL98, pxL99, pxL100, pxL101, pxL102, pxL103, pxL104, pxL105, pxL106, pxL107, pxL108, pxL109, pxL110, pxL111, pxL112, pxL113, pxL114, pxL115, pxL116, pxL117, pxL118, pxL119, pxL120, pxL121, pxL122, pxL123, pxL124, pxL125, pxL126, pxL200, pxL240, pxL287, pxL388, pxL400, pxL429, pxL431, pxL440, pxL1240, pxL1600, pxL1681, pxL12028, pxL13849, pxL14880, pxL25173, pxL26908, pxL49600, pxL65535, pxL65536, ↓reduceIte, reduceCtorEq, pxJ_add, pxJ_sub, pxJ_mul, pxJ_neg, pxD_lt_t, pxD_lt_f, pxD_le_t, pxD_le_f, pxD_eq_t, pxD_eq_f, pxJ_lt, pxJ_le, pxJ_eq, pxJ_div, px_b2, px_bs, px_rb0, px_rb1, pxW_some, Option.some.injEq, pxM_eq, pxM_ne, pyN_gI, pyN_pI, pyN_rc, pyN_g1, pyN_a588, pyN_s588, pyN_g3, pyN_a589, pyN_s589, pyN_g4, pyN_a590, pyN_s590, pyN_g5, pyN_a591, pyN_s591, pyN_g6, pyN_a592, pyN_s592, pyN_g7, pyN_a593, pyN_s593, pyN_g8, pyN_a594, pyN_s594, pyN_g9, pyN_a595, pyN_s595, pyN_g10, pyN_a596, pyN_s596, pyN_g11, pyN_a597, pyN_s597, pyN_g19, pyN_a598, pyN_s598, pyN_g21, pyN_a599, pyN_s599, pyN_g31, pyN_a600, pyN_s600, pyN_g32, pyN_a601, pyN_s601, pyN_g38, pyN_a602, pyN_s602, pyN_g39, pyN_a603, pyN_s603, pyN_g46, pyN_a604, pyN_s604, pyN_g47, pyN_a605, pyN_s605, pyN_g48, pyN_a606, pyN_s606, pyN_g49, pyN_a607, pyN_s607, pyN_g55, pyN_a608, pyN_s608, pyN_g56, pyN_a609, pyN_s609, pyN_g57, pyN_a610, pyN_s610, pyN_g58, pyN_a611, pyN_s611, pyN_g59, pyN_a612, pyN_s612, pyN_g60, pyN_a613, pyN_s613, pyN_g74, pyN_a614, pyN_s614, pyN_g75, pyN_a615, pyN_s615, pyN_g76, pyN_a616, pyN_s616, pyN_g78, pyN_a617, pyN_s617, pyN_g79, pyN_a618, pyN_s618, G.1]
      · have m0 := G.2.2 p p0 (by omega)
        rw [← pxP_E p0 (by omega)] at m0
        try simp (maxSteps := 4000000) (disch := first | assumption | omega | (simp only [pyS_I]; assumption)) only [pxL0, pxL1, pxL2, pxL3, pxL4, pxL5, pxL6, pxL7, pxL8, pxL9, pxL10, pxL11, pxL12, pxL13, pxL14, pxL15, pxL16, pxL17, pxL18, pxL19, pxL20, pxL21, pxL22, pxL23, pxL24, pxL25, pxL26, pxL27, pxL28, pxL29, pxL30, pxL31, pxL32, pxL33, pxL34, pxL35, pxL36, pxL37, pxL38, pxL39, pxL40, pxL41, pxL42, pxL43, pxL44, pxL45, pxL46, pxL47, pxL48, pxL49, pxL51, pxL57, pxL58, pxL59, pxL60, pxL61, pxL62, pxL63, pxL64, pxL65, pxL66, pxL67, pxL68, pxL69, pxL70, pxL71, pxL72, pxL73, pxL74, pxL75, pxL76, pxL77, pxL78, pxL79, pxL80, pxL81, pxL82, pxL83, pxL84, pxL85, pxL86, pxL87, pxL88, pxL89, pxL90, pxL91, pxL92, pxL93, pxL94, pxL95, pxL96, pxL97, pxL98, pxL99, pxL100, pxL101, pxL102, pxL103, pxL104, pxL105, pxL106, pxL107, pxL108, pxL109, pxL110, pxL111, pxL112, pxL113, pxL114, pxL115, pxL116, pxL117, pxL118, pxL119, pxL120, pxL121, pxL122, pxL123, pxL124, pxL125, pxL126, pxL200, pxL240, pxL287, pxL388, pxL400, pxL429, pxL431, pxL440, pxL1240, pxL1600, pxL1681, pxL12028, pxL13849, pxL14880, pxL25173, pxL26908, pxL49600, pxL65535, pxL65536, ↓reduceIte, reduceCtorEq, pxJ_add, pxJ_sub, pxJ_mul, pxJ_neg, pxD_lt_t, pxD_lt_f, pxD_le_t, pxD_le_f, pxD_eq_t, pxD_eq_f, pxJ_lt, pxJ_le, pxJ_eq, pxJ_div, px_b2, px_bs, px_rb0, px_rb1, pxW_some, Option.some.injEq, pxM_eq, pxM_ne, pyN_gI, pyN_pI, pyN_rc, pyN_g1, pyN_a588, pyN_s588, pyN_g3, pyN_a589, pyN_s589, pyN_g4, pyN_a590, pyN_s590, pyN_g5, pyN_a591, pyN_s591, pyN_g6, pyN_a592, pyN_s592, pyN_g7, pyN_a593, pyN_s593, pyN_g8, pyN_a594, pyN_s594, pyN_g9, pyN_a595, pyN_s595, pyN_g10, pyN_a596, pyN_s596, pyN_g11, pyN_a597, pyN_s597, pyN_g19, pyN_a598, pyN_s598, pyN_g21, pyN_a599, pyN_s599, pyN_g31, pyN_a600, pyN_s600, pyN_g32, pyN_a601, pyN_s601, pyN_g38, pyN_a602, pyN_s602, pyN_g39, pyN_a603, pyN_s603, pyN_g46, pyN_a604, pyN_s604, pyN_g47, pyN_a605, pyN_s605, pyN_g48, pyN_a606, pyN_s606, pyN_g49, pyN_a607, pyN_s607, pyN_g55, pyN_a608, pyN_s608, pyN_g56, pyN_a609, pyN_s609, pyN_g57, pyN_a610, pyN_s610, pyN_g58, pyN_a611, pyN_s611, pyN_g59, pyN_a612, pyN_s612, pyN_g60, pyN_a613, pyN_s613, pyN_g74, pyN_a614, pyN_s614, pyN_g75, pyN_a615, pyN_s615, pyN_g76, pyN_a616, pyN_s616, pyN_g78, pyN_a617, pyN_s617, pyN_g79, pyN_a618, pyN_s618, G.1, m0]
theorem n_numericAt {h : jw_H} {s : List Int} {n q : Int} (H : pyS h) (G : pyG h s) (e65 : pxM h 587 65 = n) (n0 : 0 ≤ n) (n1 : n ≤ 40) (p0 : 0 ≤ q) (p1 : q ≤ s.length) (ok : (pxAddr s q).1 = true) (nm : pxBIs s q = true) : f_X12_numericAt h 587 (pxJ q) = some (pxJ (pxBNum s q n), h) := by
  have l60 := G.2.1.1
  obtain ⟨sok, hok⟩ := pyAddr ok
  have sb := pxSpot_b p0 p1
  have sb2 := sb.2.2 sok
  have nm' := pxBIs_i.mp nm
  have pl := (pxP_lt (s := s) (p := q) (by omega)).2
  have m0 := G.2.2 q p0 pl
  rw [← pxP_E p0 pl] at m0
  unfold f_X12_numericAt g_X12_numericAt_b23 g_X12_numericAt_b46
  rw [pyN_g21 H, px_bs, pyN_a599 H p0 (by omega), px_bs, m0]
  unfold pxBNum pxAddrS
  by_cases c2 : pxP s q = 36
  · have nd : ¬ pxIsDg (pxP s q) = true := fun z => by have := pxIsDg_i.mp z; omega
    have es : (pxSpot s q).2 = q + 1 := by
      unfold pxSpot
      rw [if_neg nd, if_neg (by omega), if_neg (by omega), if_pos (Or.inr c2)]
    rw [if_pos (show pxJ (pxP s q) = (36 : Int32) by rw [c2]; rfl), if_pos c2, pyN_gI H, px_bs, e65]
    rw [px_bs, pyN_a599 H p0 (by omega), px_bs, m0, if_pos (show pxJ (pxP s q) = (36 : Int32) by rw [c2]; rfl), show pxJ q + (1 : Int32) = pxJ (q + 1) from pxJ_add _ 1]
    rw [es] at hok ⊢
    exact n_numericAt_b47 H G 61 jw_FU (q + 1) n (by omega) (by unfold jw_FU; omega) (by omega) (by omega) hok (by omega) (by omega) (by omega)
  · have dg : pxIsDg (pxP s q) = true := pxIsDg_i.mpr (by omega)
    have es : pxSpot s q = pxNum s q := by unfold pxSpot; rw [if_pos dg]
    have nok : (pxNum s q).1 = true := by rw [← es]; exact sok
    have vb := pxNumV_b nok
    have na := n_numberAt H G p0 nok
    have nh := n_behindNumber H G p0 (by omega) nok
    have nc : ¬ (pxJ (pxP s q) = (36 : Int32)) := py32 c2 (by omega) (by omega) (by omega) (by omega)
    rw [if_neg nc, if_neg c2, pyN_rc H, px_bs, na, px_b2, pyN_g21 H, px_bs, pyN_a599 H p0 (by omega), px_bs, m0, if_neg nc, pyN_rc H, px_bs, nh, px_b2]
    rw [es] at hok ⊢
    have nb := pxNum_b (s := s) (p := q) p0 p1
    exact n_numericAt_b47 H G 61 jw_FU (pxNum s q).2 (pxNumV s q) (by omega) (by unfold jw_FU; omega) (by omega) (by omega) hok (by omega) (by omega) (by omega)
theorem pyShf_v {s : List Int} : ∀ (m : Nat) (p : Int), -(99 * (m : Int)) ≤ (pxShf s m p).2.2 ∧ (pxShf s m p).2.2 ≤ 99 * (m : Int)
  | 0, p => by
    show -(99 * ((0 : Nat) : Int)) ≤ 0 ∧ (0 : Int) ≤ 99 * ((0 : Nat) : Int)
    omega
  | m + 1, p => by
    have e0 : pxShf s (m + 1) p = if pxP s p = 43 ∨ pxP s p = 45 then (if (pxNum s (p + 1)).1 = true then ((pxShf s m (pxNum s (p + 1)).2).1, (pxShf s m (pxNum s (p + 1)).2).2.1, (if pxP s p = 45 then - pxNumV s (p + 1) else pxNumV s (p + 1)) + (pxShf s m (pxNum s (p + 1)).2).2.2) else (false, (pxNum s (p + 1)).2, 0)) else (true, p, 0) := rfl
    rw [e0]
    by_cases c : pxP s p = 43 ∨ pxP s p = 45
    · rw [if_pos c]
      by_cases d : (pxNum s (p + 1)).1 = true
      · rw [if_pos d]
        have a := pyShf_v (s := s) m (pxNum s (p + 1)).2
        have b := pxNumV_b d
        show _ ≤ (if pxP s p = 45 then - pxNumV s (p + 1) else pxNumV s (p + 1)) + (pxShf s m (pxNum s (p + 1)).2).2.2 ∧ (if pxP s p = 45 then - pxNumV s (p + 1) else pxNumV s (p + 1)) + (pxShf s m (pxNum s (p + 1)).2).2.2 ≤ _
        split <;> omega
      · rw [if_neg d]
        show _ ≤ (0 : Int) ∧ (0 : Int) ≤ _
        omega
    · rw [if_neg c]
      show _ ≤ (0 : Int) ∧ (0 : Int) ≤ _
      omega
theorem pyBNum_b {s : List Int} {q n : Int} (ok : (pxAddr s q).1 = true) (nm : pxBIs s q = true) (n0 : 0 ≤ n) (n1 : n ≤ 40) : -100000 ≤ pxBNum s q n ∧ pxBNum s q n ≤ 100000 := by
  obtain ⟨sok, hok⟩ := pyAddr ok
  have nm' := pxBIs_i.mp nm
  have a := pyShf_v (s := s) 61 (pxSpot s q).2
  unfold pxBNum pxAddrS
  by_cases c2 : pxP s q = 36
  · rw [if_pos c2]; omega
  · have dg : pxIsDg (pxP s q) = true := pxIsDg_i.mpr (by omega)
    have es : pxSpot s q = pxNum s q := by unfold pxSpot; rw [if_pos dg]
    have nok : (pxNum s q).1 = true := by rw [← es]; exact sok
    have vb := pxNumV_b nok
    rw [if_neg c2]; omega
/-- a pattern in an address -/
theorem pySpot_p {s : List Int} {q : Int} (sok : (pxSpot s q).1 = true) (c : pxP s q = 47 ∨ pxP s q = 63) : (pxPat s (q + 1)).1 = true ∧ pxP s (pxPat s (q + 1)).2 = pxP s q ∧ (pxSpot s q).2 = (pxPat s (q + 1)).2 + 1 := by
  have nd : ¬ pxIsDg (pxP s q) = true := fun z => by have := pxIsDg_i.mp z; omega
  have sp : pxSpot s q = if (pxPat s (q + 1)).1 = true then (if pxP s (pxPat s (q + 1)).2 = pxP s q then (true, (pxPat s (q + 1)).2 + 1) else (false, (pxPat s (q + 1)).2)) else (false, (pxPat s (q + 1)).2) := by
    unfold pxSpot; rw [if_neg nd, if_neg (by omega), if_pos c]
  have pok : (pxPat s (q + 1)).1 = true := by
    by_cases z : (pxPat s (q + 1)).1 = true
    · exact z
    · rw [sp, if_neg z] at sok; cases sok
  have pu : pxP s (pxPat s (q + 1)).2 = pxP s q := by
    by_cases z : pxP s (pxPat s (q + 1)).2 = pxP s q
    · exact z
    · rw [sp, if_pos pok, if_neg z] at sok; cases sok
  exact ⟨pok, pu, by rw [sp, if_pos pok, if_pos pu]⟩
theorem pySpot_k {s : List Int} {q : Int} (sok : (pxSpot s q).1 = true) (c : pxP s q = 39) : 97 ≤ pxP s (q + 1) ∧ pxP s (q + 1) ≤ 101 ∧ (pxSpot s q).2 = q + 2 := by
  have nd : ¬ pxIsDg (pxP s q) = true := fun z => by have := pxIsDg_i.mp z; omega
  have sp : pxSpot s q = if 97 ≤ pxP s (q + 1) ∧ pxP s (q + 1) ≤ 101 then (true, q + 2) else (false, q + 1) := by
    unfold pxSpot; rw [if_neg nd, if_pos c]
  by_cases z : 97 ≤ pxP s (q + 1) ∧ pxP s (q + 1) ≤ 101
  · exact ⟨z.1, z.2, by rw [sp, if_pos z]⟩
  · rw [sp, if_neg z] at sok; cases sok
theorem pySpot_d {s : List Int} {q : Int} (c : pxP s q = 46 ∨ pxP s q = 36) : (pxSpot s q).2 = q + 1 := by
  have nd : ¬ pxIsDg (pxP s q) = true := fun z => by have := pxIsDg_i.mp z; omega
  unfold pxSpot
  rw [if_neg nd, if_neg (by omega), if_neg (by omega), if_pos c]
set_option maxHeartbeats 8000000 in
theorem n_holds {h : jw_H} {s : List Int} {T : pxTx} {came q : Int} {W : pxWk} {F : pxFh} {S : pxSto} {rep : Bool} (A : pyWs h s T came W F S rep) (g : W.2.2.2.2.1 = false) (p0 : 0 ≤ q) (p1 : q ≤ s.length) (ok : (pxAddr s q).1 = true) :
    pxW (f_X12_holds h 587 (pxJ q)) fun v h' => pyV pyQl h h' ∧ v = pxJ (if pxBAt s q T.1.length W F = true then 1 else 0) := by
  obtain ⟨H, G, L, Y, N, M, Wf, D, e17, e44, B⟩ := A
  obtain ⟨R, okr, w65, w66, w67, w68, w69, w70, b1, -, -⟩ := Wf
  have l60 := G.2.1.1
  have l40 := L.2.1
  obtain ⟨sok, hok⟩ := pyAddr ok
  have sb := pxSpot_b p0 p1
  have sb2 := sb.2.2 sok
  have b4 := sb2.2
  rw [pxSpot0_i] at b4
  have pl := (pxP_lt (s := s) (p := q) (by omega)).2
  have m0 := G.2.2 q p0 pl
  rw [← pxP_E p0 pl] at m0
  have pb := pyP_200 G.2.1 q
  unfold f_X12_holds
  rw [pyN_g21 H, px_bs, pyN_a599 H p0 (by omega), px_bs, m0, n_isNumeric (by omega) (by omega), px_b2]
  unfold pxBAt
  by_cases c1 : pxBIs s q = true
  · have c1' := pxBIs_i.mp c1
    rw [if_pos c1', if_pos c1, if_neg (show ¬ (pxJ 1 = 0) by decide), pyN_gI H, px_bs, w68, pyN_rc H, px_bs, n_numericAt H G w65 (by omega) (by omega) p0 p1 ok c1, px_b2]
    unfold g_X12_holds_b31
    have nb : -100000 ≤ pxBNum s q T.1.length ∧ pxBNum s q T.1.length ≤ 100000 := pyBNum_b ok c1 (by omega) (by omega)
    by_cases d : W.2.1 = pxBNum s q T.1.length
    · rw [if_pos (show pxJ W.2.1 = pxJ (pxBNum s q T.1.length) by rw [d]), pyRb1, px_bs, if_pos (decide_eq_true d)]
      exact pxW_some.mpr ⟨pyV.rfl, rfl⟩
    · rw [if_neg (show ¬ (pxJ W.2.1 = pxJ (pxBNum s q T.1.length)) from fun z => d ((pxJ_eq (by omega) (by omega) (by omega) (by omega)).mp z)), pyRb0, px_bs, if_neg (fun z => d (of_decide_eq_true z))]
      exact pxW_some.mpr ⟨pyV.rfl, rfl⟩
  have c1' : ¬ ((48 ≤ pxP s q ∧ pxP s q ≤ 57) ∨ pxP s q = 36) := fun z => c1 (pxBIs_i.mpr z)
  rw [if_neg c1', if_neg c1, if_pos (show pxJ 0 = 0 from rfl)]
  by_cases c3 : pxP s q = 39
  · obtain ⟨k0, k1, es⟩ := pySpot_k sok c3
    have pl1 := (pxP_lt (s := s) (p := q + 1) (by omega)).2
    have m1 := G.2.2 (q + 1) (by omega) pl1
    rw [← pxP_E (by omega) pl1] at m1
    have mi := M.is (id := W.1) (by unfold pyLvs; rw [g, if_neg (show ¬ (false = true) by decide)]; exact List.mem_append_right _ (List.mem_append_left _ (List.mem_singleton.mpr rfl))) (k := pxP s (q + 1) - 97) (by omega) (by omega)
    have lo := pxM_lo h 587 67
    have hi := pxM_hi h 587 67
    have lo2 := pxM_lo h 596 (pxP s (q + 1) - 97).toNat
    have hi2 := pxM_hi h 596 (pxP s (q + 1) - 97).toNat
    rw [w67] at lo hi
    rw [if_pos (show pxJ (pxP s q) = (39 : Int32) by rw [c3]; rfl), if_pos c3, pyN_g10 H, px_bs, pyN_g21 H, px_bs, show pxJ q + (1 : Int32) = pxJ (q + 1) from pxJ_add _ 1, pyN_a599 H (by omega) (by omega), px_bs, m1, show pxJ (pxP s (q + 1)) - (97 : Int32) = pxJ (pxP s (q + 1) - 97) from pxJ_sub _ 97, pyN_a596 H (by omega) (by omega), px_bs, pyN_gI H, px_bs, w67]
    unfold g_X12_holds_b66
    by_cases d : pxM h 596 (pxP s (q + 1) - 97).toNat = W.1
    · rw [if_pos (show pxJ (pxM h 596 (pxP s (q + 1) - 97).toNat) = pxJ W.1 by rw [d]), pyRb1, px_bs, if_pos (decide_eq_true (mi.mp d))]
      exact pxW_some.mpr ⟨pyV.rfl, rfl⟩
    · rw [if_neg (show ¬ (pxJ (pxM h 596 (pxP s (q + 1) - 97).toNat) = pxJ W.1) from fun z => d ((pxJ_eq lo2 hi2 lo hi).mp z)), pyRb0, px_bs, if_neg (fun z => d (mi.mpr (of_decide_eq_true z)))]
      exact pxW_some.mpr ⟨pyV.rfl, rfl⟩
  rw [if_neg (show ¬ (pxJ (pxP s q) = (39 : Int32)) from py32 (a := (pxP s q)) (b := 39) c3 (by omega) (by omega) (by omega) (by omega)), if_neg c3]
  by_cases c4 : pxP s q = 46
  · rw [if_pos (show pxJ (pxP s q) = (46 : Int32) by rw [c4]; rfl), if_neg (show ¬ (pxP s q = 47 ∨ pxP s q = 63) by omega)]
    exact pxW_some.mpr ⟨pyV.rfl, rfl⟩
  have cu : pxP s q = 47 ∨ pxP s q = 63 := by omega
  obtain ⟨pok, pu, es⟩ := pySpot_p sok cu
  have pb2 := pxPat_b (s := s) (p := q + 1) (by omega) (by omega)
  have cp := pyC_f G.2.1 (p := (pxPat s (q + 1)).2) (by omega)
  rw [if_neg (show ¬ (pxJ (pxP s q) = (46 : Int32)) from py32 (a := (pxP s q)) (b := 46) c4 (by omega) (by omega) (by omega) (by omega)), if_pos cu, pyN_rc H, px_bs, show pxJ q + (1 : Int32) = pxJ (q + 1) from pxJ_add _ 1]
  refine pxW_b2 (n_compile (u := pxP s q) (p := q + 1) (by omega) H G (by omega) (by omega) pok (by omega)) fun _ h1 w => ?_
  obtain ⟨V1, C, e37⟩ := w
  have H1 := V1.s H
  have V1' : pyV pyQl h h1 := V1.mono (fun k f z => by unfold pyQk at z; unfold pyQl; omega)
  have R1 : pyR h1 429 W.2.2.2.2.2.1 := R.keep V1' (by omega) okr.1 (fun f _ _ => by unfold pyQl; omega)
  rw [pyN_rc H1, px_bs, show (429 : Int32) = pxJ 429 from rfl, show (0 : Int32) = pxJ 0 from rfl]
  refine pxW_b2 (n_finds ⟨by omega, by omega, pok⟩ (i := 429) (fr := 0) ⟨H1, G.l V1', R1, C⟩ (by omega) (by omega) okr (by omega) (by omega)) fun v h2 q2 => ?_
  obtain ⟨V2, S2⟩ := q2
  have V2' : pyV pyQl h h2 := V1'.trans (V2.mono (fun k f z => by unfold pyQn at z; unfold pyQl; omega))
  have hv : v = pxJ (if (pxFind s W.2.2.2.2.2.1 (pxFull s (q + 1)) 0 false).isSome = true then 1 else 0) := by
    cases y : pxFind s W.2.2.2.2.2.1 (pxFull s (q + 1)) 0 false with
    | none => rw [y] at S2; exact S2.1 rfl
    | some w => rw [y] at S2; exact (S2.2 w.1 w.2.1 w.2.2.1 w.2.2.2 rfl).1
  have rb : jw_rb v = some () := by
    rw [hv]
    by_cases y : (pxFind s W.2.2.2.2.2.1 (pxFull s (q + 1)) 0 false).isSome = true
    · rw [if_pos y]; exact px_rb1
    · rw [if_neg y]; exact px_rb0
  rw [rb, px_bs]
  exact pxW_some.mpr ⟨V2', hv⟩
