/-! the reference: jumps -/
theorem pyBh_b {s : List Int} {n : Int} : ∀ (L : List (Int × List Int)) (p : Int), (L ≠ [] → pyLs s p L) → pyBh s n L = -1 ∨ (0 ≤ pyBh s n L ∧ pyBh s n L ≤ s.length)
  | [], _, _ => Or.inl rfl
  | t :: r, p, A => by
    obtain ⟨et, p0, pl, ok, -, nx⟩ := A (by simp)
    have tb := pxTop_b (s := s) p0 (by omega)
    unfold pyBh
    rw [et]
    by_cases c : pxP s p = 58 ∧ pxP s (p + 1) = n
    · rw [if_pos c]
      right
      by_cases g : (s.length : Int) ≤ (pxTop s p).2.1
      · rw [if_pos g]; omega
      · rw [if_neg g]; omega
    · rw [if_neg c]
      refine pyBh_b r ((pxTop s p).2.1 + 1) fun e => ?_
      rcases nx with z | z
      · exact z.2.2
      · exact absurd z.2 e
/-- where a jump goes -/
def pyJp (s : List Int) (L : List (Int × List Int)) (pa : Int) : Int := if 65 ≤ pxP s (pa + 1) ∧ pxP s (pa + 1) ≤ 90 then pyBh s (pxP s (pa + 1)) L else s.length
def pyQj : Nat → Nat → Prop := fun k f => pyQp k f ∨ (k = 587 ∧ f = 64)
set_option maxHeartbeats 8000000 in
theorem n_jump {h : jw_H} {s : List Int} {L : List (Int × List Int)} {pa : Int} (H : pyS h) (G : pyG h s) (A : pyLs s 0 L) (ne : L ≠ []) (len : L.length ≤ 100) (p0 : 0 ≤ pa) (p1 : pa ≤ s.length) :
    pxW (f_X12_jump h 587 (pxJ pa)) fun v h' => pyV pyQj h h' ∧ v = pxJ (if pyJp s L pa = -1 then 6 else 0) ∧ pxM h' 587 64 = pyJp s L pa := by
  have l60 := G.2.1.1
  have i1 := pxP_in G.2.1 (pa + 1)
  have b54 : ∀ (h1 : jw_H) (z : Int), pyV pyQj h h1 → (z = -1 ∨ (0 ≤ z ∧ z ≤ s.length)) → pxW (g_X12_jump_b54 h1 587 587 (pxJ z)) fun v h' => pyV pyQj h h' ∧ v = pxJ (if z = -1 then 6 else 0) ∧ pxM h' 587 64 = z := by
    intro h1 z V1 zb
    have H1 := V1.s H
    unfold g_X12_jump_b54 g_X12_jump_b70
    have V2 : pyV pyQj h (jw_setI h1 587 64 (pxJ z)) := V1.set (Or.inr ⟨rfl, rfl⟩)
    have e64 : pxM (jw_setI h1 587 64 (pxJ z)) 587 64 = z := by rw [pxM_eq (by omega) (by omega)]
    by_cases c : z = -1
    · rw [if_pos c]
      try simp (maxSteps := 4000000) (disch := first | assumption | omega | (simp only [pyS_I]; assumption)) only [pxL0, pxL1, pxL2, pxL3, pxL4, pxL5, pxL6, pxL7, pxL8, pxL9, pxL10, pxL11, pxL12, pxL13, pxL14, pxL15, pxL16, pxL17, pxL18, pxL19, pxL20, pxL21, pxL22, pxL23, pxL24, pxL25, pxL26, pxL27, pxL28, pxL29, pxL30, pxL31, pxL32, pxL33, pxL34, pxL35, pxL36, pxL37, pxL38, pxL39, pxL40, pxL41, pxL42, pxL43, pxL44, pxL45, pxL46, pxL47, pxL48, pxL49, pxL51, pxL57, pxL58, pxL59, pxL60, pxL61, pxL62, pxL63, pxL64, pxL65, pxL66, pxL67, pxL68, pxL69, pxL70, pxL71, pxL72, pxL73, pxL74, pxL75, pxL76, pxL77, pxL78, pxL79, pxL80, pxL81, pxL82, pxL83, pxL84, pxL85, pxL86, pxL87, pxL88, pxL89, pxL90, pxL91, pxL92, pxL93, pxL94, pxL95, pxL96, pxL97, pxL98, pxL99, pxL100, pxL101, pxL102, pxL103, pxL104, pxL105, pxL106, pxL107, pxL108, pxL109, pxL110, pxL111, pxL112, pxL113, pxL114, pxL115, pxL116, pxL117, pxL118, pxL119, pxL120, pxL121, pxL122, pxL123, pxL124, pxL125, pxL126, pxL200, pxL240, pxL287, pxL388, pxL400, pxL429, pxL431, pxL440, pxL1240, pxL1600, pxL1681, pxL12028, pxL13849, pxL14880, pxL25173, pxL26908, pxL49600, pxL65535, pxL65536, ↓reduceIte, reduceCtorEq, pxJ_add, pxJ_sub, pxJ_mul, pxJ_neg, pxD_lt_t, pxD_lt_f, pxD_le_t, pxD_le_f, pxD_eq_t, pxD_eq_f, pxJ_lt, pxJ_le, pxJ_eq, pxJ_div, px_b2, px_bs, px_rb0, px_rb1, pxW_some, Option.some.injEq, pxM_eq, pxM_ne, pyN_gI, pyN_pI, pyN_rc, pyN_g1, pyN_a588, pyN_s588, pyN_g3, pyN_a589, pyN_s589, pyN_g4, pyN_a590, pyN_s590, pyN_g5, pyN_a591, pyN_s591, pyN_g6, pyN_a592, pyN_s592, pyN_g7, pyN_a593, pyN_s593, pyN_g8, pyN_a594, pyN_s594, pyN_g9, pyN_a595, pyN_s595, pyN_g10, pyN_a596, pyN_s596, pyN_g11, pyN_a597, pyN_s597, pyN_g19, pyN_a598, pyN_s598, pyN_g21, pyN_a599, pyN_s599, pyN_g31, pyN_a600, pyN_s600, pyN_g32, pyN_a601, pyN_s601, pyN_g38, pyN_a602, pyN_s602, pyN_g39, pyN_a603, pyN_s603, pyN_g46, pyN_a604, pyN_s604, pyN_g47, pyN_a605, pyN_s605, pyN_g48, pyN_a606, pyN_s606, pyN_g49, pyN_a607, pyN_s607, pyN_g55, pyN_a608, pyN_s608, pyN_g56, pyN_a609, pyN_s609, pyN_g57, pyN_a610, pyN_s610, pyN_g58, pyN_a611, pyN_s611, pyN_g59, pyN_a612, pyN_s612, pyN_g60, pyN_a613, pyN_s613, pyN_g74, pyN_a614, pyN_s614, pyN_g75, pyN_a615, pyN_s615, pyN_g76, pyN_a616, pyN_s616, pyN_g78, pyN_a617, pyN_s617, pyN_g79, pyN_a618, pyN_s618, e64]
      exact ⟨V2, (by first | exact True.intro | rfl), by first | exact True.intro | exact e64⟩
    · rw [if_neg c]
      try simp (maxSteps := 4000000) (disch := first | assumption | omega | (simp only [pyS_I]; assumption)) only [pxL0, pxL1, pxL2, pxL3, pxL4, pxL5, pxL6, pxL7, pxL8, pxL9, pxL10, pxL11, pxL12, pxL13, pxL14, pxL15, pxL16, pxL17, pxL18, pxL19, pxL20, pxL21, pxL22, pxL23, pxL24, pxL25, pxL26, pxL27, pxL28, pxL29, pxL30, pxL31, pxL32, pxL33, pxL34, pxL35, pxL36, pxL37, pxL38, pxL39, pxL40, pxL41, pxL42, pxL43, pxL44, pxL45, pxL46, pxL47, pxL48, pxL49, pxL51, pxL57, pxL58, pxL59, pxL60, pxL61, pxL62, pxL63, pxL64, pxL65, pxL66, pxL67, pxL68, pxL69, pxL70, pxL71, pxL72, pxL73, pxL74, pxL75, pxL76, pxL77, pxL78, pxL79, pxL80, pxL81, pxL82, pxL83, pxL84, pxL85, pxL86, pxL87, pxL88, pxL89, pxL90, pxL91, pxL92, pxL93, pxL94, pxL95, pxL96, pxL97, pxL98, pxL99, pxL100, pxL101, pxL102, pxL103, pxL104, pxL105, pxL106, pxL107, pxL108, pxL109, pxL110, pxL111, pxL112, pxL113, pxL114, pxL115, pxL116, pxL117, pxL118, pxL119, pxL120, pxL121, pxL122, pxL123, pxL124, pxL125, pxL126, pxL200, pxL240, pxL287, pxL388, pxL400, pxL429, pxL431, pxL440, pxL1240, pxL1600, pxL1681, pxL12028, pxL13849, pxL14880, pxL25173, pxL26908, pxL49600, pxL65535, pxL65536, ↓reduceIte, reduceCtorEq, pxJ_add, pxJ_sub, pxJ_mul, pxJ_neg, pxD_lt_t, pxD_lt_f, pxD_le_t, pxD_le_f, pxD_eq_t, pxD_eq_f, pxJ_lt, pxJ_le, pxJ_eq, pxJ_div, px_b2, px_bs, px_rb0, px_rb1, pxW_some, Option.some.injEq, pxM_eq, pxM_ne, pyN_gI, pyN_pI, pyN_rc, pyN_g1, pyN_a588, pyN_s588, pyN_g3, pyN_a589, pyN_s589, pyN_g4, pyN_a590, pyN_s590, pyN_g5, pyN_a591, pyN_s591, pyN_g6, pyN_a592, pyN_s592, pyN_g7, pyN_a593, pyN_s593, pyN_g8, pyN_a594, pyN_s594, pyN_g9, pyN_a595, pyN_s595, pyN_g10, pyN_a596, pyN_s596, pyN_g11, pyN_a597, pyN_s597, pyN_g19, pyN_a598, pyN_s598, pyN_g21, pyN_a599, pyN_s599, pyN_g31, pyN_a600, pyN_s600, pyN_g32, pyN_a601, pyN_s601, pyN_g38, pyN_a602, pyN_s602, pyN_g39, pyN_a603, pyN_s603, pyN_g46, pyN_a604, pyN_s604, pyN_g47, pyN_a605, pyN_s605, pyN_g48, pyN_a606, pyN_s606, pyN_g49, pyN_a607, pyN_s607, pyN_g55, pyN_a608, pyN_s608, pyN_g56, pyN_a609, pyN_s609, pyN_g57, pyN_a610, pyN_s610, pyN_g58, pyN_a611, pyN_s611, pyN_g59, pyN_a612, pyN_s612, pyN_g60, pyN_a613, pyN_s613, pyN_g74, pyN_a614, pyN_s614, pyN_g75, pyN_a615, pyN_s615, pyN_g76, pyN_a616, pyN_s616, pyN_g78, pyN_a617, pyN_s617, pyN_g79, pyN_a618, pyN_s618, e64]
      exact ⟨V2, (by first | exact True.intro | rfl), by first | exact True.intro | exact e64⟩
  have no : ¬ (65 ≤ pxP s (pa + 1) ∧ pxP s (pa + 1) ≤ 90) → pxW (g_X12_jump_b28 h 587 (pxJ pa)) fun v h' => pyV pyQj h h' ∧ v = pxJ (if pyJp s L pa = -1 then 6 else 0) ∧ pxM h' 587 64 = pyJp s L pa := by
    intro c
    unfold g_X12_jump_b28 g_X12_jump_b29 pyJp
    rw [if_neg c, if_pos rfl, pyN_gI H, px_bs, G.1]
    exact b54 h s.length pyV.rfl (Or.inr ⟨by omega, Int.le_refl _⟩)
  unfold f_X12_jump
  rw [pyN_gI H, px_bs, G.1, show pxJ pa + (1 : Int32) = pxJ (pa + 1) from pxJ_add _ 1]
  by_cases en : (s.length : Int) ≤ pa + 1
  · rw [if_pos (by rw [pxJ_le (by omega) (by omega) (by omega) (by omega)]; exact en)]
    exact no (by omega)
  · rw [if_neg (by rw [pxJ_le (by omega) (by omega) (by omega) (by omega)]; exact en)]
    have m := G.2.2 (pa + 1) (by omega) (by omega)
    rw [← pxP_E (by omega) (by omega)] at m
    rw [pyN_g21 H, px_bs, pyN_a599 H (by omega) (by omega), px_bs, m, n_isLabel (by omega) (by omega), px_b2]
    by_cases c : 65 ≤ pxP s (pa + 1) ∧ pxP s (pa + 1) ≤ 90
    · rw [if_pos c, if_neg (show ¬ (pxJ 1 = (0 : Int32)) by decide)]
      unfold g_X12_jump_b29
      rw [if_neg (show ¬ ((1 : Int32) = 0) by decide), pyN_g21 H, px_bs, show pxJ pa + (1 : Int32) = pxJ (pa + 1) from pxJ_add _ 1, pyN_a599 H (by omega) (by omega), px_bs, m, pyN_rc H, px_bs]
      unfold f_X12_behindLabel
      rw [show (0 : Int32) = pxJ 0 from rfl]
      refine pxW_b2 (n_behindLabel_b2 (by omega) (by omega) L jw_FU h 0 (by unfold jw_FU; omega) H G (Int.le_refl 0) (fun e => absurd e ne) (by omega) (fun _ => A)) fun v h1 q => ?_
      obtain ⟨V1, rfl⟩ := q
      have B := b54 h1 (pyBh s (pxP s (pa + 1)) L) (V1.mono (fun k f z => Or.inl z)) (pyBh_b L 0 (fun _ => A))
      unfold pyJp
      rw [if_pos c]
      exact B
    · rw [if_neg c, if_pos (show pxJ 0 = (0 : Int32) from rfl)]
      exact no c
