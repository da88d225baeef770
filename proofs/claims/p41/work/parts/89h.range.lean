/-! orders over the whole: where lines are -/
theorem pxShf_v {s : List Int} : ∀ (m : Nat) (p : Int), -(99 * (m : Int)) ≤ (pxShf s m p).2.2 ∧ (pxShf s m p).2.2 ≤ 99 * m
  | 0, p => ⟨by show _ ≤ (0 : Int); omega, by show (0 : Int) ≤ _; omega⟩
  | m + 1, p => by
    have em : ((m + 1 : Nat) : Int) = (m : Int) + 1 := by omega
    rw [em]
    unfold pxShf
    by_cases c : pxP s p = 43 ∨ pxP s p = 45
    · rw [if_pos c]
      by_cases d : (pxNum s (p + 1)).1 = true
      · rw [if_pos d]
        have nv := pxNumV_b d
        have := pxShf_v (s := s) m (pxNum s (p + 1)).2
        dsimp only
        by_cases e : pxP s p = 45
        · rw [if_pos e]; omega
        · rw [if_neg e]; omega
      · rw [if_neg d]; dsimp only; omega
    · rw [if_neg c]; dsimp only; omega
theorem pxAddr_ok {s : List Int} {q : Int} (h : (pxAddr s q).1 = true) : (pxP s q = 47 ∨ pxP s q = 63 → (pxPat s (q + 1)).1 = true) ∧ (pxP s q = 39 → 97 ≤ pxP s (q + 1) ∧ pxP s (q + 1) ≤ 101) ∧ pxSpot0 (pxP s q) = true := by
  have hs : (pxSpot s q).1 = true := by
    unfold pxAddr at h
    by_cases c : (pxSpot s q).1 = true
    · exact c
    · rw [if_neg c] at h; exact absurd h c
  unfold pxSpot at hs
  by_cases c1 : pxIsDg (pxP s q) = true
  · have c1' := pxIsDg_i.mp c1
    exact ⟨fun z => by omega, fun z => by omega, pxSpot0_i.mpr (Or.inl c1')⟩
  rw [if_neg c1] at hs
  by_cases c2 : pxP s q = 39
  · rw [if_pos c2] at hs
    refine ⟨fun z => by omega, fun _ => ?_, pxSpot0_i.mpr (by omega)⟩
    by_cases d : 97 ≤ pxP s (q + 1) ∧ pxP s (q + 1) ≤ 101
    · exact d
    · rw [if_neg d] at hs; cases hs
  rw [if_neg c2] at hs
  by_cases c3 : pxP s q = 47 ∨ pxP s q = 63
  · rw [if_pos c3] at hs
    refine ⟨fun _ => ?_, fun z => absurd z c2, pxSpot0_i.mpr (by omega)⟩
    by_cases d : (pxPat s (q + 1)).1 = true
    · exact d
    · rw [if_neg d] at hs; cases hs
  rw [if_neg c3] at hs
  refine ⟨fun z => absurd z c3, fun z => absurd z c2, pxSpot0_i.mpr ?_⟩
  by_cases d : pxP s q = 46 ∨ pxP s q = 36
  · omega
  · rw [if_neg d] at hs; cases hs
/-- where an address stands ahead of its shifts; below 0 why there is none -/
def pxLocB (s : List Int) (q : Int) (T : pxTx) : Int :=
  if pxIsDg (pxP s q) = true then pxNumV s q
  else if pxP s q = 36 then T.1.length
  else if pxP s q = 39 then (if T.2.1 (pxP s (q + 1) - 97) = -1 ∨ pxNo T.1 (T.2.1 (pxP s (q + 1) - 97)) = -1 then -3 else pxNo T.1 (T.2.1 (pxP s (q + 1) - 97)))
  else if pxP s q = 47 ∨ pxP s q = 63 then (if pxLW s (pxFull s (q + 1)) (pxRs T.1) (decide (pxP s q = 63)) T.1.length T.2.2.1 = -1 then -2 else pxLW s (pxFull s (q + 1)) (pxRs T.1) (decide (pxP s q = 63)) T.1.length T.2.2.1)
  else T.2.2.1
def pxLoc (s : List Int) (q : Int) (T : pxTx) : Int :=
  if pxLocB s q T < 0 then pxLocB s q T else if pxLocB s q T + pxAddrS s q < 0 ∨ (T.1.length : Int) < pxLocB s q T + pxAddrS s q then -1 else pxLocB s q T + pxAddrS s q
theorem pxLW_b {s : List Int} {l : List (Int × Int)} {rs : List (List Int)} {back : Bool} : ∀ (m : Nat) (x : Int), m ≤ rs.length → 0 ≤ x → x ≤ rs.length → pxLW s l rs back m x = -1 ∨ (1 ≤ pxLW s l rs back m x ∧ pxLW s l rs back m x ≤ rs.length)
  | 0, x, _, _, _ => Or.inl rfl
  | m + 1, x, hm, x0, x1 => by
    have nxb : 1 ≤ pxNx back rs.length x ∧ pxNx back rs.length x ≤ rs.length := by
      unfold pxNx
      cases back with
      | false =>
        rw [if_neg (by simp)]
        by_cases c : (rs.length : Int) < x + 1
        · rw [if_pos c]; omega
        · rw [if_neg c]; omega
      | true =>
        rw [if_pos rfl]
        by_cases c : x - 1 < 1
        · rw [if_pos c]; omega
        · rw [if_neg c]; omega
    unfold pxLW
    by_cases c : pxHolds s l (pxRw rs (pxNx back rs.length x)) = true
    · rw [if_pos c]; exact Or.inr nxb
    · rw [if_neg c]; exact pxLW_b m _ (by omega) (by omega) nxb.2
/-- a text's present line is one of it -/
def pxNowOk (T : pxTx) : Prop := 0 ≤ T.2.2.1 ∧ T.2.2.1 ≤ T.1.length
theorem pxLocB_b {s : List Int} {q : Int} {T : pxTx} (hn : pxNowOk T) (l40 : T.1.length ≤ 40) : -3 ≤ pxLocB s q T ∧ pxLocB s q T ≤ 99 := by
  unfold pxLocB
  by_cases c1 : pxIsDg (pxP s q) = true
  · rw [if_pos c1]
    have nb := pxNumV_b (s := s) (p := q) (by unfold pxNum; rw [if_pos c1])
    omega
  rw [if_neg c1]
  by_cases c2 : pxP s q = 36
  · rw [if_pos c2]; omega
  rw [if_neg c2]
  by_cases c3 : pxP s q = 39
  · rw [if_pos c3]
    by_cases d : T.2.1 (pxP s (q + 1) - 97) = -1 ∨ pxNo T.1 (T.2.1 (pxP s (q + 1) - 97)) = -1
    · rw [if_pos d]; omega
    · rw [if_neg d]
      have := pxNo_in T.1 (T.2.1 (pxP s (q + 1) - 97))
      omega
  rw [if_neg c3]
  by_cases c4 : pxP s q = 47 ∨ pxP s q = 63
  · rw [if_pos c4]
    have := pxLW_b (s := s) (l := pxFull s (q + 1)) (rs := pxRs T.1) (back := decide (pxP s q = 63)) T.1.length T.2.2.1 (by rw [pxRs_len]; exact Nat.le_refl _) hn.1 (by rw [pxRs_len]; exact hn.2)
    rw [pxRs_len] at this
    by_cases d : pxLW s (pxFull s (q + 1)) (pxRs T.1) (decide (pxP s q = 63)) T.1.length T.2.2.1 = -1
    · rw [if_pos d]; omega
    · rw [if_neg d]; omega
  · rw [if_neg c4]
    have := hn.1
    have := hn.2
    omega
theorem pxLoc_b {s : List Int} {q : Int} {T : pxTx} (hn : pxNowOk T) (l40 : T.1.length ≤ 40) : -3 ≤ pxLoc s q T ∧ pxLoc s q T ≤ T.1.length := by
  have := pxLocB_b (s := s) (q := q) hn l40
  unfold pxLoc
  by_cases c : pxLocB s q T < 0
  · rw [if_pos c]; omega
  · rw [if_neg c]
    by_cases d : pxLocB s q T + pxAddrS s q < 0 ∨ (T.1.length : Int) < pxLocB s q T + pxAddrS s q
    · rw [if_pos d]; omega
    · rw [if_neg d]; omega
section
variable {b : Nat} {s : List Int}
theorem s_X10_locate {h : jw_H} {a : Nat} {q : Int} {T : pxTx} (W : pxWF h) (M : pxMS h) (S : pxPS h) (m7 : pxM h 10 7 ≤ 120) (H : pxIX h T) (hn : pxNowOk T) (ta : (jw_t h a).1 = 0) (A : pxAd h s a q) (ok : (pxAddr s q).1 = true) :
    ∃ h', f_X10_locate h 559 (some a) = some (pxJ (pxLoc s q T), h') ∧ pxF pxQx h h' := by
  have l40 := pxIT.len H
  have w0 := W.1
  have w1 := W.2.2.1
  have w4 := W.2.2.2.2.2.1
  have t9 := H.1.1
  have r0 := H.1.2.1
  have t7 := H.2.1.1.1
  have c2 := pxIT.c2 H
  have m3 : pxM h 255 3 = T.2.2.1 := H.2.2.2.2.1
  obtain ⟨a0, a2, a3, ad, am, ap⟩ := A
  obtain ⟨o1, o2, o3⟩ := pxAddr_ok ok
  have o3' := pxSpot0_i.mp o3
  have sv := pxShf_v (s := s) 61 (pxSpot s q).2
  have esv : (pxShf s 61 (pxSpot s q).2).2.2 = pxAddrS s q := rfl
  rw [esv] at sv
  have bb := pxLocB_b (s := s) (q := q) hn l40
  -- the end of it
  have fin : ∀ {h1 : jw_H}, pxF pxQx h h1 → 0 ≤ pxLocB s q T → g_X10_locate_b133 h1 559 (some a) (pxJ (pxLocB s q T)) = some (pxJ (pxLoc s q T), h1) → ∃ h', g_X10_locate_b133 h1 559 (some a) (pxJ (pxLocB s q T)) = some (pxJ (pxLoc s q T), h') ∧ pxF pxQx h h' := fun F _ e => ⟨_, e, F⟩
  have b133 : ∀ {h1 : jw_H}, pxF pxQx h h1 → (a < 531 ∨ 535 < a) → 0 ≤ pxLocB s q T → g_X10_locate_b133 h1 559 (some a) (pxJ (pxLocB s q T)) = some (pxJ (pxLoc s q T), h1) := by
    intro h1 F ha l0
    have w01 : (jw_t h1 559).1 = 10 := by rw [F.t]; exact w0
    have w11 : jw_r h1 559 1 = some 255 := by rw [F.r (by unfold pxQx; omega)]; exact w1
    have t91 : (jw_t h1 255).1 = 9 := by rw [F.t]; exact t9
    have r01 : jw_r h1 255 0 = some 256 := by rw [F.r (by unfold pxQx; omega)]; exact r0
    have t71 : (jw_t h1 256).1 = 7 := by rw [F.t]; exact t7
    have c21 : pxM h1 256 2 = T.1.length := by rw [F.m (by unfold pxQx; omega)]; exact c2
    have ta1 : (jw_t h1 a).1 = 0 := by rw [F.t]; exact ta
    have a21 : pxM h1 a 2 = pxAddrS s q := by rw [F.m (by unfold pxQx; omega)]; exact a2
    have eL : pxLoc s q T = if pxLocB s q T + pxAddrS s q < 0 ∨ (T.1.length : Int) < pxLocB s q T + pxAddrS s q then -1 else pxLocB s q T + pxAddrS s q := if_neg (by omega)
    rw [eL]
    generalize pxLocB s q T = v at bb l0
    generalize pxAddrS s q = w at a21 sv
    clear fin eL a0 a2 a3 ad am ap o1 o2 o3 o3' esv F
    unfold g_X10_locate_b133 g_X10_locate_b158 g_X10_locate_b163
    by_cases d1 : v + w < 0
    · rw [if_pos (Or.inl d1)]
      simp (maxSteps := 4000000) (disch := first | assumption | omega | (simp only [jw_t_I, px_cpt]; done) | (simp only [jw_t_I, px_cpt]; omega)) only [pxL0, pxL1, pxL2, pxL3, pxL4, pxL5, pxL6, pxL7, pxL8, pxL9, pxL10, pxL11, pxL12, pxL13, pxL14, pxL15, pxL16, pxL17, pxL18, pxL19, pxL20, pxL21, pxL22, pxL23, pxL24, pxL25, pxL26, pxL27, pxL28, pxL29, pxL30, pxL31, pxL32, pxL33, pxL34, pxL35, pxL36, pxL37, pxL38, pxL39, pxL40, pxL41, pxL42, pxL43, pxL44, pxL45, pxL46, pxL47, pxL48, pxL49, pxL51, pxL57, pxL58, pxL59, pxL60, pxL61, pxL62, pxL63, pxL64, pxL65, pxL66, pxL67, pxL68, pxL69, pxL70, pxL71, pxL72, pxL73, pxL74, pxL75, pxL76, pxL77, pxL78, pxL79, pxL80, pxL81, pxL82, pxL83, pxL84, pxL85, pxL86, pxL87, pxL88, pxL89, pxL90, pxL91, pxL92, pxL93, pxL94, pxL95, pxL96, pxL97, pxL98, pxL99, pxL100, pxL101, pxL102, pxL103, pxL104, pxL105, pxL106, pxL107, pxL108, pxL109, pxL110, pxL111, pxL112, pxL113, pxL114, pxL115, pxL116, pxL117, pxL118, pxL119, pxL120, pxL121, pxL122, pxL123, pxL124, pxL125, pxL126, pxL200, pxL240, pxL287, pxL388, pxL400, pxL429, pxL431, pxL440, pxL1240, pxL1600, pxL1681, pxL12028, pxL13849, pxL14880, pxL25173, pxL26908, pxL49600, pxL65535, pxL65536, ↓reduceIte, reduceCtorEq, pxJ_add, pxJ_sub, pxJ_mul, pxJ_neg, pxD_lt_t, pxD_lt_f, pxD_le_t, pxD_le_f, pxD_eq_t, pxD_eq_f, pxJ_lt, pxJ_le, pxJ_eq, px_gI, px_gR, px_pI, px_rc, px_ai, px_ar, px_si, px_ln, px_cp, pxJ_div, pxJ_b8, pxJ_byte, px_b2, px_bs, px_rb0, px_rb1, px_min, px_max, px_compare, pxW_some, jw_t_I, px_cpt, jw_r_I, px_cpr, jw_l_I, px_cpl, Option.some.injEq, a21]
    · by_cases d2 : (T.1.length : Int) < v + w
      · rw [if_pos (Or.inr d2)]
        simp (maxSteps := 4000000) (disch := first | assumption | omega | (simp only [jw_t_I, px_cpt]; done) | (simp only [jw_t_I, px_cpt]; omega)) only [pxL0, pxL1, pxL2, pxL3, pxL4, pxL5, pxL6, pxL7, pxL8, pxL9, pxL10, pxL11, pxL12, pxL13, pxL14, pxL15, pxL16, pxL17, pxL18, pxL19, pxL20, pxL21, pxL22, pxL23, pxL24, pxL25, pxL26, pxL27, pxL28, pxL29, pxL30, pxL31, pxL32, pxL33, pxL34, pxL35, pxL36, pxL37, pxL38, pxL39, pxL40, pxL41, pxL42, pxL43, pxL44, pxL45, pxL46, pxL47, pxL48, pxL49, pxL51, pxL57, pxL58, pxL59, pxL60, pxL61, pxL62, pxL63, pxL64, pxL65, pxL66, pxL67, pxL68, pxL69, pxL70, pxL71, pxL72, pxL73, pxL74, pxL75, pxL76, pxL77, pxL78, pxL79, pxL80, pxL81, pxL82, pxL83, pxL84, pxL85, pxL86, pxL87, pxL88, pxL89, pxL90, pxL91, pxL92, pxL93, pxL94, pxL95, pxL96, pxL97, pxL98, pxL99, pxL100, pxL101, pxL102, pxL103, pxL104, pxL105, pxL106, pxL107, pxL108, pxL109, pxL110, pxL111, pxL112, pxL113, pxL114, pxL115, pxL116, pxL117, pxL118, pxL119, pxL120, pxL121, pxL122, pxL123, pxL124, pxL125, pxL126, pxL200, pxL240, pxL287, pxL388, pxL400, pxL429, pxL431, pxL440, pxL1240, pxL1600, pxL1681, pxL12028, pxL13849, pxL14880, pxL25173, pxL26908, pxL49600, pxL65535, pxL65536, ↓reduceIte, reduceCtorEq, pxJ_add, pxJ_sub, pxJ_mul, pxJ_neg, pxD_lt_t, pxD_lt_f, pxD_le_t, pxD_le_f, pxD_eq_t, pxD_eq_f, pxJ_lt, pxJ_le, pxJ_eq, px_gI, px_gR, px_pI, px_rc, px_ai, px_ar, px_si, px_ln, px_cp, pxJ_div, pxJ_b8, pxJ_byte, px_b2, px_bs, px_rb0, px_rb1, px_min, px_max, px_compare, pxW_some, jw_t_I, px_cpt, jw_r_I, px_cpr, jw_l_I, px_cpl, Option.some.injEq, a21, w01, w11, t91, r01, t71, c21]
      · rw [if_neg (by omega)]
        simp (maxSteps := 4000000) (disch := first | assumption | omega | (simp only [jw_t_I, px_cpt]; done) | (simp only [jw_t_I, px_cpt]; omega)) only [pxL0, pxL1, pxL2, pxL3, pxL4, pxL5, pxL6, pxL7, pxL8, pxL9, pxL10, pxL11, pxL12, pxL13, pxL14, pxL15, pxL16, pxL17, pxL18, pxL19, pxL20, pxL21, pxL22, pxL23, pxL24, pxL25, pxL26, pxL27, pxL28, pxL29, pxL30, pxL31, pxL32, pxL33, pxL34, pxL35, pxL36, pxL37, pxL38, pxL39, pxL40, pxL41, pxL42, pxL43, pxL44, pxL45, pxL46, pxL47, pxL48, pxL49, pxL51, pxL57, pxL58, pxL59, pxL60, pxL61, pxL62, pxL63, pxL64, pxL65, pxL66, pxL67, pxL68, pxL69, pxL70, pxL71, pxL72, pxL73, pxL74, pxL75, pxL76, pxL77, pxL78, pxL79, pxL80, pxL81, pxL82, pxL83, pxL84, pxL85, pxL86, pxL87, pxL88, pxL89, pxL90, pxL91, pxL92, pxL93, pxL94, pxL95, pxL96, pxL97, pxL98, pxL99, pxL100, pxL101, pxL102, pxL103, pxL104, pxL105, pxL106, pxL107, pxL108, pxL109, pxL110, pxL111, pxL112, pxL113, pxL114, pxL115, pxL116, pxL117, pxL118, pxL119, pxL120, pxL121, pxL122, pxL123, pxL124, pxL125, pxL126, pxL200, pxL240, pxL287, pxL388, pxL400, pxL429, pxL431, pxL440, pxL1240, pxL1600, pxL1681, pxL12028, pxL13849, pxL14880, pxL25173, pxL26908, pxL49600, pxL65535, pxL65536, ↓reduceIte, reduceCtorEq, pxJ_add, pxJ_sub, pxJ_mul, pxJ_neg, pxD_lt_t, pxD_lt_f, pxD_le_t, pxD_le_f, pxD_eq_t, pxD_eq_f, pxJ_lt, pxJ_le, pxJ_eq, px_gI, px_gR, px_pI, px_rc, px_ai, px_ar, px_si, px_ln, px_cp, pxJ_div, pxJ_b8, pxJ_byte, px_b2, px_bs, px_rb0, px_rb1, px_min, px_max, px_compare, pxW_some, jw_t_I, px_cpt, jw_r_I, px_cpr, jw_l_I, px_cpl, Option.some.injEq, a21, w01, w11, t91, r01, t71, c21]
  have b0 : ¬ (531 ≤ a ∧ a ≤ 535) := by
    intro z
    obtain ⟨mt, -, -, -, -, -, t532, t533, t534, t535⟩ := M
    obtain rfl | rfl | rfl | rfl | rfl : a = 531 ∨ a = 532 ∨ a = 533 ∨ a = 534 ∨ a = 535 := by omega
    · rw [mt] at ta; cases ta
    · rw [t532] at ta; cases ta
    · rw [t533] at ta; cases ta
    · rw [t534] at ta; cases ta
    · rw [t535] at ta; cases ta
  have ha : a < 531 ∨ 535 < a := by omega
  unfold f_X10_locate
  by_cases c1 : pxIsDg (pxP s q) = true
  · have c1' := pxIsDg_i.mp c1
    have eB : pxLocB s q T = pxNumV s q := if_pos c1
    rw [if_pos c1] at a0
    have a1 := ad c1
    have nb := pxNumV_b (s := s) (p := q) (by unfold pxNum; rw [if_pos c1])
    have e := b133 pxF.rfl ha (by omega)
    rw [eB] at e
    refine ⟨h, ?_, pxF.rfl⟩
    rw [← e]
    clear b133 fin bb sv
    simp (maxSteps := 4000000) (disch := first | assumption | omega | (simp only [jw_t_I, px_cpt]; done) | (simp only [jw_t_I, px_cpt]; omega)) only [pxL0, pxL1, pxL2, pxL3, pxL4, pxL5, pxL6, pxL7, pxL8, pxL9, pxL10, pxL11, pxL12, pxL13, pxL14, pxL15, pxL16, pxL17, pxL18, pxL19, pxL20, pxL21, pxL22, pxL23, pxL24, pxL25, pxL26, pxL27, pxL28, pxL29, pxL30, pxL31, pxL32, pxL33, pxL34, pxL35, pxL36, pxL37, pxL38, pxL39, pxL40, pxL41, pxL42, pxL43, pxL44, pxL45, pxL46, pxL47, pxL48, pxL49, pxL51, pxL57, pxL58, pxL59, pxL60, pxL61, pxL62, pxL63, pxL64, pxL65, pxL66, pxL67, pxL68, pxL69, pxL70, pxL71, pxL72, pxL73, pxL74, pxL75, pxL76, pxL77, pxL78, pxL79, pxL80, pxL81, pxL82, pxL83, pxL84, pxL85, pxL86, pxL87, pxL88, pxL89, pxL90, pxL91, pxL92, pxL93, pxL94, pxL95, pxL96, pxL97, pxL98, pxL99, pxL100, pxL101, pxL102, pxL103, pxL104, pxL105, pxL106, pxL107, pxL108, pxL109, pxL110, pxL111, pxL112, pxL113, pxL114, pxL115, pxL116, pxL117, pxL118, pxL119, pxL120, pxL121, pxL122, pxL123, pxL124, pxL125, pxL126, pxL200, pxL240, pxL287, pxL388, pxL400, pxL429, pxL431, pxL440, pxL1240, pxL1600, pxL1681, pxL12028, pxL13849, pxL14880, pxL25173, pxL26908, pxL49600, pxL65535, pxL65536, ↓reduceIte, reduceCtorEq, pxJ_add, pxJ_sub, pxJ_mul, pxJ_neg, pxD_lt_t, pxD_lt_f, pxD_le_t, pxD_le_f, pxD_eq_t, pxD_eq_f, pxJ_lt, pxJ_le, pxJ_eq, px_gI, px_gR, px_pI, px_rc, px_ai, px_ar, px_si, px_ln, px_cp, pxJ_div, pxJ_b8, pxJ_byte, px_b2, px_bs, px_rb0, px_rb1, px_min, px_max, px_compare, pxW_some, jw_t_I, px_cpt, jw_r_I, px_cpr, jw_l_I, px_cpl, Option.some.injEq, w0, w1, t9, a0, a1]
  have c1' : ¬ (48 ≤ pxP s q ∧ pxP s q ≤ 57) := fun z => c1 (pxIsDg_i.mpr z)
  rw [if_neg c1] at a0
  by_cases c2' : pxP s q = 36
  · have eB : pxLocB s q T = T.1.length := by unfold pxLocB; rw [if_neg c1, if_pos c2']
    have e := b133 pxF.rfl ha (by omega)
    rw [eB] at e
    refine ⟨h, ?_, pxF.rfl⟩
    rw [← e]
    clear b133 fin bb sv
    simp (maxSteps := 4000000) (disch := first | assumption | omega | (simp only [jw_t_I, px_cpt]; done) | (simp only [jw_t_I, px_cpt]; omega)) only [pxL0, pxL1, pxL2, pxL3, pxL4, pxL5, pxL6, pxL7, pxL8, pxL9, pxL10, pxL11, pxL12, pxL13, pxL14, pxL15, pxL16, pxL17, pxL18, pxL19, pxL20, pxL21, pxL22, pxL23, pxL24, pxL25, pxL26, pxL27, pxL28, pxL29, pxL30, pxL31, pxL32, pxL33, pxL34, pxL35, pxL36, pxL37, pxL38, pxL39, pxL40, pxL41, pxL42, pxL43, pxL44, pxL45, pxL46, pxL47, pxL48, pxL49, pxL51, pxL57, pxL58, pxL59, pxL60, pxL61, pxL62, pxL63, pxL64, pxL65, pxL66, pxL67, pxL68, pxL69, pxL70, pxL71, pxL72, pxL73, pxL74, pxL75, pxL76, pxL77, pxL78, pxL79, pxL80, pxL81, pxL82, pxL83, pxL84, pxL85, pxL86, pxL87, pxL88, pxL89, pxL90, pxL91, pxL92, pxL93, pxL94, pxL95, pxL96, pxL97, pxL98, pxL99, pxL100, pxL101, pxL102, pxL103, pxL104, pxL105, pxL106, pxL107, pxL108, pxL109, pxL110, pxL111, pxL112, pxL113, pxL114, pxL115, pxL116, pxL117, pxL118, pxL119, pxL120, pxL121, pxL122, pxL123, pxL124, pxL125, pxL126, pxL200, pxL240, pxL287, pxL388, pxL400, pxL429, pxL431, pxL440, pxL1240, pxL1600, pxL1681, pxL12028, pxL13849, pxL14880, pxL25173, pxL26908, pxL49600, pxL65535, pxL65536, ↓reduceIte, reduceCtorEq, pxJ_add, pxJ_sub, pxJ_mul, pxJ_neg, pxD_lt_t, pxD_lt_f, pxD_le_t, pxD_le_f, pxD_eq_t, pxD_eq_f, pxJ_lt, pxJ_le, pxJ_eq, px_gI, px_gR, px_pI, px_rc, px_ai, px_ar, px_si, px_ln, px_cp, pxJ_div, pxJ_b8, pxJ_byte, px_b2, px_bs, px_rb0, px_rb1, px_min, px_max, px_compare, pxW_some, jw_t_I, px_cpt, jw_r_I, px_cpr, jw_l_I, px_cpl, Option.some.injEq, w0, w1, t9, a0, c2', r0, t7, c2]
  by_cases c3 : pxP s q = 39
  · obtain ⟨a1, a11, a12⟩ := am c3
    have ml := s_X9_markedLine H (k := pxP s (q + 1) - 97) (by omega) (by omega)
    have ni := pxNo_in T.1 (T.2.1 (pxP s (q + 1) - 97))
    have eB : pxLocB s q T = (if T.2.1 (pxP s (q + 1) - 97) = -1 ∨ pxNo T.1 (T.2.1 (pxP s (q + 1) - 97)) = -1 then -3 else pxNo T.1 (T.2.1 (pxP s (q + 1) - 97))) := by unfold pxLocB; rw [if_neg c1, if_neg c2', if_pos c3]
    by_cases d : T.2.1 (pxP s (q + 1) - 97) = -1 ∨ pxNo T.1 (T.2.1 (pxP s (q + 1) - 97)) = -1
    · rw [if_pos d] at eB
      have eL : pxLoc s q T = -3 := by unfold pxLoc; rw [eB]; rfl
      have ml' : f_X9_markedLine h 255 (pxJ (pxP s (q + 1) - 97)) = some (pxJ (-1), h) := by
        rw [ml]
        rcases d with d | d
        · rw [if_pos d]
        · by_cases z : T.2.1 (pxP s (q + 1) - 97) = -1
          · rw [if_pos z]
          · rw [if_neg z, d]
      rw [eL]
      refine ⟨h, ?_, pxF.rfl⟩
      clear b133 fin bb sv ml
      simp (maxSteps := 4000000) (disch := first | assumption | omega | (simp only [jw_t_I, px_cpt]; done) | (simp only [jw_t_I, px_cpt]; omega)) only [pxL0, pxL1, pxL2, pxL3, pxL4, pxL5, pxL6, pxL7, pxL8, pxL9, pxL10, pxL11, pxL12, pxL13, pxL14, pxL15, pxL16, pxL17, pxL18, pxL19, pxL20, pxL21, pxL22, pxL23, pxL24, pxL25, pxL26, pxL27, pxL28, pxL29, pxL30, pxL31, pxL32, pxL33, pxL34, pxL35, pxL36, pxL37, pxL38, pxL39, pxL40, pxL41, pxL42, pxL43, pxL44, pxL45, pxL46, pxL47, pxL48, pxL49, pxL51, pxL57, pxL58, pxL59, pxL60, pxL61, pxL62, pxL63, pxL64, pxL65, pxL66, pxL67, pxL68, pxL69, pxL70, pxL71, pxL72, pxL73, pxL74, pxL75, pxL76, pxL77, pxL78, pxL79, pxL80, pxL81, pxL82, pxL83, pxL84, pxL85, pxL86, pxL87, pxL88, pxL89, pxL90, pxL91, pxL92, pxL93, pxL94, pxL95, pxL96, pxL97, pxL98, pxL99, pxL100, pxL101, pxL102, pxL103, pxL104, pxL105, pxL106, pxL107, pxL108, pxL109, pxL110, pxL111, pxL112, pxL113, pxL114, pxL115, pxL116, pxL117, pxL118, pxL119, pxL120, pxL121, pxL122, pxL123, pxL124, pxL125, pxL126, pxL200, pxL240, pxL287, pxL388, pxL400, pxL429, pxL431, pxL440, pxL1240, pxL1600, pxL1681, pxL12028, pxL13849, pxL14880, pxL25173, pxL26908, pxL49600, pxL65535, pxL65536, ↓reduceIte, reduceCtorEq, pxJ_add, pxJ_sub, pxJ_mul, pxJ_neg, pxD_lt_t, pxD_lt_f, pxD_le_t, pxD_le_f, pxD_eq_t, pxD_eq_f, pxJ_lt, pxJ_le, pxJ_eq, px_gI, px_gR, px_pI, px_rc, px_ai, px_ar, px_si, px_ln, px_cp, pxJ_div, pxJ_b8, pxJ_byte, px_b2, px_bs, px_rb0, px_rb1, px_min, px_max, px_compare, pxW_some, jw_t_I, px_cpt, jw_r_I, px_cpr, jw_l_I, px_cpl, Option.some.injEq, w0, w1, t9, a0, c3, a1, ml']
    · rw [if_neg d] at eB
      rw [if_neg (fun z => d (Or.inl z))] at ml
      have e := b133 pxF.rfl ha (by omega)
      rw [eB] at e
      refine ⟨h, ?_, pxF.rfl⟩
      rw [← e]
      clear b133 fin bb sv
      simp (maxSteps := 4000000) (disch := first | assumption | omega | (simp only [jw_t_I, px_cpt]; done) | (simp only [jw_t_I, px_cpt]; omega)) only [pxL0, pxL1, pxL2, pxL3, pxL4, pxL5, pxL6, pxL7, pxL8, pxL9, pxL10, pxL11, pxL12, pxL13, pxL14, pxL15, pxL16, pxL17, pxL18, pxL19, pxL20, pxL21, pxL22, pxL23, pxL24, pxL25, pxL26, pxL27, pxL28, pxL29, pxL30, pxL31, pxL32, pxL33, pxL34, pxL35, pxL36, pxL37, pxL38, pxL39, pxL40, pxL41, pxL42, pxL43, pxL44, pxL45, pxL46, pxL47, pxL48, pxL49, pxL51, pxL57, pxL58, pxL59, pxL60, pxL61, pxL62, pxL63, pxL64, pxL65, pxL66, pxL67, pxL68, pxL69, pxL70, pxL71, pxL72, pxL73, pxL74, pxL75, pxL76, pxL77, pxL78, pxL79, pxL80, pxL81, pxL82, pxL83, pxL84, pxL85, pxL86, pxL87, pxL88, pxL89, pxL90, pxL91, pxL92, pxL93, pxL94, pxL95, pxL96, pxL97, pxL98, pxL99, pxL100, pxL101, pxL102, pxL103, pxL104, pxL105, pxL106, pxL107, pxL108, pxL109, pxL110, pxL111, pxL112, pxL113, pxL114, pxL115, pxL116, pxL117, pxL118, pxL119, pxL120, pxL121, pxL122, pxL123, pxL124, pxL125, pxL126, pxL200, pxL240, pxL287, pxL388, pxL400, pxL429, pxL431, pxL440, pxL1240, pxL1600, pxL1681, pxL12028, pxL13849, pxL14880, pxL25173, pxL26908, pxL49600, pxL65535, pxL65536, ↓reduceIte, reduceCtorEq, pxJ_add, pxJ_sub, pxJ_mul, pxJ_neg, pxD_lt_t, pxD_lt_f, pxD_le_t, pxD_le_f, pxD_eq_t, pxD_eq_f, pxJ_lt, pxJ_le, pxJ_eq, px_gI, px_gR, px_pI, px_rc, px_ai, px_ar, px_si, px_ln, px_cp, pxJ_div, pxJ_b8, pxJ_byte, px_b2, px_bs, px_rb0, px_rb1, px_min, px_max, px_compare, pxW_some, jw_t_I, px_cpt, jw_r_I, px_cpr, jw_l_I, px_cpl, Option.some.injEq, w0, w1, t9, a0, c3, a1, ml]
  by_cases c4 : pxP s q = 47 ∨ pxP s q = 63
  · obtain ⟨b1, b2, b3⟩ := ap c4
    have okp := o1 c4
    have wf := pxFull_w okp
    have PE : pxPE h s (pxM h a 1) (pxM h 10 7) (pxFull s (q + 1)) := ⟨S, rfl, m7, b1, b2, b3⟩
    obtain ⟨h1, v1, v2⟩ := s_X4_lineWith (back := decide (pxP s q = 63)) (by omega) (by omega) wf.1 M H hn.1 hn.2 PE
    have lb := pxLW_b (s := s) (l := pxFull s (q + 1)) (rs := pxRs T.1) (back := decide (pxP s q = 63)) T.1.length T.2.2.1 (by rw [pxRs_len]; exact Nat.le_refl _) hn.1 (by rw [pxRs_len]; exact hn.2)
    rw [pxRs_len] at lb
    have eB : pxLocB s q T = (if pxLW s (pxFull s (q + 1)) (pxRs T.1) (decide (pxP s q = 63)) T.1.length T.2.2.1 = -1 then -2 else pxLW s (pxFull s (q + 1)) (pxRs T.1) (decide (pxP s q = 63)) T.1.length T.2.2.1) := by unfold pxLocB; rw [if_neg c1, if_neg c2', if_neg c3, if_pos c4]
    have m0 := M.1
    have eM : pxJ (pxM h a 1) = jw_i h a 1 := (pxM_J h a 1).symm
    generalize hw : pxLW s (pxFull s (q + 1)) (pxRs T.1) (decide (pxP s q = 63)) T.1.length T.2.2.1 = w at v1 lb eB
    have st : f_X10_locate h 559 (some a) = (if w = -1 then some (pxJ (-2), h1) else g_X10_locate_b133 h1 559 (some a) (pxJ w)) := by
      clear b133 fin bb sv eB ap b3 PE wf v2
      unfold f_X10_locate g_X10_locate_b95 g_X10_locate_b121
      rcases c4 with c4 | c4
      · rw [c4] at v1 a0
        rw [show (if decide ((47 : Int) = 63) = true then (1 : Int) else 0) = 0 from rfl] at v1
        by_cases d : w = -1
        · rw [if_pos d]
          rw [d] at v1
          simp (maxSteps := 4000000) (disch := first | assumption | omega | (simp only [jw_t_I, px_cpt]; done) | (simp only [jw_t_I, px_cpt]; omega)) only [pxL0, pxL1, pxL2, pxL3, pxL4, pxL5, pxL6, pxL7, pxL8, pxL9, pxL10, pxL11, pxL12, pxL13, pxL14, pxL15, pxL16, pxL17, pxL18, pxL19, pxL20, pxL21, pxL22, pxL23, pxL24, pxL25, pxL26, pxL27, pxL28, pxL29, pxL30, pxL31, pxL32, pxL33, pxL34, pxL35, pxL36, pxL37, pxL38, pxL39, pxL40, pxL41, pxL42, pxL43, pxL44, pxL45, pxL46, pxL47, pxL48, pxL49, pxL51, pxL57, pxL58, pxL59, pxL60, pxL61, pxL62, pxL63, pxL64, pxL65, pxL66, pxL67, pxL68, pxL69, pxL70, pxL71, pxL72, pxL73, pxL74, pxL75, pxL76, pxL77, pxL78, pxL79, pxL80, pxL81, pxL82, pxL83, pxL84, pxL85, pxL86, pxL87, pxL88, pxL89, pxL90, pxL91, pxL92, pxL93, pxL94, pxL95, pxL96, pxL97, pxL98, pxL99, pxL100, pxL101, pxL102, pxL103, pxL104, pxL105, pxL106, pxL107, pxL108, pxL109, pxL110, pxL111, pxL112, pxL113, pxL114, pxL115, pxL116, pxL117, pxL118, pxL119, pxL120, pxL121, pxL122, pxL123, pxL124, pxL125, pxL126, pxL200, pxL240, pxL287, pxL388, pxL400, pxL429, pxL431, pxL440, pxL1240, pxL1600, pxL1681, pxL12028, pxL13849, pxL14880, pxL25173, pxL26908, pxL49600, pxL65535, pxL65536, ↓reduceIte, reduceCtorEq, pxJ_add, pxJ_sub, pxJ_mul, pxJ_neg, pxD_lt_t, pxD_lt_f, pxD_le_t, pxD_le_f, pxD_eq_t, pxD_eq_f, pxJ_lt, pxJ_le, pxJ_eq, px_gI, px_gR, px_pI, px_rc, px_ai, px_ar, px_si, px_ln, px_cp, pxJ_div, pxJ_b8, pxJ_byte, px_b2, px_bs, px_rb0, px_rb1, px_min, px_max, px_compare, pxW_some, jw_t_I, px_cpt, jw_r_I, px_cpr, jw_l_I, px_cpl, Option.some.injEq, w0, w1, t9, m3, a0, w4, m0, v1]
        · rw [if_neg d]
          simp (maxSteps := 4000000) (disch := first | assumption | omega | (simp only [jw_t_I, px_cpt]; done) | (simp only [jw_t_I, px_cpt]; omega)) only [pxL0, pxL1, pxL2, pxL3, pxL4, pxL5, pxL6, pxL7, pxL8, pxL9, pxL10, pxL11, pxL12, pxL13, pxL14, pxL15, pxL16, pxL17, pxL18, pxL19, pxL20, pxL21, pxL22, pxL23, pxL24, pxL25, pxL26, pxL27, pxL28, pxL29, pxL30, pxL31, pxL32, pxL33, pxL34, pxL35, pxL36, pxL37, pxL38, pxL39, pxL40, pxL41, pxL42, pxL43, pxL44, pxL45, pxL46, pxL47, pxL48, pxL49, pxL51, pxL57, pxL58, pxL59, pxL60, pxL61, pxL62, pxL63, pxL64, pxL65, pxL66, pxL67, pxL68, pxL69, pxL70, pxL71, pxL72, pxL73, pxL74, pxL75, pxL76, pxL77, pxL78, pxL79, pxL80, pxL81, pxL82, pxL83, pxL84, pxL85, pxL86, pxL87, pxL88, pxL89, pxL90, pxL91, pxL92, pxL93, pxL94, pxL95, pxL96, pxL97, pxL98, pxL99, pxL100, pxL101, pxL102, pxL103, pxL104, pxL105, pxL106, pxL107, pxL108, pxL109, pxL110, pxL111, pxL112, pxL113, pxL114, pxL115, pxL116, pxL117, pxL118, pxL119, pxL120, pxL121, pxL122, pxL123, pxL124, pxL125, pxL126, pxL200, pxL240, pxL287, pxL388, pxL400, pxL429, pxL431, pxL440, pxL1240, pxL1600, pxL1681, pxL12028, pxL13849, pxL14880, pxL25173, pxL26908, pxL49600, pxL65535, pxL65536, ↓reduceIte, reduceCtorEq, pxJ_add, pxJ_sub, pxJ_mul, pxJ_neg, pxD_lt_t, pxD_lt_f, pxD_le_t, pxD_le_f, pxD_eq_t, pxD_eq_f, pxJ_lt, pxJ_le, pxJ_eq, px_gI, px_gR, px_pI, px_rc, px_ai, px_ar, px_si, px_ln, px_cp, pxJ_div, pxJ_b8, pxJ_byte, px_b2, px_bs, px_rb0, px_rb1, px_min, px_max, px_compare, pxW_some, jw_t_I, px_cpt, jw_r_I, px_cpr, jw_l_I, px_cpl, Option.some.injEq, w0, w1, t9, m3, a0, w4, m0, v1]
      · rw [c4] at v1 a0
        rw [show (if decide ((63 : Int) = 63) = true then (1 : Int) else 0) = 1 from rfl] at v1
        by_cases d : w = -1
        · rw [if_pos d]
          rw [d] at v1
          simp (maxSteps := 4000000) (disch := first | assumption | omega | (simp only [jw_t_I, px_cpt]; done) | (simp only [jw_t_I, px_cpt]; omega)) only [pxL0, pxL1, pxL2, pxL3, pxL4, pxL5, pxL6, pxL7, pxL8, pxL9, pxL10, pxL11, pxL12, pxL13, pxL14, pxL15, pxL16, pxL17, pxL18, pxL19, pxL20, pxL21, pxL22, pxL23, pxL24, pxL25, pxL26, pxL27, pxL28, pxL29, pxL30, pxL31, pxL32, pxL33, pxL34, pxL35, pxL36, pxL37, pxL38, pxL39, pxL40, pxL41, pxL42, pxL43, pxL44, pxL45, pxL46, pxL47, pxL48, pxL49, pxL51, pxL57, pxL58, pxL59, pxL60, pxL61, pxL62, pxL63, pxL64, pxL65, pxL66, pxL67, pxL68, pxL69, pxL70, pxL71, pxL72, pxL73, pxL74, pxL75, pxL76, pxL77, pxL78, pxL79, pxL80, pxL81, pxL82, pxL83, pxL84, pxL85, pxL86, pxL87, pxL88, pxL89, pxL90, pxL91, pxL92, pxL93, pxL94, pxL95, pxL96, pxL97, pxL98, pxL99, pxL100, pxL101, pxL102, pxL103, pxL104, pxL105, pxL106, pxL107, pxL108, pxL109, pxL110, pxL111, pxL112, pxL113, pxL114, pxL115, pxL116, pxL117, pxL118, pxL119, pxL120, pxL121, pxL122, pxL123, pxL124, pxL125, pxL126, pxL200, pxL240, pxL287, pxL388, pxL400, pxL429, pxL431, pxL440, pxL1240, pxL1600, pxL1681, pxL12028, pxL13849, pxL14880, pxL25173, pxL26908, pxL49600, pxL65535, pxL65536, ↓reduceIte, reduceCtorEq, pxJ_add, pxJ_sub, pxJ_mul, pxJ_neg, pxD_lt_t, pxD_lt_f, pxD_le_t, pxD_le_f, pxD_eq_t, pxD_eq_f, pxJ_lt, pxJ_le, pxJ_eq, px_gI, px_gR, px_pI, px_rc, px_ai, px_ar, px_si, px_ln, px_cp, pxJ_div, pxJ_b8, pxJ_byte, px_b2, px_bs, px_rb0, px_rb1, px_min, px_max, px_compare, pxW_some, jw_t_I, px_cpt, jw_r_I, px_cpr, jw_l_I, px_cpl, Option.some.injEq, w0, w1, t9, m3, a0, w4, m0, v1]
        · rw [if_neg d]
          simp (maxSteps := 4000000) (disch := first | assumption | omega | (simp only [jw_t_I, px_cpt]; done) | (simp only [jw_t_I, px_cpt]; omega)) only [pxL0, pxL1, pxL2, pxL3, pxL4, pxL5, pxL6, pxL7, pxL8, pxL9, pxL10, pxL11, pxL12, pxL13, pxL14, pxL15, pxL16, pxL17, pxL18, pxL19, pxL20, pxL21, pxL22, pxL23, pxL24, pxL25, pxL26, pxL27, pxL28, pxL29, pxL30, pxL31, pxL32, pxL33, pxL34, pxL35, pxL36, pxL37, pxL38, pxL39, pxL40, pxL41, pxL42, pxL43, pxL44, pxL45, pxL46, pxL47, pxL48, pxL49, pxL51, pxL57, pxL58, pxL59, pxL60, pxL61, pxL62, pxL63, pxL64, pxL65, pxL66, pxL67, pxL68, pxL69, pxL70, pxL71, pxL72, pxL73, pxL74, pxL75, pxL76, pxL77, pxL78, pxL79, pxL80, pxL81, pxL82, pxL83, pxL84, pxL85, pxL86, pxL87, pxL88, pxL89, pxL90, pxL91, pxL92, pxL93, pxL94, pxL95, pxL96, pxL97, pxL98, pxL99, pxL100, pxL101, pxL102, pxL103, pxL104, pxL105, pxL106, pxL107, pxL108, pxL109, pxL110, pxL111, pxL112, pxL113, pxL114, pxL115, pxL116, pxL117, pxL118, pxL119, pxL120, pxL121, pxL122, pxL123, pxL124, pxL125, pxL126, pxL200, pxL240, pxL287, pxL388, pxL400, pxL429, pxL431, pxL440, pxL1240, pxL1600, pxL1681, pxL12028, pxL13849, pxL14880, pxL25173, pxL26908, pxL49600, pxL65535, pxL65536, ↓reduceIte, reduceCtorEq, pxJ_add, pxJ_sub, pxJ_mul, pxJ_neg, pxD_lt_t, pxD_lt_f, pxD_le_t, pxD_le_f, pxD_eq_t, pxD_eq_f, pxJ_lt, pxJ_le, pxJ_eq, px_gI, px_gR, px_pI, px_rc, px_ai, px_ar, px_si, px_ln, px_cp, pxJ_div, pxJ_b8, pxJ_byte, px_b2, px_bs, px_rb0, px_rb1, px_min, px_max, px_compare, pxW_some, jw_t_I, px_cpt, jw_r_I, px_cpr, jw_l_I, px_cpl, Option.some.injEq, w0, w1, t9, m3, a0, w4, m0, v1]
    unfold f_X10_locate at st
    rw [st]
    by_cases d : w = -1
    · rw [if_pos d] at eB ⊢
      have eL : pxLoc s q T = -2 := by unfold pxLoc; rw [eB]; rfl
      rw [eL]
      exact ⟨h1, rfl, v2⟩
    · rw [if_neg d] at eB ⊢
      have e := b133 v2 ha (by omega)
      rw [eB] at e
      exact ⟨h1, e, v2⟩
  · have c46 : pxP s q = 46 := by omega
    have eB : pxLocB s q T = T.2.2.1 := by unfold pxLocB; rw [if_neg c1, if_neg c2', if_neg c3, if_neg c4]
    have n0 := hn.1
    have n1 := hn.2
    have e := b133 pxF.rfl ha (by omega)
    rw [eB] at e
    refine ⟨h, ?_, pxF.rfl⟩
    rw [← e]
    clear b133 fin bb sv
    simp (maxSteps := 4000000) (disch := first | assumption | omega | (simp only [jw_t_I, px_cpt]; done) | (simp only [jw_t_I, px_cpt]; omega)) only [pxL0, pxL1, pxL2, pxL3, pxL4, pxL5, pxL6, pxL7, pxL8, pxL9, pxL10, pxL11, pxL12, pxL13, pxL14, pxL15, pxL16, pxL17, pxL18, pxL19, pxL20, pxL21, pxL22, pxL23, pxL24, pxL25, pxL26, pxL27, pxL28, pxL29, pxL30, pxL31, pxL32, pxL33, pxL34, pxL35, pxL36, pxL37, pxL38, pxL39, pxL40, pxL41, pxL42, pxL43, pxL44, pxL45, pxL46, pxL47, pxL48, pxL49, pxL51, pxL57, pxL58, pxL59, pxL60, pxL61, pxL62, pxL63, pxL64, pxL65, pxL66, pxL67, pxL68, pxL69, pxL70, pxL71, pxL72, pxL73, pxL74, pxL75, pxL76, pxL77, pxL78, pxL79, pxL80, pxL81, pxL82, pxL83, pxL84, pxL85, pxL86, pxL87, pxL88, pxL89, pxL90, pxL91, pxL92, pxL93, pxL94, pxL95, pxL96, pxL97, pxL98, pxL99, pxL100, pxL101, pxL102, pxL103, pxL104, pxL105, pxL106, pxL107, pxL108, pxL109, pxL110, pxL111, pxL112, pxL113, pxL114, pxL115, pxL116, pxL117, pxL118, pxL119, pxL120, pxL121, pxL122, pxL123, pxL124, pxL125, pxL126, pxL200, pxL240, pxL287, pxL388, pxL400, pxL429, pxL431, pxL440, pxL1240, pxL1600, pxL1681, pxL12028, pxL13849, pxL14880, pxL25173, pxL26908, pxL49600, pxL65535, pxL65536, ↓reduceIte, reduceCtorEq, pxJ_add, pxJ_sub, pxJ_mul, pxJ_neg, pxD_lt_t, pxD_lt_f, pxD_le_t, pxD_le_f, pxD_eq_t, pxD_eq_f, pxJ_lt, pxJ_le, pxJ_eq, px_gI, px_gR, px_pI, px_rc, px_ai, px_ar, px_si, px_ln, px_cp, pxJ_div, pxJ_b8, pxJ_byte, px_b2, px_bs, px_rb0, px_rb1, px_min, px_max, px_compare, pxW_some, jw_t_I, px_cpt, jw_r_I, px_cpr, jw_l_I, px_cpl, Option.some.injEq, w0, w1, t9, m3, a0, c46]
end
