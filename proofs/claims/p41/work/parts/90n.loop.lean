/-! orders line by line: all of a play -/
theorem pxBOrd_0 {s : List Int} {L : List (Int × List Int)} {T : pxTx} {k nx : Nat} {q came : Int} {G : Nat → pxFg} {W : pxWk} {Fr : pxFh} {S : pxSto} {rep : Bool} (h : (pxBOrd s L T k q nx came G W Fr S rep).1 = 0) : came + 1 ≤ 400 := by
  unfold pxBOrd at h
  by_cases c : 400 < came + 1
  · rw [if_pos c] at h; exact absurd h (by show ¬ (7 : Int) = 0; omega)
  · omega
theorem pxBOrd_k {s : List Int} {L : List (Int × List Int)} {T : pxTx} {k nx : Nat} {q came : Int} {G : Nat → pxFg} {W : pxWk} {Fr : pxFh} {S : pxSto} {rep : Bool} (hk : k < pxCnt L) (hn : nx ≤ pxCnt L) : (pxBOrd s L T k q nx came G W Fr S rep).2.1 ≤ pxCnt L := by
  unfold pxBOrd
  by_cases c1 : 400 < came + 1
  · rw [if_pos c1]; exact Nat.le_of_lt hk
  rw [if_neg c1]
  by_cases c2 : pxBar s q = true
  · rw [if_pos c2]; exact Nat.le_of_lt hk
  rw [if_neg c2]
  by_cases c3 : (pxBHold s q T.1.length W Fr (G k)).1 = false
  · rw [if_pos c3]; exact hn
  rw [if_neg c3]
  by_cases c4 : pxAc s q = 103 ∨ pxAc s q = 71 ∨ pxAc s q = 123
  · rw [if_pos c4]
    show (if pxAc s q = 123 ∨ (pxHolds s (pxFull s ((pxWh s q).2.1 + 2)) W.2.2.2.2.2.1 = decide (pxAc s q = 103)) then k + 1 else nx) ≤ pxCnt L
    by_cases d : pxAc s q = 123 ∨ (pxHolds s (pxFull s ((pxWh s q).2.1 + 2)) W.2.2.2.2.2.1 = decide (pxAc s q = 103))
    · rw [if_pos d]; exact hk
    · rw [if_neg d]; exact hn
  rw [if_neg c4]
  by_cases c5 : pxSteer (pxAc s q) = true
  · rw [if_pos c5]
    show (pxBStr s L q nx rep).2.1 ≤ pxCnt L
    unfold pxBStr
    by_cases d1 : pxAc s q = 113
    · rw [if_pos d1]; exact Nat.le_refl _
    rw [if_neg d1]
    by_cases d2 : pxAc s q = 78
    · rw [if_pos d2]; exact hn
    rw [if_neg d2]
    by_cases d3 : pxAc s q = 58 ∨ (pxAc s q = 84 ∧ rep = false)
    · rw [if_pos d3]; exact hn
    rw [if_neg d3]
    by_cases d4 : pxOn s (pxWh s q).2.1 = -1
    · rw [if_pos d4]; exact Nat.le_refl _
    · rw [if_neg d4]; exact pxCnt_tle _ _
  · rw [if_neg c5]
    show (if (pxBAct s (pxWh s q).2.1 (pxWh s q).2.2.1 (pxBHold s q T.1.length W Fr (G k)).2.2.2.1 T W Fr S rep).2.1.2.2.2.2.1 = true then pxCnt L else nx) ≤ pxCnt L
    by_cases d : (pxBAct s (pxWh s q).2.1 (pxWh s q).2.2.1 (pxBHold s q T.1.length W Fr (G k)).2.2.2.1 T W Fr S rep).2.1.2.2.2.2.1 = true
    · rw [if_pos d]; exact Nat.le_refl _
    · rw [if_neg d]; exact hn
theorem pxBOrd_e {s : List Int} {L : List (Int × List Int)} {T : pxTx} {k nx : Nat} {q came : Int} {G : Nat → pxFg} {W : pxWk} {Fr : pxFh} {S : pxSto} {rep : Bool} : (pxBOrd s L T k q nx came G W Fr S rep).2.2.2.1 = true → (pxBOrd s L T k q nx came G W Fr S rep).2.1 = pxCnt L := by
  unfold pxBOrd
  by_cases c1 : 400 < came + 1
  · rw [if_pos c1]; intro z; cases z
  rw [if_neg c1]
  by_cases c2 : pxBar s q = true
  · rw [if_pos c2]; intro z; cases z
  rw [if_neg c2]
  by_cases c3 : (pxBHold s q T.1.length W Fr (G k)).1 = false
  · rw [if_pos c3]; intro z; cases z
  rw [if_neg c3]
  by_cases c4 : pxAc s q = 103 ∨ pxAc s q = 71 ∨ pxAc s q = 123
  · rw [if_pos c4]; intro z; cases z
  rw [if_neg c4]
  by_cases c5 : pxSteer (pxAc s q) = true
  · rw [if_pos c5]
    show (pxBStr s L q nx rep).2.2.2.1 = true → (pxBStr s L q nx rep).2.1 = pxCnt L
    unfold pxBStr
    by_cases d1 : pxAc s q = 113
    · rw [if_pos d1]; intro _; rfl
    rw [if_neg d1]
    by_cases d2 : pxAc s q = 78
    · rw [if_pos d2]; intro z; cases z
    rw [if_neg d2]
    by_cases d3 : pxAc s q = 58 ∨ (pxAc s q = 84 ∧ rep = false)
    · rw [if_pos d3]; intro z; cases z
    rw [if_neg d3]
    by_cases d4 : pxOn s (pxWh s q).2.1 = -1
    · rw [if_pos d4]; intro z; cases z
    · rw [if_neg d4]; intro z; cases z
  · rw [if_neg c5]; intro z; cases z
/-- of which turn an order leaves the work -/
theorem pxBOrd_t {s : List Int} {L : List (Int × List Int)} {T : pxTx} {k nx : Nat} {q came : Int} {G : Nat → pxFg} {W : pxWk} {Fr : pxFh} {S : pxSto} {rep : Bool} : (pxBOrd s L T k q nx came G W Fr S rep).2.2.2.2.2.1.2.2.2.1 = W.2.2.2.1 := by
  have act : ∀ p wh over, (pxBAct s p wh over T W Fr S rep).2.1.2.2.2.1 = W.2.2.2.1 := by
    intro p wh over
    have op : ∀ {o : Option pxFh} {W' : pxWk}, W'.2.2.2.1 = W.2.2.2.1 → (o.elim ((4 : Int), W, Fr, S, rep) (fun z => (0, W', z, S, rep))).2.1.2.2.2.1 = W.2.2.2.1 := by
      intro o W' e
      cases o with
      | none => rfl
      | some z => exact e
    unfold pxBAct
    by_cases c1 : pxP s p = 62 ∨ pxP s p = 115 ∨ pxP s p = 122 ∨ pxP s p = 60
    · rw [if_pos c1]
      by_cases d : 30 < (pxChg s p W.2.2.2.2.2.1).1.length
      · rw [if_pos d]
      · rw [if_neg d]; rfl
    rw [if_neg c1]
    by_cases c2 : pxP s p = 97
    · rw [if_pos c2]; rfl
    rw [if_neg c2]
    by_cases c3 : pxP s p = 99
    · rw [if_pos c3]
      by_cases d : wh = 3 ∧ over = false
      · rw [if_pos d]; rfl
      · rw [if_neg d]; exact op rfl
    rw [if_neg c3]
    by_cases c4 : pxP s p = 100
    · rw [if_pos c4]; rfl
    rw [if_neg c4]
    by_cases c5 : pxP s p = 101
    · rw [if_pos c5]
      by_cases d : S.1.length = 1
      · rw [if_pos d]; rfl
      · rw [if_neg d]
    rw [if_neg c5]
    by_cases c6 : pxP s p = 105
    · rw [if_pos c6]; exact op rfl
    rw [if_neg c6]
    by_cases c7 : pxP s p = 106
    · rw [if_pos c7]
      unfold pxBJoin
      by_cases d : W.2.2.1 < (T.1.length : Int)
      · rw [if_pos d]
        by_cases e : (W.2.2.2.2.2.1.length : Int) + pxLn (pxRs T.1) (W.2.2.1 + 1) ≤ 30
        · rw [if_pos e]
        · rw [if_neg e]
      · rw [if_neg d]
    rw [if_neg c7]
    by_cases c8 : pxP s p = 114
    · rw [if_pos c8]; rfl
    rw [if_neg c8]
    by_cases c9 : pxP s p = 117
    · rw [if_pos c9]
      by_cases d : S.1 = []
      · rw [if_pos d]
      · rw [if_neg d]; rfl
    rw [if_neg c9]
    by_cases c10 : pxP s p = 118
    · rw [if_pos c10]
      unfold pxBPart
      by_cases d : pxNumV s (p + 1) < (W.2.2.2.2.2.1.length : Int)
      · rw [if_pos d]; rfl
      · rw [if_neg d]
    rw [if_neg c10]
    unfold pxBTell
    by_cases d1 : pxP s p = 61
    · rw [if_pos d1]
      by_cases e : S.2.1.length < 100
      · rw [if_pos e]
      · rw [if_neg e]
    rw [if_neg d1]
    by_cases d2 : pxP s p = 72
    · rw [if_pos d2]
      by_cases e : S.1.length < 40
      · rw [if_pos e]
      · rw [if_neg e]
    rw [if_neg d2]
    by_cases d3 : pxP s p = 104
    · rw [if_pos d3]
    rw [if_neg d3]
    by_cases d4 : pxP s p = 107
    · rw [if_pos d4]
    rw [if_neg d4]
    by_cases d5 : pxP s p = 110
    · rw [if_pos d5]
      by_cases e : (pxDig W.2.1 ++ [32] ++ W.2.2.2.2.2.1).length ≤ 30 ∧ S.2.1.length < 100
      · rw [if_pos e]
      · rw [if_neg e]
    rw [if_neg d5]
    by_cases d6 : pxP s p = 112
    · rw [if_pos d6]
      by_cases e : W.2.2.2.2.2.1.length ≤ 30 ∧ S.2.1.length < 100
      · rw [if_pos e]
      · rw [if_neg e]
    rw [if_neg d6]
    by_cases e : (S.2.2 (pxP s (p + 1) - 48)).length < 40
    · rw [if_pos e]
    · rw [if_neg e]
  unfold pxBOrd
  by_cases c1 : 400 < came + 1
  · rw [if_pos c1]
  rw [if_neg c1]
  by_cases c2 : pxBar s q = true
  · rw [if_pos c2]
  rw [if_neg c2]
  by_cases c3 : (pxBHold s q T.1.length W Fr (G k)).1 = false
  · rw [if_pos c3]
  rw [if_neg c3]
  by_cases c4 : pxAc s q = 103 ∨ pxAc s q = 71 ∨ pxAc s q = 123
  · rw [if_pos c4]
  rw [if_neg c4]
  by_cases c5 : pxSteer (pxAc s q) = true
  · rw [if_pos c5]
  · rw [if_neg c5]; exact act _ _ _
section
variable {T : pxTx} {S0 : pxSto} {s : List Int} {b : Nat} {L : List (Int × List Int)}
/-- what a play comes to -/
def pxBFin (T : pxTx) (S0 : pxSto) (h : jw_H) (R : Int × Int × pxFh × pxSto) (o : Option (Int32 × jw_H)) : Prop :=
  (R.2.1 = 0 → ∃ h', o = some (pxJ R.1, h') ∧ pxBZ h h' (R.2.2.1.1, R.2.2.1.2.1, (R.2.2.1.1.length : Int), R.2.2.1.2.2) R.2.2.2 0) ∧
  (R.2.1 ≠ 0 → ∃ h', o = some (pxJ (-1), h') ∧ pxBZ h h' T S0 R.2.1)
theorem pxBFin.pre {h h1 : jw_H} {R : Int × Int × pxFh × pxSto} {o : Option (Int32 × jw_H)} (F : pxF pxQL h h1) (H : pxBFin T S0 h1 R o) : pxBFin T S0 h R o :=
  ⟨fun z => by obtain ⟨h', e, Z⟩ := H.1 z; exact ⟨h', e, F.trans Z.1, Z.2⟩, fun z => by obtain ⟨h', e, Z⟩ := H.2 z; exact ⟨h', e, F.trans Z.1, Z.2⟩⟩
theorem s_X1_putRest4 {h : jw_H} {β : pxBe} (H : pxBS h T β) (m15 : pxM h 571 15 = 4) : f_X1_putRest h 571 = some ((), h) := by
  obtain ⟨a1, a2, a3, a4, a5, a6, ⟨b1, b2, b3, b4, b5, b6, b7, b8, b9, b10⟩, a8, a9, a10⟩ := H
  have l40 := pxIT.len a4
  have t1 := a1.1
  have r1 := a1.2.2.1
  have t9 := a4.1.1
  have q0 := a4.1.2.1
  have t7 := a4.2.1.1.1
  have c2 := pxIT.c2 a4
  unfold f_X1_putRest
  rw [show jw_FU = 99999 + 1 from rfl]
  have st : f_X1_putRest_b7 (99999 + 1) h 571 (pxJ (β.1.2.2.1 + 1)) = some ((), h) := by
    rw [u_X1_putRest_b7]
    unfold g_X1_putRest_b7
    clear a1 a2 a3 a4 a5 a6 b6 b7 a8 a9 a10
    by_cases c : (T.1.length : Int) < β.1.2.2.1 + 1
    · simp (maxSteps := 4000000) (disch := first | assumption | omega | (simp only [jw_t_I, px_cpt]; done) | (simp only [jw_t_I, px_cpt]; omega)) only [pxL0, pxL1, pxL2, pxL3, pxL4, pxL5, pxL6, pxL7, pxL8, pxL9, pxL10, pxL11, pxL12, pxL13, pxL14, pxL15, pxL16, pxL17, pxL18, pxL19, pxL20, pxL21, pxL22, pxL23, pxL24, pxL25, pxL26, pxL27, pxL28, pxL29, pxL30, pxL31, pxL32, pxL33, pxL34, pxL35, pxL36, pxL37, pxL38, pxL39, pxL40, pxL41, pxL42, pxL43, pxL44, pxL45, pxL46, pxL47, pxL48, pxL49, pxL51, pxL57, pxL58, pxL59, pxL60, pxL61, pxL62, pxL63, pxL64, pxL65, pxL66, pxL67, pxL68, pxL69, pxL70, pxL71, pxL72, pxL73, pxL74, pxL75, pxL76, pxL77, pxL78, pxL79, pxL80, pxL81, pxL82, pxL83, pxL84, pxL85, pxL86, pxL87, pxL88, pxL89, pxL90, pxL91, pxL92, pxL93, pxL94, pxL95, pxL96, pxL97, pxL98, pxL99, pxL100, pxL101, pxL102, pxL103, pxL104, pxL105, pxL106, pxL107, pxL108, pxL109, pxL110, pxL111, pxL112, pxL113, pxL114, pxL115, pxL116, pxL117, pxL118, pxL119, pxL120, pxL121, pxL122, pxL123, pxL124, pxL125, pxL126, pxL200, pxL240, pxL287, pxL388, pxL400, pxL429, pxL431, pxL440, pxL1240, pxL1600, pxL1681, pxL12028, pxL13849, pxL14880, pxL25173, pxL26908, pxL49600, pxL65535, pxL65536, ↓reduceIte, reduceCtorEq, pxJ_add, pxJ_sub, pxJ_mul, pxJ_neg, pxD_lt_t, pxD_lt_f, pxD_le_t, pxD_le_f, pxD_eq_t, pxD_eq_f, pxJ_lt, pxJ_le, pxJ_eq, px_gI, px_gR, px_pI, px_rc, px_ai, px_ar, px_si, px_ln, px_cp, pxJ_div, pxJ_b8, pxJ_byte, px_b2, px_bs, px_rb0, px_rb1, px_min, px_max, px_compare, pxW_some, jw_t_I, px_cpt, jw_r_I, px_cpr, jw_l_I, px_cpl, Option.some.injEq, t1, r1, t9, q0, t7, c2]
    · simp (maxSteps := 4000000) (disch := first | assumption | omega | (simp only [jw_t_I, px_cpt]; done) | (simp only [jw_t_I, px_cpt]; omega)) only [pxL0, pxL1, pxL2, pxL3, pxL4, pxL5, pxL6, pxL7, pxL8, pxL9, pxL10, pxL11, pxL12, pxL13, pxL14, pxL15, pxL16, pxL17, pxL18, pxL19, pxL20, pxL21, pxL22, pxL23, pxL24, pxL25, pxL26, pxL27, pxL28, pxL29, pxL30, pxL31, pxL32, pxL33, pxL34, pxL35, pxL36, pxL37, pxL38, pxL39, pxL40, pxL41, pxL42, pxL43, pxL44, pxL45, pxL46, pxL47, pxL48, pxL49, pxL51, pxL57, pxL58, pxL59, pxL60, pxL61, pxL62, pxL63, pxL64, pxL65, pxL66, pxL67, pxL68, pxL69, pxL70, pxL71, pxL72, pxL73, pxL74, pxL75, pxL76, pxL77, pxL78, pxL79, pxL80, pxL81, pxL82, pxL83, pxL84, pxL85, pxL86, pxL87, pxL88, pxL89, pxL90, pxL91, pxL92, pxL93, pxL94, pxL95, pxL96, pxL97, pxL98, pxL99, pxL100, pxL101, pxL102, pxL103, pxL104, pxL105, pxL106, pxL107, pxL108, pxL109, pxL110, pxL111, pxL112, pxL113, pxL114, pxL115, pxL116, pxL117, pxL118, pxL119, pxL120, pxL121, pxL122, pxL123, pxL124, pxL125, pxL126, pxL200, pxL240, pxL287, pxL388, pxL400, pxL429, pxL431, pxL440, pxL1240, pxL1600, pxL1681, pxL12028, pxL13849, pxL14880, pxL25173, pxL26908, pxL49600, pxL65535, pxL65536, ↓reduceIte, reduceCtorEq, pxJ_add, pxJ_sub, pxJ_mul, pxJ_neg, pxD_lt_t, pxD_lt_f, pxD_le_t, pxD_le_f, pxD_eq_t, pxD_eq_f, pxJ_lt, pxJ_le, pxJ_eq, px_gI, px_gR, px_pI, px_rc, px_ai, px_ar, px_si, px_ln, px_cp, pxJ_div, pxJ_b8, pxJ_byte, px_b2, px_bs, px_rb0, px_rb1, px_min, px_max, px_compare, pxW_some, jw_t_I, px_cpt, jw_r_I, px_cpr, jw_l_I, px_cpl, Option.some.injEq, t1, r1, t9, q0, t7, c2, m15]
  clear a1 a2 a3 a4 a5 a6 b6 b7 a8 a9 a10
  simp (maxSteps := 4000000) (disch := first | assumption | omega | (simp only [jw_t_I, px_cpt]; done) | (simp only [jw_t_I, px_cpt]; omega)) only [pxL0, pxL1, pxL2, pxL3, pxL4, pxL5, pxL6, pxL7, pxL8, pxL9, pxL10, pxL11, pxL12, pxL13, pxL14, pxL15, pxL16, pxL17, pxL18, pxL19, pxL20, pxL21, pxL22, pxL23, pxL24, pxL25, pxL26, pxL27, pxL28, pxL29, pxL30, pxL31, pxL32, pxL33, pxL34, pxL35, pxL36, pxL37, pxL38, pxL39, pxL40, pxL41, pxL42, pxL43, pxL44, pxL45, pxL46, pxL47, pxL48, pxL49, pxL51, pxL57, pxL58, pxL59, pxL60, pxL61, pxL62, pxL63, pxL64, pxL65, pxL66, pxL67, pxL68, pxL69, pxL70, pxL71, pxL72, pxL73, pxL74, pxL75, pxL76, pxL77, pxL78, pxL79, pxL80, pxL81, pxL82, pxL83, pxL84, pxL85, pxL86, pxL87, pxL88, pxL89, pxL90, pxL91, pxL92, pxL93, pxL94, pxL95, pxL96, pxL97, pxL98, pxL99, pxL100, pxL101, pxL102, pxL103, pxL104, pxL105, pxL106, pxL107, pxL108, pxL109, pxL110, pxL111, pxL112, pxL113, pxL114, pxL115, pxL116, pxL117, pxL118, pxL119, pxL120, pxL121, pxL122, pxL123, pxL124, pxL125, pxL126, pxL200, pxL240, pxL287, pxL388, pxL400, pxL429, pxL431, pxL440, pxL1240, pxL1600, pxL1681, pxL12028, pxL13849, pxL14880, pxL25173, pxL26908, pxL49600, pxL65535, pxL65536, ↓reduceIte, reduceCtorEq, pxJ_add, pxJ_sub, pxJ_mul, pxJ_neg, pxD_lt_t, pxD_lt_f, pxD_le_t, pxD_le_f, pxD_eq_t, pxD_eq_f, pxJ_lt, pxJ_le, pxJ_eq, px_gI, px_gR, px_pI, px_rc, px_ai, px_ar, px_si, px_ln, px_cp, pxJ_div, pxJ_b8, pxJ_byte, px_b2, px_bs, px_rb0, px_rb1, px_min, px_max, px_compare, pxW_some, jw_t_I, px_cpt, jw_r_I, px_cpr, jw_l_I, px_cpl, Option.some.injEq, t1, b3, st]
theorem s_X1_loop : ∀ (m N : Nat) (h : jw_H) (k : Nat) (leaving ending : Bool) (came st : Int) (G : Nat → pxFg) (β : pxBe), (400 - came) + (T.1.length - β.1.2.2.2.1) < m → m < N → 0 ≤ came → came ≤ 400 → 1 ≤ β.1.2.2.2.1 → 0 ≤ st → st ≤ came + β.1.2.2.2.1 - 1 → k ≤ pxCnt L → (ending = true → pxCnt L ≤ k) → pxBP h b s L T S0 leaving ending came G β →
    pxBFin T S0 h (pxBLoop s L T m k leaving ending came G β) (f_X1_perform_b12 N h 571 (pxJ ((k : Nat) : Int)) (pxJ st)) := by
  intro m
  induction m with
  | zero =>
    intro N h k leaving ending came st G β hm hN c0 c1 u1 s0 s1 kc en P
    obtain ⟨-, -, -, -, -, -, ⟨-, -, -, -, -, -, -, -, q1, q2, q3⟩, -⟩ := P.2.1
    omega
  | succ m ih =>
    intro N h k leaving ending came st G β hm hN c0 c1 u1 s0 s1 kc en P
    obtain ⟨N, rfl⟩ : ∃ N', N = N' + 1 + 1 := ⟨N - 2, by omega⟩
    obtain ⟨PR, H, BG, B, m14, m15, m17, m18, m19⟩ := P
    obtain ⟨W, Fr, S, rep⟩ := β
    have u1' : 1 ≤ W.2.2.2.1 := u1
    have s1' : st ≤ came + W.2.2.2.1 - 1 := s1
    have hm' : (400 - came) + (T.1.length - W.2.2.2.1) < ((m + 1 : Nat) : Int) := hm
    have l40 := pxIT.len (pxBS_i.mp H).2.2.2.1
    obtain ⟨-, -, -, -, -, -, -, -, ⟨q1, q2⟩, q3, q4⟩ := (pxBS_i.mp H).2.2.2.2.2.2.1
    have t1 := H.1.1
    have r0 := H.1.2.1
    have m6 := PR.2.2.2.1
    have c60 := PR.2.2.2.2.1
    have tg := PR.2.1.1.1
    have eL : pxBLoop s L T (m + 1) k leaving ending came G (W, Fr, S, rep) = if leaving = false ∧ k < pxCnt L then
      ((pxFl L 0)[k]?).elim (came, 0, Fr, S) fun e =>
        if (pxBOrd s L T k e.1 e.2 came G W Fr S rep).1 ≠ 0 then (came + 1, (pxBOrd s L T k e.1 e.2 came G W Fr S rep).1, Fr, S)
        else pxBLoop s L T m (pxBOrd s L T k e.1 e.2 came G W Fr S rep).2.1 (pxBOrd s L T k e.1 e.2 came G W Fr S rep).2.2.1 (pxBOrd s L T k e.1 e.2 came G W Fr S rep).2.2.2.1 (came + 1) (pxBOrd s L T k e.1 e.2 came G W Fr S rep).2.2.2.2.1 (pxBOrd s L T k e.1 e.2 came G W Fr S rep).2.2.2.2.2
    else (pxBEnd W Fr).elim (came, 4, Fr, S) fun F =>
      if ending = true then (pxBRest (T.1.drop W.2.2.1.toNat) F).elim (came, 4, F, S) (fun F' => (came, 0, F', S))
      else if W.2.2.1 < (T.1.length : Int) then pxBLoop s L T m (if leaving = true then k else 0) false false came G (pxBNext T W, F, S, false)
      else (came, 0, F, S) := rfl
    rw [eL]
    -- a refused end
    have refd : ∀ (h1 : jw_H) (pl : Int32) (x r : Int) (β' : pxBe), pxF pxQL h h1 → pxBS h1 T β' → pxIS h1 538 S0.1 S0.2.1 S0.2.2 → pxM h1 571 15 = r → r ≠ 0 → ∃ h', f_X1_perform_b12 (N + 1) h1 571 pl (pxJ (st + 1)) = some (pxJ (-1), h') ∧ pxBZ h h' T S0 r := by
      intro h1 pl x r β' F1 H1 B1 mm rr
      obtain ⟨h', e, Z⟩ := s_b110r H1 B1 mm rr
      refine ⟨h', ?_, F1.trans Z.1, Z.2⟩
      rw [s_X1_stop H1.1.1 (g := pxM h1 571 17) rfl mm (Or.inr rr) (by omega) (by omega)]
      exact e
    by_cases c : leaving = false ∧ k < pxCnt L
    · rw [if_pos c]
      have kl : k < (pxFl L 0).length := by rw [pxFl_len]; exact c.2
      obtain ⟨⟨q, nx⟩, eq⟩ : ∃ e, (pxFl L 0)[k]? = some e := ⟨_, List.getElem?_eq_getElem kl⟩
      rw [eq]
      dsimp only [Option.elim]
      rw [c.1, if_neg (by decide)] at m18
      have e0 : ending = false := by
        cases ending with
        | false => rfl
        | true => exact absurd (en rfl) (by omega)
      rw [e0, if_neg (by decide)] at m19
      obtain ⟨v, h1, e1, F1, m141, m151, ⟨β1, H1⟩, ok⟩ := s_X1_doOrder PR eq H BG m14 c0 c1 m15 m18 m19
      have F1' : pxF pxQL h h1 := F1.mono (fun k f z => Or.inl z)
      have B1 := pxIS.fr B F1 (fun k f _ _ => by unfold pxQD pxQB; omega)
      have st1 : f_X1_perform_b12 (N + 1 + 1) h 571 (pxJ ((k : Nat) : Int)) (pxJ st) = f_X1_perform_b12 (N + 1) h1 571 v (pxJ (st + 1)) := by
        rw [u_X1_perform_b12]
        unfold g_X1_perform_b12 g_X1_perform_b104
        have kc' := c.2
        clear ih PR H BG B ok H1 B1 F1 F1' refd eq eL c en hm
        simp (maxSteps := 4000000) (disch := first | assumption | omega | (simp only [jw_t_I, px_cpt]; done) | (simp only [jw_t_I, px_cpt]; omega)) only [pxL0, pxL1, pxL2, pxL3, pxL4, pxL5, pxL6, pxL7, pxL8, pxL9, pxL10, pxL11, pxL12, pxL13, pxL14, pxL15, pxL16, pxL17, pxL18, pxL19, pxL20, pxL21, pxL22, pxL23, pxL24, pxL25, pxL26, pxL27, pxL28, pxL29, pxL30, pxL31, pxL32, pxL33, pxL34, pxL35, pxL36, pxL37, pxL38, pxL39, pxL40, pxL41, pxL42, pxL43, pxL44, pxL45, pxL46, pxL47, pxL48, pxL49, pxL51, pxL57, pxL58, pxL59, pxL60, pxL61, pxL62, pxL63, pxL64, pxL65, pxL66, pxL67, pxL68, pxL69, pxL70, pxL71, pxL72, pxL73, pxL74, pxL75, pxL76, pxL77, pxL78, pxL79, pxL80, pxL81, pxL82, pxL83, pxL84, pxL85, pxL86, pxL87, pxL88, pxL89, pxL90, pxL91, pxL92, pxL93, pxL94, pxL95, pxL96, pxL97, pxL98, pxL99, pxL100, pxL101, pxL102, pxL103, pxL104, pxL105, pxL106, pxL107, pxL108, pxL109, pxL110, pxL111, pxL112, pxL113, pxL114, pxL115, pxL116, pxL117, pxL118, pxL119, pxL120, pxL121, pxL122, pxL123, pxL124, pxL125, pxL126, pxL200, pxL240, pxL287, pxL388, pxL400, pxL429, pxL431, pxL440, pxL1240, pxL1600, pxL1681, pxL12028, pxL13849, pxL14880, pxL25173, pxL26908, pxL49600, pxL65535, pxL65536, ↓reduceIte, reduceCtorEq, pxJ_add, pxJ_sub, pxJ_mul, pxJ_neg, pxD_lt_t, pxD_lt_f, pxD_le_t, pxD_le_f, pxD_eq_t, pxD_eq_f, pxJ_lt, pxJ_le, pxJ_eq, px_gI, px_gR, px_pI, px_rc, px_ai, px_ar, px_si, px_ln, px_cp, pxJ_div, pxJ_b8, pxJ_byte, px_b2, px_bs, px_rb0, px_rb1, px_min, px_max, px_compare, pxW_some, jw_t_I, px_cpt, jw_r_I, px_cpr, jw_l_I, px_cpl, Option.some.injEq, t1, m17, m15, m18, r0, tg, m6, e1]
      rw [st1]
      have od0 := pxBOrd_0 (s := s) (L := L) (T := T) (k := k) (nx := nx) (q := q) (came := came) (G := G) (W := W) (Fr := Fr) (S := S) (rep := rep)
      have odk := pxBOrd_k (s := s) (L := L) (T := T) (k := k) (nx := nx) (q := q) (came := came) (G := G) (W := W) (Fr := Fr) (S := S) (rep := rep) c.2 (PR.fl eq).2.2.2
      have odt := pxBOrd_t (s := s) (L := L) (T := T) (k := k) (nx := nx) (q := q) (came := came) (G := G) (W := W) (Fr := Fr) (S := S) (rep := rep)
      have ode := pxBOrd_e (s := s) (L := L) (T := T) (k := k) (nx := nx) (q := q) (came := came) (G := G) (W := W) (Fr := Fr) (S := S) (rep := rep)
      generalize pxBOrd s L T k q nx came G W Fr S rep = R at *
      by_cases z : R.1 = 0
      · rw [if_neg (show ¬ R.1 ≠ 0 from fun y => y z)]
        obtain ⟨ev, H2, BG2, m182, m192⟩ := ok z
        rw [ev]
        refine pxBFin.pre F1' (ih (N + 1) h1 R.2.1 R.2.2.1 R.2.2.2.1 (came + 1) (st + 1) R.2.2.2.2.1 R.2.2.2.2.2 (by rw [odt]; omega) (by omega) (by omega) (od0 z) (by rw [odt]; exact u1') (by omega) (by rw [odt]; omega) odk (fun y => by rw [ode y]; exact Nat.le_refl _) ⟨PR.fo F1 (fun k' f y w => by unfold pxQD pxQB at w; omega), H2, BG2, B1, m141, by rw [m151]; exact z, by rw [F1.m (by unfold pxQD pxQB; omega)]; exact m17, m182, m192⟩)
      · rw [if_pos (show R.1 ≠ 0 from z)]
        refine ⟨fun y => absurd y z, fun _ => refd h1 v 0 R.1 β1 F1' H1 B1 m151 z⟩
    · rw [if_neg c]
      -- the work is put
      have st64 : f_X1_perform_b12 (N + 1 + 1) h 571 (pxJ ((k : Nat) : Int)) (pxJ st) = g_X1_perform_b64 (f_X1_perform_b12 (N + 1)) h 571 (pxJ ((k : Nat) : Int)) (pxJ st) := by
        rw [u_X1_perform_b12]
        unfold g_X1_perform_b12
        cases leaving with
        | true =>
          rw [if_pos rfl] at m18
          clear ih PR H BG B refd eL c en hm
          simp (maxSteps := 4000000) (disch := first | assumption | omega | (simp only [jw_t_I, px_cpt]; done) | (simp only [jw_t_I, px_cpt]; omega)) only [pxL0, pxL1, pxL2, pxL3, pxL4, pxL5, pxL6, pxL7, pxL8, pxL9, pxL10, pxL11, pxL12, pxL13, pxL14, pxL15, pxL16, pxL17, pxL18, pxL19, pxL20, pxL21, pxL22, pxL23, pxL24, pxL25, pxL26, pxL27, pxL28, pxL29, pxL30, pxL31, pxL32, pxL33, pxL34, pxL35, pxL36, pxL37, pxL38, pxL39, pxL40, pxL41, pxL42, pxL43, pxL44, pxL45, pxL46, pxL47, pxL48, pxL49, pxL51, pxL57, pxL58, pxL59, pxL60, pxL61, pxL62, pxL63, pxL64, pxL65, pxL66, pxL67, pxL68, pxL69, pxL70, pxL71, pxL72, pxL73, pxL74, pxL75, pxL76, pxL77, pxL78, pxL79, pxL80, pxL81, pxL82, pxL83, pxL84, pxL85, pxL86, pxL87, pxL88, pxL89, pxL90, pxL91, pxL92, pxL93, pxL94, pxL95, pxL96, pxL97, pxL98, pxL99, pxL100, pxL101, pxL102, pxL103, pxL104, pxL105, pxL106, pxL107, pxL108, pxL109, pxL110, pxL111, pxL112, pxL113, pxL114, pxL115, pxL116, pxL117, pxL118, pxL119, pxL120, pxL121, pxL122, pxL123, pxL124, pxL125, pxL126, pxL200, pxL240, pxL287, pxL388, pxL400, pxL429, pxL431, pxL440, pxL1240, pxL1600, pxL1681, pxL12028, pxL13849, pxL14880, pxL25173, pxL26908, pxL49600, pxL65535, pxL65536, ↓reduceIte, reduceCtorEq, pxJ_add, pxJ_sub, pxJ_mul, pxJ_neg, pxD_lt_t, pxD_lt_f, pxD_le_t, pxD_le_f, pxD_eq_t, pxD_eq_f, pxJ_lt, pxJ_le, pxJ_eq, px_gI, px_gR, px_pI, px_rc, px_ai, px_ar, px_si, px_ln, px_cp, pxJ_div, pxJ_b8, pxJ_byte, px_b2, px_bs, px_rb0, px_rb1, px_min, px_max, px_compare, pxW_some, jw_t_I, px_cpt, jw_r_I, px_cpr, jw_l_I, px_cpl, Option.some.injEq, t1, m17, m15, m18]
        | false =>
          have kc' : ¬ k < pxCnt L := fun z => c ⟨rfl, z⟩
          rw [if_neg (by decide)] at m18
          clear ih PR H BG B refd eL c en hm
          simp (maxSteps := 4000000) (disch := first | assumption | omega | (simp only [jw_t_I, px_cpt]; done) | (simp only [jw_t_I, px_cpt]; omega)) only [pxL0, pxL1, pxL2, pxL3, pxL4, pxL5, pxL6, pxL7, pxL8, pxL9, pxL10, pxL11, pxL12, pxL13, pxL14, pxL15, pxL16, pxL17, pxL18, pxL19, pxL20, pxL21, pxL22, pxL23, pxL24, pxL25, pxL26, pxL27, pxL28, pxL29, pxL30, pxL31, pxL32, pxL33, pxL34, pxL35, pxL36, pxL37, pxL38, pxL39, pxL40, pxL41, pxL42, pxL43, pxL44, pxL45, pxL46, pxL47, pxL48, pxL49, pxL51, pxL57, pxL58, pxL59, pxL60, pxL61, pxL62, pxL63, pxL64, pxL65, pxL66, pxL67, pxL68, pxL69, pxL70, pxL71, pxL72, pxL73, pxL74, pxL75, pxL76, pxL77, pxL78, pxL79, pxL80, pxL81, pxL82, pxL83, pxL84, pxL85, pxL86, pxL87, pxL88, pxL89, pxL90, pxL91, pxL92, pxL93, pxL94, pxL95, pxL96, pxL97, pxL98, pxL99, pxL100, pxL101, pxL102, pxL103, pxL104, pxL105, pxL106, pxL107, pxL108, pxL109, pxL110, pxL111, pxL112, pxL113, pxL114, pxL115, pxL116, pxL117, pxL118, pxL119, pxL120, pxL121, pxL122, pxL123, pxL124, pxL125, pxL126, pxL200, pxL240, pxL287, pxL388, pxL400, pxL429, pxL431, pxL440, pxL1240, pxL1600, pxL1681, pxL12028, pxL13849, pxL14880, pxL25173, pxL26908, pxL49600, pxL65535, pxL65536, ↓reduceIte, reduceCtorEq, pxJ_add, pxJ_sub, pxJ_mul, pxJ_neg, pxD_lt_t, pxD_lt_f, pxD_le_t, pxD_le_f, pxD_eq_t, pxD_eq_f, pxJ_lt, pxJ_le, pxJ_eq, px_gI, px_gR, px_pI, px_rc, px_ai, px_ar, px_si, px_ln, px_cp, pxJ_div, pxJ_b8, pxJ_byte, px_b2, px_bs, px_rb0, px_rb1, px_min, px_max, px_compare, pxW_some, jw_t_I, px_cpt, jw_r_I, px_cpr, jw_l_I, px_cpl, Option.some.injEq, t1, m17, m15, m18, r0, tg, m6]
      rw [st64]
      obtain ⟨h1, e1, F1, m151, Fr1, H1, J1⟩ := s_X1_finishWork H m15
      have F1' : pxF pxQL h h1 := F1.mono (fun k f z => by unfold pxQL pxQD pxQB; omega)
      have B1 := pxIS.fr B F1 (fun k f _ _ => by omega)
      have t11 := H1.1.1
      have m191 : pxM h1 571 19 = if ending = true then 1 else 0 := by rw [F1.m (by omega)]; exact m19
      have m181 : pxM h1 571 18 = if leaving = true then 1 else 0 := by rw [F1.m (by omega)]; exact m18
      have m141 : pxM h1 571 14 = came := by rw [F1.m (by omega)]; exact m14
      have PR1 := PR.fb F1 (fun k f z => by omega)
      have BG1 := BG.fr F1 (fun j f jn => by omega)
      cases ending with
      | true =>
        rw [if_pos rfl] at m191
        simp only [↓reduceIte]
        cases e2 : pxBEnd W Fr with
        | none =>
          rw [e2] at m151
          have m154 : pxM h1 571 15 = 4 := m151
          have pr4 := s_X1_putRest4 H1 m154
          obtain ⟨h', e', Z⟩ := s_b110r H1 B1 m154 (by omega)
          refine ⟨fun z => absurd z (by show ¬ (4 : Int) = 0; omega), fun _ => ⟨h', ?_, F1'.trans Z.1, Z.2⟩⟩
          rw [← e']
          unfold g_X1_perform_b64
          clear ih PR H BG B refd eL c en hm H1 B1 F1 F1' PR1 BG1 Z J1 m151
          simp (maxSteps := 4000000) (disch := first | assumption | omega | (simp only [jw_t_I, px_cpt]; done) | (simp only [jw_t_I, px_cpt]; omega)) only [pxL0, pxL1, pxL2, pxL3, pxL4, pxL5, pxL6, pxL7, pxL8, pxL9, pxL10, pxL11, pxL12, pxL13, pxL14, pxL15, pxL16, pxL17, pxL18, pxL19, pxL20, pxL21, pxL22, pxL23, pxL24, pxL25, pxL26, pxL27, pxL28, pxL29, pxL30, pxL31, pxL32, pxL33, pxL34, pxL35, pxL36, pxL37, pxL38, pxL39, pxL40, pxL41, pxL42, pxL43, pxL44, pxL45, pxL46, pxL47, pxL48, pxL49, pxL51, pxL57, pxL58, pxL59, pxL60, pxL61, pxL62, pxL63, pxL64, pxL65, pxL66, pxL67, pxL68, pxL69, pxL70, pxL71, pxL72, pxL73, pxL74, pxL75, pxL76, pxL77, pxL78, pxL79, pxL80, pxL81, pxL82, pxL83, pxL84, pxL85, pxL86, pxL87, pxL88, pxL89, pxL90, pxL91, pxL92, pxL93, pxL94, pxL95, pxL96, pxL97, pxL98, pxL99, pxL100, pxL101, pxL102, pxL103, pxL104, pxL105, pxL106, pxL107, pxL108, pxL109, pxL110, pxL111, pxL112, pxL113, pxL114, pxL115, pxL116, pxL117, pxL118, pxL119, pxL120, pxL121, pxL122, pxL123, pxL124, pxL125, pxL126, pxL200, pxL240, pxL287, pxL388, pxL400, pxL429, pxL431, pxL440, pxL1240, pxL1600, pxL1681, pxL12028, pxL13849, pxL14880, pxL25173, pxL26908, pxL49600, pxL65535, pxL65536, ↓reduceIte, reduceCtorEq, pxJ_add, pxJ_sub, pxJ_mul, pxJ_neg, pxD_lt_t, pxD_lt_f, pxD_le_t, pxD_le_f, pxD_eq_t, pxD_eq_f, pxJ_lt, pxJ_le, pxJ_eq, px_gI, px_gR, px_pI, px_rc, px_ai, px_ar, px_si, px_ln, px_cp, pxJ_div, pxJ_b8, pxJ_byte, px_b2, px_bs, px_rb0, px_rb1, px_min, px_max, px_compare, pxW_some, jw_t_I, px_cpt, jw_r_I, px_cpr, jw_l_I, px_cpl, Option.some.injEq, t1, e1, t11, m191, pr4]
        | some Fr2 =>
          rw [e2] at m151
          have m150 : pxM h1 571 15 = 0 := m151
          have ej := J1 Fr2 e2
          rw [ej] at H1
          dsimp only [Option.elim]
          obtain ⟨h2, e3, F2, m152, Fr3, H2, J2⟩ := s_X1_putRest H1 m150
          have F2' : pxF pxQL h1 h2 := F2.mono (fun k f z => by unfold pxQL pxQD pxQB; omega)
          have B2 := pxIS.fr B1 F2 (fun k f _ _ => by omega)
          have m142 : pxM h2 571 14 = came := by rw [F2.m (by omega)]; exact m141
          have st65 : g_X1_perform_b64 (f_X1_perform_b12 (N + 1)) h 571 (pxJ ((k : Nat) : Int)) (pxJ st) = g_X1_perform_b110 h2 571 := by
            unfold g_X1_perform_b64
            clear ih PR H BG B refd eL c en hm H1 B1 F1 F1' PR1 BG1 J1 m151 H2 F2 F2' B2 J2 m152
            simp (maxSteps := 4000000) (disch := first | assumption | omega | (simp only [jw_t_I, px_cpt]; done) | (simp only [jw_t_I, px_cpt]; omega)) only [pxL0, pxL1, pxL2, pxL3, pxL4, pxL5, pxL6, pxL7, pxL8, pxL9, pxL10, pxL11, pxL12, pxL13, pxL14, pxL15, pxL16, pxL17, pxL18, pxL19, pxL20, pxL21, pxL22, pxL23, pxL24, pxL25, pxL26, pxL27, pxL28, pxL29, pxL30, pxL31, pxL32, pxL33, pxL34, pxL35, pxL36, pxL37, pxL38, pxL39, pxL40, pxL41, pxL42, pxL43, pxL44, pxL45, pxL46, pxL47, pxL48, pxL49, pxL51, pxL57, pxL58, pxL59, pxL60, pxL61, pxL62, pxL63, pxL64, pxL65, pxL66, pxL67, pxL68, pxL69, pxL70, pxL71, pxL72, pxL73, pxL74, pxL75, pxL76, pxL77, pxL78, pxL79, pxL80, pxL81, pxL82, pxL83, pxL84, pxL85, pxL86, pxL87, pxL88, pxL89, pxL90, pxL91, pxL92, pxL93, pxL94, pxL95, pxL96, pxL97, pxL98, pxL99, pxL100, pxL101, pxL102, pxL103, pxL104, pxL105, pxL106, pxL107, pxL108, pxL109, pxL110, pxL111, pxL112, pxL113, pxL114, pxL115, pxL116, pxL117, pxL118, pxL119, pxL120, pxL121, pxL122, pxL123, pxL124, pxL125, pxL126, pxL200, pxL240, pxL287, pxL388, pxL400, pxL429, pxL431, pxL440, pxL1240, pxL1600, pxL1681, pxL12028, pxL13849, pxL14880, pxL25173, pxL26908, pxL49600, pxL65535, pxL65536, ↓reduceIte, reduceCtorEq, pxJ_add, pxJ_sub, pxJ_mul, pxJ_neg, pxD_lt_t, pxD_lt_f, pxD_le_t, pxD_le_f, pxD_eq_t, pxD_eq_f, pxJ_lt, pxJ_le, pxJ_eq, px_gI, px_gR, px_pI, px_rc, px_ai, px_ar, px_si, px_ln, px_cp, pxJ_div, pxJ_b8, pxJ_byte, px_b2, px_bs, px_rb0, px_rb1, px_min, px_max, px_compare, pxW_some, jw_t_I, px_cpt, jw_r_I, px_cpr, jw_l_I, px_cpl, Option.some.injEq, t1, e1, t11, m191, e3]
          rw [st65]
          cases e4 : pxBRest (T.1.drop W.2.2.1.toNat) Fr2 with
          | none =>
            rw [e4] at m152
            have m154 : pxM h2 571 15 = 4 := m152
            obtain ⟨h', e', Z⟩ := s_b110r H2 B2 m154 (by omega)
            exact ⟨fun z => absurd z (by show ¬ (4 : Int) = 0; omega), fun _ => ⟨h', e', (F1'.trans F2').trans Z.1, Z.2⟩⟩
          | some Fr4 =>
            rw [e4] at m152
            have m150' : pxM h2 571 15 = 0 := m152
            rw [J2 Fr4 e4] at H2
            obtain ⟨h', e', Z⟩ := s_b110z H2 B2 m150' m142
            exact ⟨fun _ => ⟨h', e', (F1'.trans F2').trans Z.1, Z.2⟩, fun z => absurd rfl z⟩
      | false =>
        rw [if_neg (by decide)] at m191
        simp only [Bool.false_eq_true, ↓reduceIte]
        obtain ⟨y1, y2⟩ := s_X1_takeNext H1
        by_cases tk : W.2.2.1 < (T.1.length : Int)
        · obtain ⟨h2, e3, F2, m172, H2⟩ := y1 tk
          have t12 := H2.1.1
          have m182 : pxM h2 571 18 = if leaving = true then 1 else 0 := by rw [F2.m (by omega)]; exact m181
          have F3 : pxF (fun k f => k = 571 ∧ f = 18) h2 (jw_setI h2 571 18 (pxJ 0)) := pxF.setI ⟨rfl, rfl⟩
          have H3 := H2.fr F3 (fun k f z => by omega)
          have F23 : pxF (fun k f => (k = 571 ∧ (10 ≤ f ∧ f ≤ 13 ∨ f = 16 ∨ f = 17 ∨ f = 18)) ∨ (578 ≤ k ∧ k ≤ 583) ∨ (k = 536 ∧ f = 5)) h1 (jw_setI h2 571 18 (pxJ 0)) := (F2.mono (fun k f z => by omega)).trans (F3.mono (fun k f z => by omega))
          have F13 : pxF pxQL h (jw_setI h2 571 18 (pxJ 0)) := F1'.trans (F23.mono (fun k f z => by unfold pxQL pxQD pxQB; omega))
          have B3 := pxIS.fr B1 F23 (fun k f _ _ => by omega)
          have st66 : g_X1_perform_b64 (f_X1_perform_b12 (N + 1)) h 571 (pxJ ((k : Nat) : Int)) (pxJ st) = f_X1_perform_b12 (N + 1) (jw_setI h2 571 18 (pxJ 0)) 571 (pxJ (((if leaving = true then k else 0 : Nat) : Nat) : Int)) (pxJ (st + 1)) := by
            unfold g_X1_perform_b64 g_X1_perform_b98 g_X1_perform_b104
            cases leaving with
            | true =>
              rw [if_pos rfl] at m182
              rw [if_pos rfl]
              clear ih PR H BG B refd eL c en hm H1 B1 F1 F1' PR1 BG1 J1 m151 H2 F2 H3 F3 F23 F13 B3 y1 y2 m18 m181
              simp (maxSteps := 4000000) (disch := first | assumption | omega | (simp only [jw_t_I, px_cpt]; done) | (simp only [jw_t_I, px_cpt]; omega)) only [pxL0, pxL1, pxL2, pxL3, pxL4, pxL5, pxL6, pxL7, pxL8, pxL9, pxL10, pxL11, pxL12, pxL13, pxL14, pxL15, pxL16, pxL17, pxL18, pxL19, pxL20, pxL21, pxL22, pxL23, pxL24, pxL25, pxL26, pxL27, pxL28, pxL29, pxL30, pxL31, pxL32, pxL33, pxL34, pxL35, pxL36, pxL37, pxL38, pxL39, pxL40, pxL41, pxL42, pxL43, pxL44, pxL45, pxL46, pxL47, pxL48, pxL49, pxL51, pxL57, pxL58, pxL59, pxL60, pxL61, pxL62, pxL63, pxL64, pxL65, pxL66, pxL67, pxL68, pxL69, pxL70, pxL71, pxL72, pxL73, pxL74, pxL75, pxL76, pxL77, pxL78, pxL79, pxL80, pxL81, pxL82, pxL83, pxL84, pxL85, pxL86, pxL87, pxL88, pxL89, pxL90, pxL91, pxL92, pxL93, pxL94, pxL95, pxL96, pxL97, pxL98, pxL99, pxL100, pxL101, pxL102, pxL103, pxL104, pxL105, pxL106, pxL107, pxL108, pxL109, pxL110, pxL111, pxL112, pxL113, pxL114, pxL115, pxL116, pxL117, pxL118, pxL119, pxL120, pxL121, pxL122, pxL123, pxL124, pxL125, pxL126, pxL200, pxL240, pxL287, pxL388, pxL400, pxL429, pxL431, pxL440, pxL1240, pxL1600, pxL1681, pxL12028, pxL13849, pxL14880, pxL25173, pxL26908, pxL49600, pxL65535, pxL65536, ↓reduceIte, reduceCtorEq, pxJ_add, pxJ_sub, pxJ_mul, pxJ_neg, pxD_lt_t, pxD_lt_f, pxD_le_t, pxD_le_f, pxD_eq_t, pxD_eq_f, pxJ_lt, pxJ_le, pxJ_eq, px_gI, px_gR, px_pI, px_rc, px_ai, px_ar, px_si, px_ln, px_cp, pxJ_div, pxJ_b8, pxJ_byte, px_b2, px_bs, px_rb0, px_rb1, px_min, px_max, px_compare, pxW_some, jw_t_I, px_cpt, jw_r_I, px_cpr, jw_l_I, px_cpl, Option.some.injEq, t1, e1, t11, m191, e3, t12, m182, px_pB0]
            | false =>
              rw [if_neg (by decide)] at m182
              rw [if_neg (by decide)]
              show _ = f_X1_perform_b12 (N + 1) (jw_setI h2 571 18 (pxJ 0)) 571 (pxJ 0) (pxJ (st + 1))
              clear ih PR H BG B refd eL c en hm H1 B1 F1 F1' PR1 BG1 J1 m151 H2 F2 H3 F3 F23 F13 B3 y1 y2 m18 m181
              simp (maxSteps := 4000000) (disch := first | assumption | omega | (simp only [jw_t_I, px_cpt]; done) | (simp only [jw_t_I, px_cpt]; omega)) only [pxL0, pxL1, pxL2, pxL3, pxL4, pxL5, pxL6, pxL7, pxL8, pxL9, pxL10, pxL11, pxL12, pxL13, pxL14, pxL15, pxL16, pxL17, pxL18, pxL19, pxL20, pxL21, pxL22, pxL23, pxL24, pxL25, pxL26, pxL27, pxL28, pxL29, pxL30, pxL31, pxL32, pxL33, pxL34, pxL35, pxL36, pxL37, pxL38, pxL39, pxL40, pxL41, pxL42, pxL43, pxL44, pxL45, pxL46, pxL47, pxL48, pxL49, pxL51, pxL57, pxL58, pxL59, pxL60, pxL61, pxL62, pxL63, pxL64, pxL65, pxL66, pxL67, pxL68, pxL69, pxL70, pxL71, pxL72, pxL73, pxL74, pxL75, pxL76, pxL77, pxL78, pxL79, pxL80, pxL81, pxL82, pxL83, pxL84, pxL85, pxL86, pxL87, pxL88, pxL89, pxL90, pxL91, pxL92, pxL93, pxL94, pxL95, pxL96, pxL97, pxL98, pxL99, pxL100, pxL101, pxL102, pxL103, pxL104, pxL105, pxL106, pxL107, pxL108, pxL109, pxL110, pxL111, pxL112, pxL113, pxL114, pxL115, pxL116, pxL117, pxL118, pxL119, pxL120, pxL121, pxL122, pxL123, pxL124, pxL125, pxL126, pxL200, pxL240, pxL287, pxL388, pxL400, pxL429, pxL431, pxL440, pxL1240, pxL1600, pxL1681, pxL12028, pxL13849, pxL14880, pxL25173, pxL26908, pxL49600, pxL65535, pxL65536, ↓reduceIte, reduceCtorEq, pxJ_add, pxJ_sub, pxJ_mul, pxJ_neg, pxD_lt_t, pxD_lt_f, pxD_le_t, pxD_le_f, pxD_eq_t, pxD_eq_f, pxJ_lt, pxJ_le, pxJ_eq, px_gI, px_gR, px_pI, px_rc, px_ai, px_ar, px_si, px_ln, px_cp, pxJ_div, pxJ_b8, pxJ_byte, px_b2, px_bs, px_rb0, px_rb1, px_min, px_max, px_compare, pxW_some, jw_t_I, px_cpt, jw_r_I, px_cpr, jw_l_I, px_cpl, Option.some.injEq, t1, e1, t11, m191, e3, t12, m182, px_pB0]
          rw [st66]
          have m153 : pxM (jw_setI h2 571 18 (pxJ 0)) 571 15 = pxM h1 571 15 := F23.m (by omega)
          cases e2 : pxBEnd W Fr with
          | none =>
            rw [e2] at m151
            have m154 : pxM (jw_setI h2 571 18 (pxJ 0)) 571 15 = 4 := by rw [m153]; exact m151
            exact ⟨fun z => absurd z (by show ¬ (4 : Int) = 0; omega), fun _ => refd _ _ 0 4 _ F13 H3 B3 m154 (by omega)⟩
          | some Fr2 =>
            rw [e2] at m151
            have ej := J1 Fr2 e2
            rw [ej] at H3
            dsimp only [Option.elim]
            rw [if_pos tk]
            have kk : (if leaving = true then k else 0) ≤ pxCnt L := by
              by_cases y : leaving = true
              · rw [if_pos y]; exact kc
              · rw [if_neg y]; exact Nat.zero_le _
            refine pxBFin.pre F13 (ih (N + 1) (jw_setI h2 571 18 (pxJ 0)) _ false false came (st + 1) G (pxBNext T W, Fr2, S, false) (by show (400 - came) + (T.1.length - (W.2.2.2.1 + 1)) < (m : Int); omega) (by omega) c0 c1 (by show 1 ≤ W.2.2.2.1 + 1; omega) (by omega) (by show st + 1 ≤ came + (W.2.2.2.1 + 1) - 1; omega) kk (fun z => by cases z) ⟨PR1.fb F23 (fun k f z => by omega), H3, BG1.fr F23 (fun j f jn => by omega), B3, by rw [F23.m (by omega)]; exact m141, by rw [m153]; exact m151, by rw [F3.m (by omega)]; exact m172, pxM_eq (by omega) (by omega), by rw [F23.m (by omega)]; exact m191⟩)
        · have e3 := y2 tk
          have F2 : pxF (fun k f => k = 571 ∧ f = 17) h1 (jw_setI h1 571 17 (pxJ 0)) := pxF.setI ⟨rfl, rfl⟩
          have H2 := H1.fr F2 (fun k f z => by omega)
          have t12 := H2.1.1
          have m182 : pxM (jw_setI h1 571 17 (pxJ 0)) 571 18 = if leaving = true then 1 else 0 := by rw [F2.m (by omega)]; exact m181
          have F3 : pxF (fun k f => k = 571 ∧ f = 18) (jw_setI h1 571 17 (pxJ 0)) (jw_setI (jw_setI h1 571 17 (pxJ 0)) 571 18 (pxJ 0)) := pxF.setI ⟨rfl, rfl⟩
          have H3 := H2.fr F3 (fun k f z => by omega)
          have F23 : pxF (fun k f => k = 571 ∧ (f = 17 ∨ f = 18)) h1 (jw_setI (jw_setI h1 571 17 (pxJ 0)) 571 18 (pxJ 0)) := (F2.mono (fun k f z => by omega)).trans (F3.mono (fun k f z => by omega))
          have F13 : pxF pxQL h (jw_setI (jw_setI h1 571 17 (pxJ 0)) 571 18 (pxJ 0)) := F1'.trans (F23.mono (fun k f z => by unfold pxQL pxQD pxQB; omega))
          have B3 := pxIS.fr B1 F23 (fun k f _ _ => by omega)
          have st66 : ∃ pl, g_X1_perform_b64 (f_X1_perform_b12 (N + 1)) h 571 (pxJ ((k : Nat) : Int)) (pxJ st) = f_X1_perform_b12 (N + 1) (jw_setI (jw_setI h1 571 17 (pxJ 0)) 571 18 (pxJ 0)) 571 pl (pxJ (st + 1)) := by
            unfold g_X1_perform_b64 g_X1_perform_b98 g_X1_perform_b104
            cases leaving with
            | true =>
              rw [if_pos rfl] at m182
              refine ⟨pxJ ((k : Nat) : Int), ?_⟩
              clear ih PR H BG B refd eL c en hm H1 B1 F1 F1' PR1 BG1 J1 m151 H2 F2 H3 F3 F23 F13 B3 y1 y2 m18 m181
              simp (maxSteps := 4000000) (disch := first | assumption | omega | (simp only [jw_t_I, px_cpt]; done) | (simp only [jw_t_I, px_cpt]; omega)) only [pxL0, pxL1, pxL2, pxL3, pxL4, pxL5, pxL6, pxL7, pxL8, pxL9, pxL10, pxL11, pxL12, pxL13, pxL14, pxL15, pxL16, pxL17, pxL18, pxL19, pxL20, pxL21, pxL22, pxL23, pxL24, pxL25, pxL26, pxL27, pxL28, pxL29, pxL30, pxL31, pxL32, pxL33, pxL34, pxL35, pxL36, pxL37, pxL38, pxL39, pxL40, pxL41, pxL42, pxL43, pxL44, pxL45, pxL46, pxL47, pxL48, pxL49, pxL51, pxL57, pxL58, pxL59, pxL60, pxL61, pxL62, pxL63, pxL64, pxL65, pxL66, pxL67, pxL68, pxL69, pxL70, pxL71, pxL72, pxL73, pxL74, pxL75, pxL76, pxL77, pxL78, pxL79, pxL80, pxL81, pxL82, pxL83, pxL84, pxL85, pxL86, pxL87, pxL88, pxL89, pxL90, pxL91, pxL92, pxL93, pxL94, pxL95, pxL96, pxL97, pxL98, pxL99, pxL100, pxL101, pxL102, pxL103, pxL104, pxL105, pxL106, pxL107, pxL108, pxL109, pxL110, pxL111, pxL112, pxL113, pxL114, pxL115, pxL116, pxL117, pxL118, pxL119, pxL120, pxL121, pxL122, pxL123, pxL124, pxL125, pxL126, pxL200, pxL240, pxL287, pxL388, pxL400, pxL429, pxL431, pxL440, pxL1240, pxL1600, pxL1681, pxL12028, pxL13849, pxL14880, pxL25173, pxL26908, pxL49600, pxL65535, pxL65536, ↓reduceIte, reduceCtorEq, pxJ_add, pxJ_sub, pxJ_mul, pxJ_neg, pxD_lt_t, pxD_lt_f, pxD_le_t, pxD_le_f, pxD_eq_t, pxD_eq_f, pxJ_lt, pxJ_le, pxJ_eq, px_gI, px_gR, px_pI, px_rc, px_ai, px_ar, px_si, px_ln, px_cp, pxJ_div, pxJ_b8, pxJ_byte, px_b2, px_bs, px_rb0, px_rb1, px_min, px_max, px_compare, pxW_some, jw_t_I, px_cpt, jw_r_I, px_cpr, jw_l_I, px_cpl, Option.some.injEq, t1, e1, t11, m191, e3, t12, m182, px_pB0]
            | false =>
              rw [if_neg (by decide)] at m182
              refine ⟨pxJ 0, ?_⟩
              clear ih PR H BG B refd eL c en hm H1 B1 F1 F1' PR1 BG1 J1 m151 H2 F2 H3 F3 F23 F13 B3 y1 y2 m18 m181
              simp (maxSteps := 4000000) (disch := first | assumption | omega | (simp only [jw_t_I, px_cpt]; done) | (simp only [jw_t_I, px_cpt]; omega)) only [pxL0, pxL1, pxL2, pxL3, pxL4, pxL5, pxL6, pxL7, pxL8, pxL9, pxL10, pxL11, pxL12, pxL13, pxL14, pxL15, pxL16, pxL17, pxL18, pxL19, pxL20, pxL21, pxL22, pxL23, pxL24, pxL25, pxL26, pxL27, pxL28, pxL29, pxL30, pxL31, pxL32, pxL33, pxL34, pxL35, pxL36, pxL37, pxL38, pxL39, pxL40, pxL41, pxL42, pxL43, pxL44, pxL45, pxL46, pxL47, pxL48, pxL49, pxL51, pxL57, pxL58, pxL59, pxL60, pxL61, pxL62, pxL63, pxL64, pxL65, pxL66, pxL67, pxL68, pxL69, pxL70, pxL71, pxL72, pxL73, pxL74, pxL75, pxL76, pxL77, pxL78, pxL79, pxL80, pxL81, pxL82, pxL83, pxL84, pxL85, pxL86, pxL87, pxL88, pxL89, pxL90, pxL91, pxL92, pxL93, pxL94, pxL95, pxL96, pxL97, pxL98, pxL99, pxL100, pxL101, pxL102, pxL103, pxL104, pxL105, pxL106, pxL107, pxL108, pxL109, pxL110, pxL111, pxL112, pxL113, pxL114, pxL115, pxL116, pxL117, pxL118, pxL119, pxL120, pxL121, pxL122, pxL123, pxL124, pxL125, pxL126, pxL200, pxL240, pxL287, pxL388, pxL400, pxL429, pxL431, pxL440, pxL1240, pxL1600, pxL1681, pxL12028, pxL13849, pxL14880, pxL25173, pxL26908, pxL49600, pxL65535, pxL65536, ↓reduceIte, reduceCtorEq, pxJ_add, pxJ_sub, pxJ_mul, pxJ_neg, pxD_lt_t, pxD_lt_f, pxD_le_t, pxD_le_f, pxD_eq_t, pxD_eq_f, pxJ_lt, pxJ_le, pxJ_eq, px_gI, px_gR, px_pI, px_rc, px_ai, px_ar, px_si, px_ln, px_cp, pxJ_div, pxJ_b8, pxJ_byte, px_b2, px_bs, px_rb0, px_rb1, px_min, px_max, px_compare, pxW_some, jw_t_I, px_cpt, jw_r_I, px_cpr, jw_l_I, px_cpl, Option.some.injEq, t1, e1, t11, m191, e3, t12, m182, px_pB0]
          obtain ⟨pl, st66⟩ := st66
          rw [st66]
          have m153 : pxM (jw_setI (jw_setI h1 571 17 (pxJ 0)) 571 18 (pxJ 0)) 571 15 = pxM h1 571 15 := F23.m (by omega)
          have m173 : pxM (jw_setI (jw_setI h1 571 17 (pxJ 0)) 571 18 (pxJ 0)) 571 17 = 0 := by rw [pxM_ne (by omega)]; exact pxM_eq (by omega) (by omega)
          cases e2 : pxBEnd W Fr with
          | none =>
            rw [e2] at m151
            have m154 : pxM (jw_setI (jw_setI h1 571 17 (pxJ 0)) 571 18 (pxJ 0)) 571 15 = 4 := by rw [m153]; exact m151
            exact ⟨fun z => absurd z (by show ¬ (4 : Int) = 0; omega), fun _ => refd _ _ 0 4 _ F13 H3 B3 m154 (by omega)⟩
          | some Fr2 =>
            rw [e2] at m151
            rw [J1 Fr2 e2] at H3
            dsimp only [Option.elim]
            rw [if_neg tk]
            have m150 : pxM (jw_setI (jw_setI h1 571 17 (pxJ 0)) 571 18 (pxJ 0)) 571 15 = 0 := by rw [m153]; exact m151
            obtain ⟨h', e', Z⟩ := s_b110z (came := came) H3 B3 m150 (by rw [F23.m (by omega)]; exact m141)
            refine ⟨fun _ => ⟨h', ?_, F13.trans Z.1, Z.2⟩, fun z => absurd rfl z⟩
            rw [s_X1_stop H3.1.1 m173 m150 (Or.inl rfl) (by omega) (by omega)]
            exact e'
theorem s_X1_perform {S : pxSto} {h : jw_H} (PR : pxPr h b s L) (OZ : ∀ k, k < pxCnt L → pxOz h k) (X : pxBX h) (M : pxMS h) (HS : pxHS h) (I : pxIX h T) (Y : pxIY h S) (B : pxSSX h 538) (n0 : 0 ≤ T.2.2.2) (n1 : T.2.2.2 ≤ 2000000) (rp : ∃ rep : Bool, pxM h 536 5 = if rep = true then 1 else 0) :
    ∃ h', f_X1_perform h 571 = some (pxJ (pxBPlay s L T S).1, h') ∧ pxBZ h h' (pxBPlay s L T S).2.2.1 (pxBPlay s L T S).2.2.2 (pxBPlay s L T S).2.1 := by
  obtain ⟨h1, e1, F1, B1, I1, Y1, m12, m13, m14, m15, m18, m19⟩ := s_X1_begin PR X I Y B
  obtain ⟨a1, a2, ⟨r1, a3⟩, ⟨r2, a4⟩, ⟨r3, a5⟩⟩ := X
  have F1' : pxF pxQL h h1 := F1.mono (fun k f z => by unfold pxQL pxQD pxQB; omega)
  have a11 := a1.fr F1 (fun f z => by omega)
  have X1 : pxIX h1 T := pxIT.fr I F1 (fun k f _ _ => by omega)
  have M1 := M.fr F1 (fun f z => by omega)
  have HS1 := HS.fr F1 (fun f z => by omega)
  have a31 := a3.fr F1 (fun k f _ _ => by omega)
  have a41 := a4.fr F1 (fun k f _ _ => by omega)
  have a51 := a5.fr F1 (fun k f _ _ => by omega)
  have PR1 := PR.fb F1 (fun k f z => by omega)
  have BG1 : pxBG h1 (pxCnt L) pxBG0 := by
    intro k kn
    have z := OZ k kn
    have c60 := PR.2.2.2.2.1
    exact ⟨by rw [F1.m (by omega)]; exact z 10 (by omega) (by omega), by rw [F1.m (by omega)]; exact z 11 (by omega) (by omega), by rw [F1.m (by omega)]; exact z 12 (by omega) (by omega), by rw [F1.m (by omega)]; exact z 13 (by omega) (by omega)⟩
  have t1 := a1.1
  have t11 := a11.1
  obtain ⟨y1, y2⟩ := s_X1_takeNext0 (W := pxBW0) (Fr := ([], T.2.1, T.2.2.2)) a11 M1 HS1 X1 I1 Y1 m12 m13 a31 a41 (by show 0 ≤ (0 : Int) ∧ (0 : Int) ≤ _; omega) (by show 0 ≤ (0 : Int); omega) (by show (0 : Int) ≤ 0; omega) ⟨_, a51⟩ ⟨n0, by show T.2.2.2 ≤ T.2.2.2 + ((0 : Nat) : Int); omega, n1⟩
  have fin : pxBFin T S h (pxBRun s L T S) (f_X1_perform h 571) := by
    unfold pxBRun
    by_cases c : 0 < T.1.length
    · rw [if_pos c]
      obtain ⟨h2, e2, F2, m172, H2⟩ := y1 (by show (0 : Int) < _; omega)
      have c60 := PR.2.2.2.2.1
      have F2' : pxF pxQL h1 h2 := F2.mono (fun k f z => by unfold pxQL pxQD pxQB; omega)
      have K := s_X1_loop (T := T) (S0 := S) (s := s) (b := b) (L := L) 442 jw_FU h2 0 false false 0 0 pxBG0 (pxBNext T pxBW0, ([], T.2.1, T.2.2.2), pxBClr s (pxFl L 0) S, false) (by have := pxIT.len I; show (400 - (0 : Int)) + (T.1.length - (0 + 1)) < ((442 : Nat) : Int); omega) (by unfold jw_FU; omega) (by omega) (by omega) (by show (1 : Int) ≤ 0 + 1; omega) (by omega) (by show (0 : Int) ≤ 0 + (0 + 1) - 1; omega) (Nat.zero_le _) (fun z => by cases z) ⟨PR1.fb F2 (fun k f z => by omega), H2, BG1.fr F2 (fun j f jn => by omega), pxIS.fr B1 F2 (fun k f _ _ => by omega), by rw [F2.m (by omega)]; exact m14, by rw [F2.m (by omega)]; exact m15, m172, by rw [F2.m (by omega)]; exact m18, by rw [F2.m (by omega)]; exact m19⟩
      have st : f_X1_perform h 571 = f_X1_perform_b12 jw_FU h2 571 (pxJ ((0 : Nat) : Int)) (pxJ 0) := by
        unfold f_X1_perform
        clear PR OZ M HS I Y B I1 Y1 a1 a2 a3 a4 a5 F1 F1' a11 X1 M1 HS1 a31 a41 a51 PR1 BG1 y1 y2 F2 H2 F2' K
        simp (maxSteps := 4000000) (disch := first | assumption | omega | (simp only [jw_t_I, px_cpt]; done) | (simp only [jw_t_I, px_cpt]; omega)) only [pxL0, pxL1, pxL2, pxL3, pxL4, pxL5, pxL6, pxL7, pxL8, pxL9, pxL10, pxL11, pxL12, pxL13, pxL14, pxL15, pxL16, pxL17, pxL18, pxL19, pxL20, pxL21, pxL22, pxL23, pxL24, pxL25, pxL26, pxL27, pxL28, pxL29, pxL30, pxL31, pxL32, pxL33, pxL34, pxL35, pxL36, pxL37, pxL38, pxL39, pxL40, pxL41, pxL42, pxL43, pxL44, pxL45, pxL46, pxL47, pxL48, pxL49, pxL51, pxL57, pxL58, pxL59, pxL60, pxL61, pxL62, pxL63, pxL64, pxL65, pxL66, pxL67, pxL68, pxL69, pxL70, pxL71, pxL72, pxL73, pxL74, pxL75, pxL76, pxL77, pxL78, pxL79, pxL80, pxL81, pxL82, pxL83, pxL84, pxL85, pxL86, pxL87, pxL88, pxL89, pxL90, pxL91, pxL92, pxL93, pxL94, pxL95, pxL96, pxL97, pxL98, pxL99, pxL100, pxL101, pxL102, pxL103, pxL104, pxL105, pxL106, pxL107, pxL108, pxL109, pxL110, pxL111, pxL112, pxL113, pxL114, pxL115, pxL116, pxL117, pxL118, pxL119, pxL120, pxL121, pxL122, pxL123, pxL124, pxL125, pxL126, pxL200, pxL240, pxL287, pxL388, pxL400, pxL429, pxL431, pxL440, pxL1240, pxL1600, pxL1681, pxL12028, pxL13849, pxL14880, pxL25173, pxL26908, pxL49600, pxL65535, pxL65536, ↓reduceIte, reduceCtorEq, pxJ_add, pxJ_sub, pxJ_mul, pxJ_neg, pxD_lt_t, pxD_lt_f, pxD_le_t, pxD_le_f, pxD_eq_t, pxD_eq_f, pxJ_lt, pxJ_le, pxJ_eq, px_gI, px_gR, px_pI, px_rc, px_ai, px_ar, px_si, px_ln, px_cp, pxJ_div, pxJ_b8, pxJ_byte, px_b2, px_bs, px_rb0, px_rb1, px_min, px_max, px_compare, pxW_some, jw_t_I, px_cpt, jw_r_I, px_cpr, jw_l_I, px_cpl, Option.some.injEq, t1, e1, t11, e2]
        rfl
      rw [st]
      exact pxBFin.pre (F1'.trans F2') K
    · rw [if_neg c]
      have e2 := y2 (by show ¬ (0 : Int) < _; omega)
      have F2 : pxF (fun k f => k = 571 ∧ f = 17) h1 (jw_setI h1 571 17 (pxJ 0)) := pxF.setI ⟨rfl, rfl⟩
      have F12 : pxF pxQL h (jw_setI h1 571 17 (pxJ 0)) := F1'.trans (F2.mono (fun k f z => by unfold pxQL; omega))
      have t12 : (jw_t (jw_setI h1 571 17 (pxJ 0)) 571).1 = 1 := t11
      have XX : pxBX (jw_setI h1 571 17 (pxJ 0)) := by
        obtain ⟨now, I1'⟩ := I1
        exact ⟨a11.fr F2 (fun f z => by omega), (pxIT.sx I1').fr F2 (fun k f _ _ => by omega), ⟨_, a31.fr F2 (fun k f _ _ => by omega)⟩, ⟨_, a41.fr F2 (fun k f _ _ => by omega)⟩, ⟨_, a51.fr F2 (fun k f _ _ => by omega)⟩⟩
      have m152 : pxM (jw_setI h1 571 17 (pxJ 0)) 571 15 = 0 := by rw [F2.m (by omega)]; exact m15
      obtain ⟨rep, rp⟩ := rp
      obtain ⟨h', e', Z⟩ := s_b110y (Fr := ([], T.2.1, T.2.2.2)) (S := pxBClr s (pxFl L 0) S) (came := 0) XX (M1.fr F2 (fun f z => by omega)) (HS1.fr F2 (fun f z => by omega)) (pxIT.fr X1 F2 (fun k f _ _ => by omega)) (I1.fr F2 (fun k f _ _ => by omega)) (pxIS.fr Y1 F2 (fun k f _ _ => by omega)) (pxIS.fr B1 F2 (fun k f _ _ => by omega)) ⟨rep, by rw [F2.m (by omega), F1.m (by omega)]; exact rp⟩ n0 (by show T.2.2.2 ≤ _; omega) m152 (by rw [F2.m (by omega)]; exact m14)
      refine pxBFin.pre F12 ⟨fun _ => ⟨h', ?_, Z⟩, fun z => absurd rfl z⟩
      have sp := s_X1_stop (N := 99999) (pl := pxJ 0) (st := 0) t12 (pxM_eq (by omega) (by omega) : pxM (jw_setI h1 571 17 (pxJ 0)) 571 17 = 0) m152 (Or.inl rfl) (by omega) (by omega)
      rw [← e', ← sp]
      unfold f_X1_perform
      rw [show jw_FU = 99999 + 1 from rfl]
      clear PR OZ M HS I Y B I1 Y1 a1 a2 a3 a4 a5 F1 F1' a11 X1 M1 HS1 a31 a41 a51 PR1 BG1 y1 y2 F2 F12 XX sp e' Z
      simp (maxSteps := 4000000) (disch := first | assumption | omega | (simp only [jw_t_I, px_cpt]; done) | (simp only [jw_t_I, px_cpt]; omega)) only [pxL0, pxL1, pxL2, pxL3, pxL4, pxL5, pxL6, pxL7, pxL8, pxL9, pxL10, pxL11, pxL12, pxL13, pxL14, pxL15, pxL16, pxL17, pxL18, pxL19, pxL20, pxL21, pxL22, pxL23, pxL24, pxL25, pxL26, pxL27, pxL28, pxL29, pxL30, pxL31, pxL32, pxL33, pxL34, pxL35, pxL36, pxL37, pxL38, pxL39, pxL40, pxL41, pxL42, pxL43, pxL44, pxL45, pxL46, pxL47, pxL48, pxL49, pxL51, pxL57, pxL58, pxL59, pxL60, pxL61, pxL62, pxL63, pxL64, pxL65, pxL66, pxL67, pxL68, pxL69, pxL70, pxL71, pxL72, pxL73, pxL74, pxL75, pxL76, pxL77, pxL78, pxL79, pxL80, pxL81, pxL82, pxL83, pxL84, pxL85, pxL86, pxL87, pxL88, pxL89, pxL90, pxL91, pxL92, pxL93, pxL94, pxL95, pxL96, pxL97, pxL98, pxL99, pxL100, pxL101, pxL102, pxL103, pxL104, pxL105, pxL106, pxL107, pxL108, pxL109, pxL110, pxL111, pxL112, pxL113, pxL114, pxL115, pxL116, pxL117, pxL118, pxL119, pxL120, pxL121, pxL122, pxL123, pxL124, pxL125, pxL126, pxL200, pxL240, pxL287, pxL388, pxL400, pxL429, pxL431, pxL440, pxL1240, pxL1600, pxL1681, pxL12028, pxL13849, pxL14880, pxL25173, pxL26908, pxL49600, pxL65535, pxL65536, ↓reduceIte, reduceCtorEq, pxJ_add, pxJ_sub, pxJ_mul, pxJ_neg, pxD_lt_t, pxD_lt_f, pxD_le_t, pxD_le_f, pxD_eq_t, pxD_eq_f, pxJ_lt, pxJ_le, pxJ_eq, px_gI, px_gR, px_pI, px_rc, px_ai, px_ar, px_si, px_ln, px_cp, pxJ_div, pxJ_b8, pxJ_byte, px_b2, px_bs, px_rb0, px_rb1, px_min, px_max, px_compare, pxW_some, jw_t_I, px_cpt, jw_r_I, px_cpr, jw_l_I, px_cpl, Option.some.injEq, t1, e1, t11, e2]
  unfold pxBPlay
  by_cases z : (pxBRun s L T S).2.1 = 0
  · rw [if_neg (show ¬ (pxBRun s L T S).2.1 ≠ 0 from fun y => y z)]
    obtain ⟨h', e, Z⟩ := fin.1 z
    exact ⟨h', e, Z⟩
  · rw [if_pos (show (pxBRun s L T S).2.1 ≠ 0 from z)]
    obtain ⟨h', e, Z⟩ := fin.2 z
    exact ⟨h', e, Z⟩
end
