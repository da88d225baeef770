/-! orders: what stands behind acts -/
theorem pxRowsE_b {s : List Int} : ∀ (m : Nat) (l q : Int), 0 ≤ q → q ≤ s.length → q ≤ (pxRowsE s m l q).2 ∧ (pxRowsE s m l q).2 ≤ s.length
  | 0, l, q, _, h1 => ⟨Int.le_refl _, h1⟩
  | m + 1, l, q, h0, h1 => by
    unfold pxRowsE
    by_cases c : pxP s q = 124
    · have := pxP_lt (s := s) (p := q) (by omega)
      have := pxRowsE_b (s := s) m 0 (q + 1) (by omega) (by omega)
      rw [if_pos c]; omega
    · rw [if_neg c]
      by_cases d : pxIsCh (pxP s q) = true
      · have d' := pxIsCh_i.mp d
        have := pxP_lt (s := s) (p := q) (by omega)
        have := pxRowsE_b (s := s) m (l + 1) (q + 1) (by omega) (by omega)
        rw [if_pos d]
        by_cases e : 30 ≤ l
        · rw [if_pos e]; dsimp only; omega
        · rw [if_neg e]; omega
      · rw [if_neg d]; exact ⟨Int.le_refl _, h1⟩
theorem pxPut_b {s : List Int} {k : Int} : ∀ (m : Nat) (q : Int), 0 ≤ q → q ≤ s.length → q ≤ (pxPut s k m q).2 ∧ (pxPut s k m q).2 ≤ s.length
  | 0, q, _, h1 => ⟨Int.le_refl _, h1⟩
  | m + 1, q, h0, h1 => by
    unfold pxPut
    by_cases c : pxP s q = 92 ∧ 0 < k
    · have := pxP_lt (s := s) (p := q) (by omega)
      rw [if_pos c]
      by_cases d : 49 ≤ pxP s (q + 1) ∧ pxP s (q + 1) ≤ 48 + k
      · have := pxP_lt (s := s) (p := q + 1) (by omega)
        have := pxPut_b (s := s) (k := k) m (q + 2) (by omega) (by omega)
        rw [if_pos d]; omega
      · rw [if_neg d]; dsimp only; omega
    · rw [if_neg c]
      by_cases d : pxP s q = 38 ∨ pxIsCh (pxP s q) = true
      · have nd : pxP s q ≠ -1 := by
          rcases d with d | d
          · omega
          · have := pxIsCh_i.mp d
            omega
        have := pxP_lt nd
        have := pxPut_b (s := s) (k := k) m (q + 1) (by omega) (by omega)
        rw [if_pos d]; omega
      · rw [if_neg d]; exact ⟨Int.le_refl _, h1⟩
theorem pxPtn_b {s : List Int} {p : Int} (h0 : 0 ≤ p) (h1 : p ≤ s.length) : p ≤ (pxPtn s p).2 ∧ (pxPtn s p).2 ≤ s.length ∧ ((pxPtn s p).1 = true → pxP s p = 47 ∧ (pxPat s (p + 1)).1 = true ∧ (pxPtn s p).2 = (pxPat s (p + 1)).2 + 1 ∧ p + 2 < (pxPtn s p).2) := by
  unfold pxPtn
  by_cases c : pxP s p = 47
  · have := pxP_lt (s := s) (p := p) (by omega)
    have pb := pxPat_b (s := s) (p := p + 1) (by omega) (by omega)
    rw [if_pos c]
    by_cases d : (pxPat s (p + 1)).1 = true
    · have := pb.2.2 d
      rw [if_pos d]
      by_cases e : pxP s (pxPat s (p + 1)).2 = 47
      · have := pxP_lt (s := s) (p := (pxPat s (p + 1)).2) (by omega)
        rw [if_pos e]; exact ⟨by dsimp only; omega, by dsimp only; omega, fun _ => ⟨c, d, rfl, by dsimp only; omega⟩⟩
      · rw [if_neg e]; exact ⟨by dsimp only; omega, pb.2.1, fun z => by cases z⟩
    · rw [if_neg d]; exact ⟨by dsimp only; omega, pb.2.1, fun z => by cases z⟩
  · rw [if_neg c]; exact ⟨Int.le_refl _, h1, fun z => by cases z⟩
/-- the number of an s: which find, 0 for all -/
def pxRepN (s : List Int) (p : Int) : Int := if pxP s ((pxRepU s p).2 + 1) = 103 then 0 else if 49 ≤ pxP s ((pxRepU s p).2 + 1) ∧ pxP s ((pxRepU s p).2 + 1) ≤ 57 then pxP s ((pxRepU s p).2 + 1) - 48 else 1
section
variable {b : Nat} {s : List Int}
theorem s_X6_readRows_b12 {i : Nat} (hi : i < 60) : ∀ (m N : Nat) (h : jw_H) (l q st : Int), s.length < q + m → m ≤ N → pxPG h b s → pxM h 10 5 = q → 0 ≤ q → q ≤ s.length → 0 ≤ st → st ≤ q → 0 ≤ l → l ≤ q →
    ((pxRowsE s m l q).1 = true → ∃ h', f_X6_readRows_b12 N h 10 (some (12 + 4 * i)) (pxJ l) (pxJ st) = some (pxJ 1, h') ∧ pxF (fun k f => (k = 10 ∧ f = 5) ∨ (k = 12 + 4 * i ∧ f = 8)) h h' ∧ pxM h' 10 5 = (pxRowsE s m l q).2 ∧ pxM h' (12 + 4 * i) 8 = (pxRowsE s m l q).2) ∧
    ((pxRowsE s m l q).1 = false → ∃ h', f_X6_readRows_b12 N h 10 (some (12 + 4 * i)) (pxJ l) (pxJ st) = some (pxJ 0, h') ∧ pxF (fun k f => (k = 10 ∧ f = 5) ∨ (k = 12 + 4 * i ∧ f = 8)) h h' ∧ pxM h' 10 5 = (pxRowsE s m l q).2) := by
  intro m
  induction m with
  | zero => intro N h l q st hm; omega
  | succ m ih =>
    intro N h l q st hm hN G hp h0 h1 s0 s1 l0 l1
    obtain ⟨N, rfl, hN⟩ := px_fu hN
    have pk := s_X6_peek G hp h0
    have hin := pxP_in G.2.2.2.2.1 q
    have tg := G.1.1
    have n60 := G.2.2.2.2.1.1
    have bo := px_bitOf (h := h) (c := pxP s q) (by omega) (by omega)
    obtain ⟨r1, t5, ra, rb, rc, t13, t14, t15⟩ := G.1.2.2.2.2.2.2.2 i hi
    have ee : jw_setI h 10 5 (pxJ (q + 1)) = pxPl h (q + 1) := rfl
    have G1 : pxPG (pxPl h (q + 1)) b s := pxPl_G G
    have F1 : pxF (fun k f => (k = 10 ∧ f = 5) ∨ (k = 12 + 4 * i ∧ f = 8)) h (pxPl h (q + 1)) := pxPl_F.mono (fun k f z => by omega)
    have hp1 : pxM (pxPl h (q + 1)) 10 5 = q + 1 := pxPl_p (by omega) (by omega)
    have no60 : ((60 : Int32) < pxJ st) = False := by simp (disch := first | assumption | omega | (simp only [jw_t_I, px_cpt]; done) | (simp only [jw_t_I, px_cpt]; omega)) only [pxL0, pxL1, pxL2, pxL3, pxL4, pxL5, pxL6, pxL7, pxL8, pxL9, pxL10, pxL11, pxL12, pxL13, pxL14, pxL15, pxL16, pxL17, pxL18, pxL19, pxL20, pxL21, pxL22, pxL23, pxL24, pxL25, pxL26, pxL27, pxL28, pxL29, pxL30, pxL31, pxL32, pxL33, pxL34, pxL35, pxL36, pxL37, pxL38, pxL39, pxL40, pxL41, pxL42, pxL43, pxL44, pxL45, pxL46, pxL47, pxL48, pxL49, pxL51, pxL57, pxL58, pxL59, pxL60, pxL61, pxL62, pxL63, pxL64, pxL65, pxL66, pxL67, pxL68, pxL69, pxL70, pxL71, pxL72, pxL73, pxL74, pxL75, pxL76, pxL77, pxL78, pxL79, pxL80, pxL81, pxL82, pxL83, pxL84, pxL85, pxL86, pxL87, pxL88, pxL89, pxL90, pxL91, pxL92, pxL93, pxL94, pxL95, pxL96, pxL97, pxL98, pxL99, pxL100, pxL101, pxL102, pxL103, pxL104, pxL105, pxL106, pxL107, pxL108, pxL109, pxL110, pxL111, pxL112, pxL113, pxL114, pxL115, pxL116, pxL117, pxL118, pxL119, pxL120, pxL121, pxL122, pxL123, pxL124, pxL125, pxL126, pxL200, pxL240, pxL287, pxL388, pxL400, pxL429, pxL431, pxL440, pxL1240, pxL1600, pxL1681, pxL12028, pxL13849, pxL14880, pxL25173, pxL26908, pxL49600, pxL65535, pxL65536, ↓reduceIte, pxJ_add, pxJ_sub, pxJ_mul, pxJ_neg, pxD_lt_t, pxD_lt_f, pxD_le_t, pxD_le_f, pxD_eq_t, pxD_eq_f, pxJ_lt, pxJ_le, pxJ_eq, px_gI, px_gR, px_pI, px_rc, px_ai, px_ar, px_si, px_ln, px_cp, pxJ_div, pxJ_b8, pxJ_byte, px_b2, px_bs, px_rb0, px_rb1, px_min, px_max, px_compare, pxW_some, jw_t_I, px_cpt, jw_r_I, px_cpr, jw_l_I, px_cpl, Option.some.injEq]
    rw [u_X6_readRows_b12]
    unfold g_X6_readRows_b12 g_X6_readRows_b36 pxRowsE
    by_cases c : pxP s q = 124
    · have lt := pxP_lt (s := s) (p := q) (by omega)
      rw [if_pos c]
      have st' : g_X6_readRows_b12 (f_X6_readRows_b12 N) h 10 (some (12 + 4 * i)) (pxJ l) (pxJ st) = f_X6_readRows_b12 N (pxPl h (q + 1)) 10 (some (12 + 4 * i)) (pxJ 0) (pxJ (st + 1)) := by
        unfold g_X6_readRows_b12 g_X6_readRows_b36 g_X6_readRows_b56 g_X6_readRows_b69 g_X6_readRows_b81
        simp (disch := first | assumption | omega | (simp only [jw_t_I, px_cpt]; done) | (simp only [jw_t_I, px_cpt]; omega)) only [pxL0, pxL1, pxL2, pxL3, pxL4, pxL5, pxL6, pxL7, pxL8, pxL9, pxL10, pxL11, pxL12, pxL13, pxL14, pxL15, pxL16, pxL17, pxL18, pxL19, pxL20, pxL21, pxL22, pxL23, pxL24, pxL25, pxL26, pxL27, pxL28, pxL29, pxL30, pxL31, pxL32, pxL33, pxL34, pxL35, pxL36, pxL37, pxL38, pxL39, pxL40, pxL41, pxL42, pxL43, pxL44, pxL45, pxL46, pxL47, pxL48, pxL49, pxL51, pxL57, pxL58, pxL59, pxL60, pxL61, pxL62, pxL63, pxL64, pxL65, pxL66, pxL67, pxL68, pxL69, pxL70, pxL71, pxL72, pxL73, pxL74, pxL75, pxL76, pxL77, pxL78, pxL79, pxL80, pxL81, pxL82, pxL83, pxL84, pxL85, pxL86, pxL87, pxL88, pxL89, pxL90, pxL91, pxL92, pxL93, pxL94, pxL95, pxL96, pxL97, pxL98, pxL99, pxL100, pxL101, pxL102, pxL103, pxL104, pxL105, pxL106, pxL107, pxL108, pxL109, pxL110, pxL111, pxL112, pxL113, pxL114, pxL115, pxL116, pxL117, pxL118, pxL119, pxL120, pxL121, pxL122, pxL123, pxL124, pxL125, pxL126, pxL200, pxL240, pxL287, pxL388, pxL400, pxL429, pxL431, pxL440, pxL1240, pxL1600, pxL1681, pxL12028, pxL13849, pxL14880, pxL25173, pxL26908, pxL49600, pxL65535, pxL65536, ↓reduceIte, pxJ_add, pxJ_sub, pxJ_mul, pxJ_neg, pxD_lt_t, pxD_lt_f, pxD_le_t, pxD_le_f, pxD_eq_t, pxD_eq_f, pxJ_lt, pxJ_le, pxJ_eq, px_gI, px_gR, px_pI, px_rc, px_ai, px_ar, px_si, px_ln, px_cp, pxJ_div, pxJ_b8, pxJ_byte, px_b2, px_bs, px_rb0, px_rb1, px_min, px_max, px_compare, pxW_some, jw_t_I, px_cpt, jw_r_I, px_cpr, jw_l_I, px_cpl, Option.some.injEq, pk, c, hp, ee]
      unfold g_X6_readRows_b12 g_X6_readRows_b36 at st'
      rw [st']
      obtain ⟨y1, y2⟩ := ih N (pxPl h (q + 1)) 0 (q + 1) (st + 1) (by omega) (by omega) G1 hp1 (by omega) (by omega) (by omega) (by omega) (by omega) (by omega)
      exact ⟨fun z => by obtain ⟨h', w1, w2, w3, w4⟩ := y1 z; exact ⟨h', w1, F1.trans w2, w3, w4⟩, fun z => by obtain ⟨h', w1, w2, w3⟩ := y2 z; exact ⟨h', w1, F1.trans w2, w3⟩⟩
    · rw [if_neg c]
      by_cases d : pxIsCh (pxP s q) = true
      · have d' := pxIsCh_i.mp d
        have lt := pxP_lt (s := s) (p := q) (by omega)
        have hb := pxBit_ne d
        rw [if_pos d]
        by_cases e : 30 ≤ l
        · rw [if_pos e]
          refine ⟨fun z => (by cases z), fun _ => ⟨h, ?_, pxF.rfl, hp⟩⟩
          unfold g_X6_readRows_b56
          simp (disch := first | assumption | omega | (simp only [jw_t_I, px_cpt]; done) | (simp only [jw_t_I, px_cpt]; omega)) only [pxL0, pxL1, pxL2, pxL3, pxL4, pxL5, pxL6, pxL7, pxL8, pxL9, pxL10, pxL11, pxL12, pxL13, pxL14, pxL15, pxL16, pxL17, pxL18, pxL19, pxL20, pxL21, pxL22, pxL23, pxL24, pxL25, pxL26, pxL27, pxL28, pxL29, pxL30, pxL31, pxL32, pxL33, pxL34, pxL35, pxL36, pxL37, pxL38, pxL39, pxL40, pxL41, pxL42, pxL43, pxL44, pxL45, pxL46, pxL47, pxL48, pxL49, pxL51, pxL57, pxL58, pxL59, pxL60, pxL61, pxL62, pxL63, pxL64, pxL65, pxL66, pxL67, pxL68, pxL69, pxL70, pxL71, pxL72, pxL73, pxL74, pxL75, pxL76, pxL77, pxL78, pxL79, pxL80, pxL81, pxL82, pxL83, pxL84, pxL85, pxL86, pxL87, pxL88, pxL89, pxL90, pxL91, pxL92, pxL93, pxL94, pxL95, pxL96, pxL97, pxL98, pxL99, pxL100, pxL101, pxL102, pxL103, pxL104, pxL105, pxL106, pxL107, pxL108, pxL109, pxL110, pxL111, pxL112, pxL113, pxL114, pxL115, pxL116, pxL117, pxL118, pxL119, pxL120, pxL121, pxL122, pxL123, pxL124, pxL125, pxL126, pxL200, pxL240, pxL287, pxL388, pxL400, pxL429, pxL431, pxL440, pxL1240, pxL1600, pxL1681, pxL12028, pxL13849, pxL14880, pxL25173, pxL26908, pxL49600, pxL65535, pxL65536, ↓reduceIte, pxJ_add, pxJ_sub, pxJ_mul, pxJ_neg, pxD_lt_t, pxD_lt_f, pxD_le_t, pxD_le_f, pxD_eq_t, pxD_eq_f, pxJ_lt, pxJ_le, pxJ_eq, px_gI, px_gR, px_pI, px_rc, px_ai, px_ar, px_si, px_ln, px_cp, pxJ_div, pxJ_b8, pxJ_byte, px_b2, px_bs, px_rb0, px_rb1, px_min, px_max, px_compare, pxW_some, jw_t_I, px_cpt, jw_r_I, px_cpr, jw_l_I, px_cpl, Option.some.injEq, pk, bo, px_cmp0, hb]
        · rw [if_neg e]
          have st' : g_X6_readRows_b12 (f_X6_readRows_b12 N) h 10 (some (12 + 4 * i)) (pxJ l) (pxJ st) = f_X6_readRows_b12 N (pxPl h (q + 1)) 10 (some (12 + 4 * i)) (pxJ (l + 1)) (pxJ (st + 1)) := by
            unfold g_X6_readRows_b12 g_X6_readRows_b36 g_X6_readRows_b56 g_X6_readRows_b69 g_X6_readRows_b81
            simp (disch := first | assumption | omega | (simp only [jw_t_I, px_cpt]; done) | (simp only [jw_t_I, px_cpt]; omega)) only [pxL0, pxL1, pxL2, pxL3, pxL4, pxL5, pxL6, pxL7, pxL8, pxL9, pxL10, pxL11, pxL12, pxL13, pxL14, pxL15, pxL16, pxL17, pxL18, pxL19, pxL20, pxL21, pxL22, pxL23, pxL24, pxL25, pxL26, pxL27, pxL28, pxL29, pxL30, pxL31, pxL32, pxL33, pxL34, pxL35, pxL36, pxL37, pxL38, pxL39, pxL40, pxL41, pxL42, pxL43, pxL44, pxL45, pxL46, pxL47, pxL48, pxL49, pxL51, pxL57, pxL58, pxL59, pxL60, pxL61, pxL62, pxL63, pxL64, pxL65, pxL66, pxL67, pxL68, pxL69, pxL70, pxL71, pxL72, pxL73, pxL74, pxL75, pxL76, pxL77, pxL78, pxL79, pxL80, pxL81, pxL82, pxL83, pxL84, pxL85, pxL86, pxL87, pxL88, pxL89, pxL90, pxL91, pxL92, pxL93, pxL94, pxL95, pxL96, pxL97, pxL98, pxL99, pxL100, pxL101, pxL102, pxL103, pxL104, pxL105, pxL106, pxL107, pxL108, pxL109, pxL110, pxL111, pxL112, pxL113, pxL114, pxL115, pxL116, pxL117, pxL118, pxL119, pxL120, pxL121, pxL122, pxL123, pxL124, pxL125, pxL126, pxL200, pxL240, pxL287, pxL388, pxL400, pxL429, pxL431, pxL440, pxL1240, pxL1600, pxL1681, pxL12028, pxL13849, pxL14880, pxL25173, pxL26908, pxL49600, pxL65535, pxL65536, ↓reduceIte, pxJ_add, pxJ_sub, pxJ_mul, pxJ_neg, pxD_lt_t, pxD_lt_f, pxD_le_t, pxD_le_f, pxD_eq_t, pxD_eq_f, pxJ_lt, pxJ_le, pxJ_eq, px_gI, px_gR, px_pI, px_rc, px_ai, px_ar, px_si, px_ln, px_cp, pxJ_div, pxJ_b8, pxJ_byte, px_b2, px_bs, px_rb0, px_rb1, px_min, px_max, px_compare, pxW_some, jw_t_I, px_cpt, jw_r_I, px_cpr, jw_l_I, px_cpl, Option.some.injEq, pk, bo, px_cmp0, hb, hp, ee]
          unfold g_X6_readRows_b12 g_X6_readRows_b36 at st'
          rw [st']
          obtain ⟨y1, y2⟩ := ih N (pxPl h (q + 1)) (l + 1) (q + 1) (st + 1) (by omega) (by omega) G1 hp1 (by omega) (by omega) (by omega) (by omega) (by omega) (by omega)
          exact ⟨fun z => by obtain ⟨h', w1, w2, w3, w4⟩ := y1 z; exact ⟨h', w1, F1.trans w2, w3, w4⟩, fun z => by obtain ⟨h', w1, w2, w3⟩ := y2 z; exact ⟨h', w1, F1.trans w2, w3⟩⟩
      · have hb := pxBit_z d
        rw [if_neg d]
        refine ⟨fun _ => ⟨jw_setI h (12 + 4 * i) 8 (pxJ q), ?_, pxF.setI (by omega), by rw [pxM_ne (by omega)]; exact hp, pxM_eq (by omega) (by omega)⟩, fun z => (by cases z)⟩
        unfold g_X6_readRows_b98
        simp (disch := first | assumption | omega | (simp only [jw_t_I, px_cpt]; done) | (simp only [jw_t_I, px_cpt]; omega)) only [pxL0, pxL1, pxL2, pxL3, pxL4, pxL5, pxL6, pxL7, pxL8, pxL9, pxL10, pxL11, pxL12, pxL13, pxL14, pxL15, pxL16, pxL17, pxL18, pxL19, pxL20, pxL21, pxL22, pxL23, pxL24, pxL25, pxL26, pxL27, pxL28, pxL29, pxL30, pxL31, pxL32, pxL33, pxL34, pxL35, pxL36, pxL37, pxL38, pxL39, pxL40, pxL41, pxL42, pxL43, pxL44, pxL45, pxL46, pxL47, pxL48, pxL49, pxL51, pxL57, pxL58, pxL59, pxL60, pxL61, pxL62, pxL63, pxL64, pxL65, pxL66, pxL67, pxL68, pxL69, pxL70, pxL71, pxL72, pxL73, pxL74, pxL75, pxL76, pxL77, pxL78, pxL79, pxL80, pxL81, pxL82, pxL83, pxL84, pxL85, pxL86, pxL87, pxL88, pxL89, pxL90, pxL91, pxL92, pxL93, pxL94, pxL95, pxL96, pxL97, pxL98, pxL99, pxL100, pxL101, pxL102, pxL103, pxL104, pxL105, pxL106, pxL107, pxL108, pxL109, pxL110, pxL111, pxL112, pxL113, pxL114, pxL115, pxL116, pxL117, pxL118, pxL119, pxL120, pxL121, pxL122, pxL123, pxL124, pxL125, pxL126, pxL200, pxL240, pxL287, pxL388, pxL400, pxL429, pxL431, pxL440, pxL1240, pxL1600, pxL1681, pxL12028, pxL13849, pxL14880, pxL25173, pxL26908, pxL49600, pxL65535, pxL65536, ↓reduceIte, pxJ_add, pxJ_sub, pxJ_mul, pxJ_neg, pxD_lt_t, pxD_lt_f, pxD_le_t, pxD_le_f, pxD_eq_t, pxD_eq_f, pxJ_lt, pxJ_le, pxJ_eq, px_gI, px_gR, px_pI, px_rc, px_ai, px_ar, px_si, px_ln, px_cp, pxJ_div, pxJ_b8, pxJ_byte, px_b2, px_bs, px_rb0, px_rb1, px_min, px_max, px_compare, pxW_some, jw_t_I, px_cpt, jw_r_I, px_cpr, jw_l_I, px_cpl, Option.some.injEq, pk, bo, px_cmp0, hb, hp]
theorem s_X6_readRows {h : jw_H} {i : Nat} {p : Int} (hi : i < 60) (G : pxPG h b s) (hp : pxM h 10 5 = p) (h0 : 0 ≤ p) (h1 : p ≤ s.length) :
    ((pxRowsE s 61 0 p).1 = true → ∃ h', f_X6_readRows h 10 (some (12 + 4 * i)) = some (pxJ 1, h') ∧ pxF (fun k f => (k = 10 ∧ f = 5) ∨ (k = 12 + 4 * i ∧ (f = 7 ∨ f = 8))) h h' ∧ pxM h' 10 5 = (pxRowsE s 61 0 p).2 ∧ pxM h' (12 + 4 * i) 7 = p ∧ pxM h' (12 + 4 * i) 8 = (pxRowsE s 61 0 p).2) ∧
    ((pxRowsE s 61 0 p).1 = false → ∃ h', f_X6_readRows h 10 (some (12 + 4 * i)) = some (pxJ 0, h') ∧ pxF (fun k f => (k = 10 ∧ f = 5) ∨ (k = 12 + 4 * i ∧ (f = 7 ∨ f = 8))) h h' ∧ pxM h' 10 5 = (pxRowsE s 61 0 p).2) := by
  have tg := G.1.1
  have n60 := G.2.2.2.2.1.1
  obtain ⟨r1, t5, ra, rb, rc, t13, t14, t15⟩ := G.1.2.2.2.2.2.2.2 i hi
  have F1 : pxF (fun k f => (k = 10 ∧ f = 5) ∨ (k = 12 + 4 * i ∧ (f = 7 ∨ f = 8))) h (jw_setI h (12 + 4 * i) 7 (pxJ p)) := pxF.setI (by omega)
  have G1 := G.fr F1 (fun k f z => by omega)
  obtain ⟨y1, y2⟩ := s_X6_readRows_b12 hi 61 jw_FU (jw_setI h (12 + 4 * i) 7 (pxJ p)) 0 p 0 (by omega) (by unfold jw_FU; omega) G1 (by rw [pxM_ne (by omega)]; exact hp) h0 h1 (by omega) (by omega) (by omega) (by omega)
  unfold f_X6_readRows
  simp (disch := first | assumption | omega | (simp only [jw_t_I, px_cpt]; done) | (simp only [jw_t_I, px_cpt]; omega)) only [pxL0, pxL1, pxL2, pxL3, pxL4, pxL5, pxL6, pxL7, pxL8, pxL9, pxL10, pxL11, pxL12, pxL13, pxL14, pxL15, pxL16, pxL17, pxL18, pxL19, pxL20, pxL21, pxL22, pxL23, pxL24, pxL25, pxL26, pxL27, pxL28, pxL29, pxL30, pxL31, pxL32, pxL33, pxL34, pxL35, pxL36, pxL37, pxL38, pxL39, pxL40, pxL41, pxL42, pxL43, pxL44, pxL45, pxL46, pxL47, pxL48, pxL49, pxL51, pxL57, pxL58, pxL59, pxL60, pxL61, pxL62, pxL63, pxL64, pxL65, pxL66, pxL67, pxL68, pxL69, pxL70, pxL71, pxL72, pxL73, pxL74, pxL75, pxL76, pxL77, pxL78, pxL79, pxL80, pxL81, pxL82, pxL83, pxL84, pxL85, pxL86, pxL87, pxL88, pxL89, pxL90, pxL91, pxL92, pxL93, pxL94, pxL95, pxL96, pxL97, pxL98, pxL99, pxL100, pxL101, pxL102, pxL103, pxL104, pxL105, pxL106, pxL107, pxL108, pxL109, pxL110, pxL111, pxL112, pxL113, pxL114, pxL115, pxL116, pxL117, pxL118, pxL119, pxL120, pxL121, pxL122, pxL123, pxL124, pxL125, pxL126, pxL200, pxL240, pxL287, pxL388, pxL400, pxL429, pxL431, pxL440, pxL1240, pxL1600, pxL1681, pxL12028, pxL13849, pxL14880, pxL25173, pxL26908, pxL49600, pxL65535, pxL65536, ↓reduceIte, pxJ_add, pxJ_sub, pxJ_mul, pxJ_neg, pxD_lt_t, pxD_lt_f, pxD_le_t, pxD_le_f, pxD_eq_t, pxD_eq_f, pxJ_lt, pxJ_le, pxJ_eq, px_gI, px_gR, px_pI, px_rc, px_ai, px_ar, px_si, px_ln, px_cp, pxJ_div, pxJ_b8, pxJ_byte, px_b2, px_bs, px_rb0, px_rb1, px_min, px_max, px_compare, pxW_some, jw_t_I, px_cpt, jw_r_I, px_cpr, jw_l_I, px_cpl, Option.some.injEq, hp]
  refine ⟨fun z => ?_, fun z => ?_⟩
  · obtain ⟨h', w1, w2, w3, w4⟩ := y1 z
    exact ⟨h', w1, F1.trans (w2.mono (fun k f z => by omega)), w3, by rw [w2.m (by omega), pxM_eq (by omega) (by omega)], w4⟩
  · obtain ⟨h', w1, w2, w3⟩ := y2 z
    exact ⟨h', w1, F1.trans (w2.mono (fun k f z => by omega)), w3⟩
/-- a pattern between strokes, noted in field 6 -/
theorem s_X6_readPatternOf {h : jw_H} {i : Nat} {p e : Int} (hi : i < 60) (G : pxPG h b s) (hp : pxM h 10 5 = p) (he : pxM h 10 7 = e) (h0 : 0 ≤ p) (h1 : p ≤ s.length) (e0 : 0 ≤ e) (e1 : e ≤ 2 * p) :
    ((pxPtn s p).1 = true → ∃ h', f_X6_readPatternOf h 10 (some (12 + 4 * i)) = some (pxJ 1, h') ∧ pxF (fun k f => pxQe e k f ∨ (k = 12 + 4 * i ∧ f = 6)) h h' ∧ pxM h' 10 5 = (pxPtn s p).2 ∧ pxM h' (12 + 4 * i) 6 = e ∧ pxM h' 10 7 = e + (pxFull s (p + 1)).length ∧ pxEls h' s e (pxFull s (p + 1)) ∧ pxM h' 10 9 = pxPatK s (p + 1)) ∧
    ((pxPtn s p).1 = false → ∃ h', f_X6_readPatternOf h 10 (some (12 + 4 * i)) = some (pxJ 0, h') ∧ pxF (fun k f => pxQe e k f ∨ (k = 12 + 4 * i ∧ f = 6)) h h' ∧ pxM h' 10 5 = (pxPtn s p).2) := by
  have tg := G.1.1
  have n60 := G.2.2.2.2.1.1
  obtain ⟨r1, t5, ra, rb, rc, t13, t14, t15⟩ := G.1.2.2.2.2.2.2.2 i hi
  have ps := s_X6_pass G hp h0 (c := 47) (by omega) (by omega)
  have FG : ∀ {h' : jw_H}, pxF (fun k f => pxQe e k f ∨ (k = 12 + 4 * i ∧ f = 6)) h h' → pxPG h' b s := fun F => G.fr F (fun k f q => by unfold pxQe; omega)
  unfold f_X6_readPatternOf g_X6_readPatternOf_b40 g_X6_readPatternOf_b41
  unfold pxPtn
  by_cases c : pxP s p = 47
  · have lt := pxP_lt (s := s) (p := p) (by omega)
    rw [if_pos c]
    rw [if_pos c, if_pos c] at ps
    have G1 : pxPG (pxPl h (p + 1)) b s := pxPl_G G
    have F1 : pxF (fun k f => pxQe e k f ∨ (k = 12 + 4 * i ∧ f = 6)) h (pxPl h (p + 1)) := pxPl_F.mono (fun k f z => by unfold pxQe; omega)
    have tg1 : (jw_t (pxPl h (p + 1)) 10).1 = 6 := tg
    have hp1 : pxM (pxPl h (p + 1)) 10 5 = p + 1 := pxPl_p (by omega) (by omega)
    have he1 : pxM (pxPl h (p + 1)) 10 7 = e := by rw [pxPl_n (by omega)]; exact he
    obtain ⟨y1, y2⟩ := s_X6_readPattern G1 hp1 he1 (by omega) (by omega) e0 (by omega)
    have pb := pxPat_b (s := s) (p := p + 1) (by omega) (by omega)
    by_cases co : (pxPat s (p + 1)).1 = true
    · obtain ⟨h2, w1, w2, w3, w4, w5, w6⟩ := y1 co
      rw [if_pos co]
      have F2 : pxF (fun k f => pxQe e k f ∨ (k = 12 + 4 * i ∧ f = 6)) h (jw_setI h2 (12 + 4 * i) 6 (pxJ e)) := (F1.trans (w2.mono (fun k f z => Or.inl z))).trans (pxF.setI (by omega))
      have G2 := FG F2
      have t52 : (jw_t h2 (12 + 4 * i)).1 = 5 := by rw [w2.t]; exact t5
      have t53 : (jw_t (jw_setI h2 (12 + 4 * i) 6 (pxJ e)) (12 + 4 * i)).1 = 5 := t52
      have hp2 : pxM (jw_setI h2 (12 + 4 * i) 6 (pxJ e)) 10 5 = (pxPat s (p + 1)).2 := by rw [pxM_ne (by omega)]; exact w3
      have v2 : pxM (jw_setI h2 (12 + 4 * i) 6 (pxJ e)) (12 + 4 * i) 6 = e := pxM_eq (by omega) (by omega)
      have tg2 := G2.1.1
      have ps2 := s_X6_pass G2 hp2 (by omega) (c := 47) (by omega) (by omega)
      by_cases c2 : pxP s (pxPat s (p + 1)).2 = 47
      · rw [if_pos c2]
        rw [if_pos c2, if_pos c2] at ps2
        have lt2 := pxP_lt (s := s) (p := (pxPat s (p + 1)).2) (by omega)
        refine ⟨fun _ => ⟨pxPl (jw_setI h2 (12 + 4 * i) 6 (pxJ e)) ((pxPat s (p + 1)).2 + 1), ?_, F2.trans (pxPl_F.mono (fun k f z => by unfold pxQe; omega)), pxPl_p (by omega) (by omega), by rw [pxPl_n (by omega)]; exact v2, by rw [pxPl_n (by omega), pxM_ne (by omega)]; exact w5, ?_, by rw [pxPl_n (by omega), pxM_ne (by omega)]; exact w4⟩, fun z => (by cases z)⟩
        · simp (disch := first | assumption | omega | (simp only [jw_t_I, px_cpt]; done) | (simp only [jw_t_I, px_cpt]; omega)) only [pxL0, pxL1, pxL2, pxL3, pxL4, pxL5, pxL6, pxL7, pxL8, pxL9, pxL10, pxL11, pxL12, pxL13, pxL14, pxL15, pxL16, pxL17, pxL18, pxL19, pxL20, pxL21, pxL22, pxL23, pxL24, pxL25, pxL26, pxL27, pxL28, pxL29, pxL30, pxL31, pxL32, pxL33, pxL34, pxL35, pxL36, pxL37, pxL38, pxL39, pxL40, pxL41, pxL42, pxL43, pxL44, pxL45, pxL46, pxL47, pxL48, pxL49, pxL51, pxL57, pxL58, pxL59, pxL60, pxL61, pxL62, pxL63, pxL64, pxL65, pxL66, pxL67, pxL68, pxL69, pxL70, pxL71, pxL72, pxL73, pxL74, pxL75, pxL76, pxL77, pxL78, pxL79, pxL80, pxL81, pxL82, pxL83, pxL84, pxL85, pxL86, pxL87, pxL88, pxL89, pxL90, pxL91, pxL92, pxL93, pxL94, pxL95, pxL96, pxL97, pxL98, pxL99, pxL100, pxL101, pxL102, pxL103, pxL104, pxL105, pxL106, pxL107, pxL108, pxL109, pxL110, pxL111, pxL112, pxL113, pxL114, pxL115, pxL116, pxL117, pxL118, pxL119, pxL120, pxL121, pxL122, pxL123, pxL124, pxL125, pxL126, pxL200, pxL240, pxL287, pxL388, pxL400, pxL429, pxL431, pxL440, pxL1240, pxL1600, pxL1681, pxL12028, pxL13849, pxL14880, pxL25173, pxL26908, pxL49600, pxL65535, pxL65536, ↓reduceIte, pxJ_add, pxJ_sub, pxJ_mul, pxJ_neg, pxD_lt_t, pxD_lt_f, pxD_le_t, pxD_le_f, pxD_eq_t, pxD_eq_f, pxJ_lt, pxJ_le, pxJ_eq, px_gI, px_gR, px_pI, px_rc, px_ai, px_ar, px_si, px_ln, px_cp, pxJ_div, pxJ_b8, pxJ_byte, px_b2, px_bs, px_rb0, px_rb1, px_min, px_max, px_compare, pxW_some, jw_t_I, px_cpt, jw_r_I, px_cpr, jw_l_I, px_cpl, Option.some.injEq, ps, w1, v2, ps2]
        · exact w6.fr (P := fun k f => (k = 12 + 4 * i) ∨ (k = 10 ∧ f = 5)) ((pxF.setI (by omega)).trans (pxPl_F.mono (fun k f q => by omega))) _ _ e0 (fun k f q1 q2 q3 => by omega)
      · rw [if_neg c2]
        rw [if_neg c2, if_neg c2, pxPl_id hp2] at ps2
        refine ⟨fun z => (by cases z), fun _ => ⟨jw_setI h2 (12 + 4 * i) 6 (pxJ e), ?_, F2, hp2⟩⟩
        simp (disch := first | assumption | omega | (simp only [jw_t_I, px_cpt]; done) | (simp only [jw_t_I, px_cpt]; omega)) only [pxL0, pxL1, pxL2, pxL3, pxL4, pxL5, pxL6, pxL7, pxL8, pxL9, pxL10, pxL11, pxL12, pxL13, pxL14, pxL15, pxL16, pxL17, pxL18, pxL19, pxL20, pxL21, pxL22, pxL23, pxL24, pxL25, pxL26, pxL27, pxL28, pxL29, pxL30, pxL31, pxL32, pxL33, pxL34, pxL35, pxL36, pxL37, pxL38, pxL39, pxL40, pxL41, pxL42, pxL43, pxL44, pxL45, pxL46, pxL47, pxL48, pxL49, pxL51, pxL57, pxL58, pxL59, pxL60, pxL61, pxL62, pxL63, pxL64, pxL65, pxL66, pxL67, pxL68, pxL69, pxL70, pxL71, pxL72, pxL73, pxL74, pxL75, pxL76, pxL77, pxL78, pxL79, pxL80, pxL81, pxL82, pxL83, pxL84, pxL85, pxL86, pxL87, pxL88, pxL89, pxL90, pxL91, pxL92, pxL93, pxL94, pxL95, pxL96, pxL97, pxL98, pxL99, pxL100, pxL101, pxL102, pxL103, pxL104, pxL105, pxL106, pxL107, pxL108, pxL109, pxL110, pxL111, pxL112, pxL113, pxL114, pxL115, pxL116, pxL117, pxL118, pxL119, pxL120, pxL121, pxL122, pxL123, pxL124, pxL125, pxL126, pxL200, pxL240, pxL287, pxL388, pxL400, pxL429, pxL431, pxL440, pxL1240, pxL1600, pxL1681, pxL12028, pxL13849, pxL14880, pxL25173, pxL26908, pxL49600, pxL65535, pxL65536, ↓reduceIte, pxJ_add, pxJ_sub, pxJ_mul, pxJ_neg, pxD_lt_t, pxD_lt_f, pxD_le_t, pxD_le_f, pxD_eq_t, pxD_eq_f, pxJ_lt, pxJ_le, pxJ_eq, px_gI, px_gR, px_pI, px_rc, px_ai, px_ar, px_si, px_ln, px_cp, pxJ_div, pxJ_b8, pxJ_byte, px_b2, px_bs, px_rb0, px_rb1, px_min, px_max, px_compare, pxW_some, jw_t_I, px_cpt, jw_r_I, px_cpr, jw_l_I, px_cpl, Option.some.injEq, ps, w1, v2, ps2]
    · obtain ⟨h2, w1, w2, w3⟩ := y2 (by simpa using co)
      rw [if_neg co]
      have t52 : (jw_t h2 (12 + 4 * i)).1 = 5 := by rw [w2.t]; exact t5
      have t53 : (jw_t (jw_setI h2 (12 + 4 * i) 6 (pxJ (-1))) (12 + 4 * i)).1 = 5 := t52
      have v2 : pxM (jw_setI h2 (12 + 4 * i) 6 (pxJ (-1))) (12 + 4 * i) 6 = -1 := pxM_eq (by omega) (by omega)
      refine ⟨fun z => (by cases z), fun _ => ⟨jw_setI h2 (12 + 4 * i) 6 (pxJ (-1)), ?_, (F1.trans (w2.mono (fun k f z => Or.inl z))).trans (pxF.setI (by omega)), by rw [pxM_ne (by omega)]; exact w3⟩⟩
      simp (disch := first | assumption | omega | (simp only [jw_t_I, px_cpt]; done) | (simp only [jw_t_I, px_cpt]; omega)) only [pxL0, pxL1, pxL2, pxL3, pxL4, pxL5, pxL6, pxL7, pxL8, pxL9, pxL10, pxL11, pxL12, pxL13, pxL14, pxL15, pxL16, pxL17, pxL18, pxL19, pxL20, pxL21, pxL22, pxL23, pxL24, pxL25, pxL26, pxL27, pxL28, pxL29, pxL30, pxL31, pxL32, pxL33, pxL34, pxL35, pxL36, pxL37, pxL38, pxL39, pxL40, pxL41, pxL42, pxL43, pxL44, pxL45, pxL46, pxL47, pxL48, pxL49, pxL51, pxL57, pxL58, pxL59, pxL60, pxL61, pxL62, pxL63, pxL64, pxL65, pxL66, pxL67, pxL68, pxL69, pxL70, pxL71, pxL72, pxL73, pxL74, pxL75, pxL76, pxL77, pxL78, pxL79, pxL80, pxL81, pxL82, pxL83, pxL84, pxL85, pxL86, pxL87, pxL88, pxL89, pxL90, pxL91, pxL92, pxL93, pxL94, pxL95, pxL96, pxL97, pxL98, pxL99, pxL100, pxL101, pxL102, pxL103, pxL104, pxL105, pxL106, pxL107, pxL108, pxL109, pxL110, pxL111, pxL112, pxL113, pxL114, pxL115, pxL116, pxL117, pxL118, pxL119, pxL120, pxL121, pxL122, pxL123, pxL124, pxL125, pxL126, pxL200, pxL240, pxL287, pxL388, pxL400, pxL429, pxL431, pxL440, pxL1240, pxL1600, pxL1681, pxL12028, pxL13849, pxL14880, pxL25173, pxL26908, pxL49600, pxL65535, pxL65536, ↓reduceIte, pxJ_add, pxJ_sub, pxJ_mul, pxJ_neg, pxD_lt_t, pxD_lt_f, pxD_le_t, pxD_le_f, pxD_eq_t, pxD_eq_f, pxJ_lt, pxJ_le, pxJ_eq, px_gI, px_gR, px_pI, px_rc, px_ai, px_ar, px_si, px_ln, px_cp, pxJ_div, pxJ_b8, pxJ_byte, px_b2, px_bs, px_rb0, px_rb1, px_min, px_max, px_compare, pxW_some, jw_t_I, px_cpt, jw_r_I, px_cpr, jw_l_I, px_cpl, Option.some.injEq, ps, w1, v2]
  · rw [if_neg c]
    rw [if_neg c, if_neg c, pxPl_id hp] at ps
    refine ⟨fun z => (by cases z), fun _ => ⟨h, ?_, pxF.rfl, hp⟩⟩
    simp (disch := first | assumption | omega | (simp only [jw_t_I, px_cpt]; done) | (simp only [jw_t_I, px_cpt]; omega)) only [pxL0, pxL1, pxL2, pxL3, pxL4, pxL5, pxL6, pxL7, pxL8, pxL9, pxL10, pxL11, pxL12, pxL13, pxL14, pxL15, pxL16, pxL17, pxL18, pxL19, pxL20, pxL21, pxL22, pxL23, pxL24, pxL25, pxL26, pxL27, pxL28, pxL29, pxL30, pxL31, pxL32, pxL33, pxL34, pxL35, pxL36, pxL37, pxL38, pxL39, pxL40, pxL41, pxL42, pxL43, pxL44, pxL45, pxL46, pxL47, pxL48, pxL49, pxL51, pxL57, pxL58, pxL59, pxL60, pxL61, pxL62, pxL63, pxL64, pxL65, pxL66, pxL67, pxL68, pxL69, pxL70, pxL71, pxL72, pxL73, pxL74, pxL75, pxL76, pxL77, pxL78, pxL79, pxL80, pxL81, pxL82, pxL83, pxL84, pxL85, pxL86, pxL87, pxL88, pxL89, pxL90, pxL91, pxL92, pxL93, pxL94, pxL95, pxL96, pxL97, pxL98, pxL99, pxL100, pxL101, pxL102, pxL103, pxL104, pxL105, pxL106, pxL107, pxL108, pxL109, pxL110, pxL111, pxL112, pxL113, pxL114, pxL115, pxL116, pxL117, pxL118, pxL119, pxL120, pxL121, pxL122, pxL123, pxL124, pxL125, pxL126, pxL200, pxL240, pxL287, pxL388, pxL400, pxL429, pxL431, pxL440, pxL1240, pxL1600, pxL1681, pxL12028, pxL13849, pxL14880, pxL25173, pxL26908, pxL49600, pxL65535, pxL65536, ↓reduceIte, pxJ_add, pxJ_sub, pxJ_mul, pxJ_neg, pxD_lt_t, pxD_lt_f, pxD_le_t, pxD_le_f, pxD_eq_t, pxD_eq_f, pxJ_lt, pxJ_le, pxJ_eq, px_gI, px_gR, px_pI, px_rc, px_ai, px_ar, px_si, px_ln, px_cp, pxJ_div, pxJ_b8, pxJ_byte, px_b2, px_bs, px_rb0, px_rb1, px_min, px_max, px_compare, pxW_some, jw_t_I, px_cpt, jw_r_I, px_cpr, jw_l_I, px_cpl, Option.some.injEq, ps]
end
