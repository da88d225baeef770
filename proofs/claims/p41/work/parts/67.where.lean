/-! orders: the where, and parts of acts -/
theorem pxWh_b {s : List Int} {p : Int} (h0 : 0 ≤ p) (h1 : p ≤ s.length) : p ≤ (pxWh s p).2.1 ∧ (pxWh s p).2.1 ≤ s.length ∧ 0 ≤ (pxWh s p).2.2.1 ∧ (pxWh s p).2.2.1 ≤ 3 := by
  unfold pxWh
  by_cases c1 : pxP s p = 37
  · have := pxP_lt (s := s) (p := p) (by omega)
    rw [if_pos c1]; refine ⟨?_, ?_, ?_, ?_⟩ <;> dsimp only <;> omega
  rw [if_neg c1]
  by_cases c2 : pxSpot0 (pxP s p) = true
  · have ab := pxAddr_b h0 h1
    rw [if_pos c2]
    by_cases c3 : (pxAddr s p).1 = true
    · rw [if_pos c3]
      by_cases c4 : pxP s (pxAddr s p).2 = 44
      · have := pxP_lt (s := s) (p := (pxAddr s p).2) (by omega)
        have ab2 := pxAddr_b (s := s) (p := (pxAddr s p).2 + 1) (by omega) (by omega)
        rw [if_pos c4]; refine ⟨?_, ?_, ?_, ?_⟩ <;> dsimp only <;> omega
      · rw [if_neg c4]; refine ⟨?_, ?_, ?_, ?_⟩ <;> dsimp only <;> omega
    · rw [if_neg c3]; refine ⟨?_, ?_, ?_, ?_⟩ <;> dsimp only <;> omega
  · rw [if_neg c2]; refine ⟨?_, ?_, ?_, ?_⟩ <;> dsimp only <;> omega
/-- what a reader of order i may change -/
def pxQo (i : Nat) (e : Int) : Nat → Nat → Prop := fun k f => (k = 10 ∧ 5 ≤ f ∧ f ≠ 6) ∨ ((k = 252 ∨ k = 253) ∧ e ≤ f) ∨ (12 + 4 * i ≤ k ∧ k ≤ 15 + 4 * i ∧ (k = 12 + 4 * i → 3 ≤ f))
theorem pxPG.fo {i : Nat} {e : Int} {h h' : jw_H} {b : Nat} {s : List Int} (G : pxPG h b s) (hi : i < 60) (F : pxF (pxQo i e) h h') : pxPG h' b s := G.fr F (fun k f q => by unfold pxQo; omega)
theorem pxQa_o {a i : Nat} {e e' : Int} {h h' : jw_H} (F : pxF (pxQa a e') h h') (ha : 13 + 4 * i ≤ a ∧ a ≤ 15 + 4 * i) (he : e ≤ e') : pxF (pxQo i e) h h' := F.mono (fun k f q => by unfold pxQa at q; unfold pxQo; omega)
section
variable {h : jw_H} {b : Nat} {s : List Int}
theorem s_X6_readWhere {i : Nat} {p e : Int} (hi : i < 60) (G : pxPG h b s) (hp : pxM h 10 5 = p) (he : pxM h 10 7 = e) (h0 : 0 ≤ p) (h1 : p ≤ s.length) (e0 : 0 ≤ e) (e1 : e ≤ 2 * p) (zo : pxM h (12 + 4 * i) 4 = 0) (za : ∀ f, 1 ≤ f → f ≤ 3 → pxM h (13 + 4 * i) f = 0) (zb : ∀ f, 1 ≤ f → f ≤ 3 → pxM h (14 + 4 * i) f = 0) :
    ((pxWh s p).1 = true → ∃ h', f_X6_readWhere h 10 (some (12 + 4 * i)) = some (pxJ 1, h') ∧ pxF (pxQo i e) h h' ∧ pxM h' 10 5 = (pxWh s p).2.1 ∧ pxM h' (12 + 4 * i) 4 = (pxWh s p).2.2.1 ∧ (2 ≤ (pxWh s p).2.2.1 → pxAd h' s (13 + 4 * i) p) ∧ ((pxWh s p).2.2.1 = 3 → pxAd h' s (14 + 4 * i) (pxWh s p).2.2.2) ∧ e ≤ pxM h' 10 7 ∧ pxM h' 10 7 ≤ 2 * (pxWh s p).2.1 ∧ (∀ f, f ≠ 4 → pxM h' (12 + 4 * i) f = pxM h (12 + 4 * i) f) ∧ (∀ f, pxM h' (15 + 4 * i) f = pxM h (15 + 4 * i) f)) ∧
    ((pxWh s p).1 = false → ∃ h', f_X6_readWhere h 10 (some (12 + 4 * i)) = some (pxJ 0, h') ∧ pxF (pxQo i e) h h' ∧ pxM h' 10 5 = (pxWh s p).2.1) := by
  have pk := s_X6_peek G hp h0
  have hin := pxP_in G.2.2.2.2.1 p
  have tg := G.1.1
  have n60 := G.2.2.2.2.1.1
  have ba := s_X6_beginsAddress (h := h) (c := pxP s p) (by omega) (by omega)
  have ps := s_X6_pass G hp h0 (c := 37) (by omega) (by omega)
  obtain ⟨r1, t5, ra, rb, rc, t13, t14, t15⟩ := G.1.2.2.2.2.2.2.2 i hi
  unfold f_X6_readWhere
  by_cases c37 : pxP s p = 37
  · have lt := pxP_lt (s := s) (p := p) (by omega)
    have es : pxWh s p = (true, p + 1, 1, 0) := by unfold pxWh; rw [if_pos c37]
    simp only [if_pos c37] at ps
    rw [es]
    have t5' : (jw_t (pxPl h (p + 1)) (12 + 4 * i)).1 = 5 := t5
    refine ⟨fun _ => ⟨jw_setI (pxPl h (p + 1)) (12 + 4 * i) 4 (pxJ 1), ?_, (pxPl_F.mono (fun k f q => by unfold pxQo; omega)).trans (pxF.setI (by unfold pxQo; omega)), ?_, ?_, fun z => ?_, fun z => ?_, ?_, ?_, fun f hf => ?_, fun f => ?_⟩, fun z => (by cases z)⟩
    · simp (disch := first | assumption | omega | (simp only [jw_t_I, px_cpt]; done) | (simp only [jw_t_I, px_cpt]; omega)) only [pxL0, pxL1, pxL2, pxL3, pxL4, pxL5, pxL6, pxL7, pxL8, pxL9, pxL10, pxL11, pxL12, pxL13, pxL14, pxL15, pxL16, pxL17, pxL18, pxL19, pxL20, pxL21, pxL22, pxL23, pxL24, pxL25, pxL26, pxL27, pxL28, pxL29, pxL30, pxL31, pxL32, pxL33, pxL34, pxL35, pxL36, pxL37, pxL38, pxL39, pxL40, pxL41, pxL42, pxL43, pxL44, pxL45, pxL46, pxL47, pxL48, pxL49, pxL51, pxL57, pxL58, pxL59, pxL60, pxL61, pxL62, pxL63, pxL64, pxL65, pxL66, pxL67, pxL68, pxL69, pxL70, pxL71, pxL72, pxL73, pxL74, pxL75, pxL76, pxL77, pxL78, pxL79, pxL80, pxL81, pxL82, pxL83, pxL84, pxL85, pxL86, pxL87, pxL88, pxL89, pxL90, pxL91, pxL92, pxL93, pxL94, pxL95, pxL96, pxL97, pxL98, pxL99, pxL100, pxL101, pxL102, pxL103, pxL104, pxL105, pxL106, pxL107, pxL108, pxL109, pxL110, pxL111, pxL112, pxL113, pxL114, pxL115, pxL116, pxL117, pxL118, pxL119, pxL120, pxL121, pxL122, pxL123, pxL124, pxL125, pxL126, pxL200, pxL240, pxL287, pxL388, pxL400, pxL429, pxL431, pxL440, pxL1240, pxL1600, pxL1681, pxL12028, pxL13849, pxL14880, pxL25173, pxL26908, pxL49600, pxL65535, pxL65536, ↓reduceIte, pxJ_add, pxJ_sub, pxJ_mul, pxJ_neg, pxD_lt_t, pxD_lt_f, pxD_le_t, pxD_le_f, pxD_eq_t, pxD_eq_f, pxJ_lt, pxJ_le, pxJ_eq, px_gI, px_gR, px_pI, px_rc, px_ai, px_ar, px_si, px_ln, px_cp, pxJ_div, pxJ_b8, pxJ_byte, px_b2, px_bs, px_rb0, px_rb1, px_min, px_max, px_compare, pxW_some, jw_t_I, px_cpt, jw_r_I, px_cpr, jw_l_I, px_cpl, Option.some.injEq, ps]
    · rw [pxM_ne (by omega), pxPl_p (by omega) (by omega)]
    · rw [pxM_eq (by omega) (by omega)]
    · dsimp only at z; omega
    · dsimp only at z; omega
    · rw [pxM_ne (by omega), pxPl_n (by omega), he]; exact Int.le_refl _
    · rw [pxM_ne (by omega), pxPl_n (by omega), he]; dsimp only; omega
    · rw [pxM_ne (by omega), pxPl_n (by omega)]
    · rw [pxM_ne (by omega), pxPl_n (by omega)]
  · simp only [if_neg c37] at ps
    rw [pxPl_id hp] at ps
    by_cases c0 : pxSpot0 (pxP s p) = true
    · rw [if_pos c0] at ba
      have es : pxWh s p = (if (pxAddr s p).1 = true then (if pxP s (pxAddr s p).2 = 44 then ((pxAddr s ((pxAddr s p).2 + 1)).1, (pxAddr s ((pxAddr s p).2 + 1)).2, 3, (pxAddr s p).2 + 1) else (true, (pxAddr s p).2, 2, 0)) else (false, (pxAddr s p).2, 2, 0)) := by unfold pxWh; rw [if_neg c37, if_pos c0]
      have F1 : pxF (pxQo i e) h (jw_setI h (12 + 4 * i) 4 (pxJ 2)) := pxF.setI (by unfold pxQo; omega)
      have G1 := G.fo hi F1
      have t5' : (jw_t (jw_setI h (12 + 4 * i) 4 (pxJ 2)) (12 + 4 * i)).1 = 5 := t5
      have ra' : jw_r (jw_setI h (12 + 4 * i) 4 (pxJ 2)) (12 + 4 * i) 0 = some (13 + 4 * i) := ra
      have tg1 : (jw_t (jw_setI h (12 + 4 * i) 4 (pxJ 2)) 10).1 = 6 := tg
      have hp1 : pxM (jw_setI h (12 + 4 * i) 4 (pxJ 2)) 10 5 = p := by rw [pxM_ne (by omega)]; exact hp
      have he1 : pxM (jw_setI h (12 + 4 * i) 4 (pxJ 2)) 10 7 = e := by rw [pxM_ne (by omega)]; exact he
      obtain ⟨y1, y2⟩ := s_X6_readAddress (a := 13 + 4 * i) (by omega) G1 t13 hp1 he1 h0 h1 e0 e1 (by rw [pxM_ne (by omega)]; exact za 1 (by omega) (by omega)) (by rw [pxM_ne (by omega)]; exact za 2 (by omega) (by omega)) (by rw [pxM_ne (by omega)]; exact za 3 (by omega) (by omega))
      have ab := pxAddr_b (s := s) h0 h1
      by_cases c1 : (pxAddr s p).1 = true
      · rw [if_pos c1] at es
        obtain ⟨h2, w1, w2, w3, w4, w5, w6⟩ := y1 c1
        have F2 : pxF (pxQo i e) h h2 := F1.trans (pxQa_o w2 (by omega) (Int.le_refl _))
        have G2 := G.fo hi F2
        have ps2 := s_X6_pass G2 w3 (by omega) (c := 44) (by omega) (by omega)
        have tg2 := G2.1.1
        have k4 : pxM h2 (12 + 4 * i) 4 = 2 := by rw [w2.m (by unfold pxQa; omega), pxM_eq (by omega) (by omega)]
        by_cases c44 : pxP s (pxAddr s p).2 = 44
        · rw [if_pos c44] at es
          simp only [if_pos c44] at ps2
          have lt := pxP_lt (s := s) (p := (pxAddr s p).2) (by omega)
          have F3 : pxF (pxQo i e) h (jw_setI (pxPl h2 ((pxAddr s p).2 + 1)) (12 + 4 * i) 4 (pxJ 3)) := (F2.trans (pxPl_F.mono (fun k f q => by unfold pxQo; omega))).trans (pxF.setI (by unfold pxQo; omega))
          have G3 := G.fo hi F3
          obtain ⟨r1', t5'', ra', rb', rc', t13', t14', t15'⟩ := G3.1.2.2.2.2.2.2.2 i hi
          have tg3 := G3.1.1
          have t5''' : (jw_t (pxPl h2 ((pxAddr s p).2 + 1)) (12 + 4 * i)).1 = 5 := t5''
          have hp3 : pxM (jw_setI (pxPl h2 ((pxAddr s p).2 + 1)) (12 + 4 * i) 4 (pxJ 3)) 10 5 = (pxAddr s p).2 + 1 := by rw [pxM_ne (by omega), pxPl_p (by omega) (by omega)]
          have he3 : pxM (jw_setI (pxPl h2 ((pxAddr s p).2 + 1)) (12 + 4 * i) 4 (pxJ 3)) 10 7 = pxM h2 10 7 := by rw [pxM_ne (by omega), pxPl_n (by omega)]
          have zb' : ∀ f, 1 ≤ f → f ≤ 3 → pxM (jw_setI (pxPl h2 ((pxAddr s p).2 + 1)) (12 + 4 * i) 4 (pxJ 3)) (14 + 4 * i) f = 0 := fun f f1 f2 => by rw [pxM_ne (by omega), pxPl_n (by omega), w2.m (by unfold pxQa; omega), pxM_ne (by omega)]; exact zb f f1 f2
          obtain ⟨y3, y4⟩ := s_X6_readAddress (a := 14 + 4 * i) (by omega) G3 t14' hp3 he3 (by omega) (by omega) (by omega) (by omega) (zb' 1 (by omega) (by omega)) (zb' 2 (by omega) (by omega)) (zb' 3 (by omega) (by omega))
          rw [es]
          refine ⟨fun z => ?_, fun z => ?_⟩
          · obtain ⟨h4, x1, x2, x3, x4, x5, x6⟩ := y3 z
            refine ⟨h4, ?_, F3.trans (pxQa_o x2 (by omega) (by omega)), x3, ?_, fun _ => ?_, fun _ => x4, by omega, x6, fun f hf => ?_, fun f => ?_⟩
            · simp (disch := first | assumption | omega | (simp only [jw_t_I, px_cpt]; done) | (simp only [jw_t_I, px_cpt]; omega)) only [pxL0, pxL1, pxL2, pxL3, pxL4, pxL5, pxL6, pxL7, pxL8, pxL9, pxL10, pxL11, pxL12, pxL13, pxL14, pxL15, pxL16, pxL17, pxL18, pxL19, pxL20, pxL21, pxL22, pxL23, pxL24, pxL25, pxL26, pxL27, pxL28, pxL29, pxL30, pxL31, pxL32, pxL33, pxL34, pxL35, pxL36, pxL37, pxL38, pxL39, pxL40, pxL41, pxL42, pxL43, pxL44, pxL45, pxL46, pxL47, pxL48, pxL49, pxL51, pxL57, pxL58, pxL59, pxL60, pxL61, pxL62, pxL63, pxL64, pxL65, pxL66, pxL67, pxL68, pxL69, pxL70, pxL71, pxL72, pxL73, pxL74, pxL75, pxL76, pxL77, pxL78, pxL79, pxL80, pxL81, pxL82, pxL83, pxL84, pxL85, pxL86, pxL87, pxL88, pxL89, pxL90, pxL91, pxL92, pxL93, pxL94, pxL95, pxL96, pxL97, pxL98, pxL99, pxL100, pxL101, pxL102, pxL103, pxL104, pxL105, pxL106, pxL107, pxL108, pxL109, pxL110, pxL111, pxL112, pxL113, pxL114, pxL115, pxL116, pxL117, pxL118, pxL119, pxL120, pxL121, pxL122, pxL123, pxL124, pxL125, pxL126, pxL200, pxL240, pxL287, pxL388, pxL400, pxL429, pxL431, pxL440, pxL1240, pxL1600, pxL1681, pxL12028, pxL13849, pxL14880, pxL25173, pxL26908, pxL49600, pxL65535, pxL65536, ↓reduceIte, pxJ_add, pxJ_sub, pxJ_mul, pxJ_neg, pxD_lt_t, pxD_lt_f, pxD_le_t, pxD_le_f, pxD_eq_t, pxD_eq_f, pxJ_lt, pxJ_le, pxJ_eq, px_gI, px_gR, px_pI, px_rc, px_ai, px_ar, px_si, px_ln, px_cp, pxJ_div, pxJ_b8, pxJ_byte, px_b2, px_bs, px_rb0, px_rb1, px_min, px_max, px_compare, pxW_some, jw_t_I, px_cpt, jw_r_I, px_cpr, jw_l_I, px_cpl, Option.some.injEq, ps, pk, ba, ra, ra', w1, ps2, rb', x1]
            · rw [x2.m (by unfold pxQa; omega), pxM_eq (by omega) (by omega)]
            · refine (w4.fr (P := fun k f => (k = 10 ∧ f = 5) ∨ (k = 12 + 4 * i)) ((pxPl_F.mono (fun k f q => by omega)).trans (pxF.setI (by omega))) (fun f => by omega) (fun k f q1 q2 => by omega) ?_).fr x2 (fun f => by unfold pxQa; omega) (fun k f q1 q2 => by unfold pxQa; rw [he3] at q2; omega) (by omega)
              rw [he3]; exact Int.le_refl _
            · rw [x2.m (by unfold pxQa; omega), pxM_ne (by omega), pxPl_n (by omega), w2.m (by unfold pxQa; omega), pxM_ne (by omega)]
            · rw [x2.m (by unfold pxQa; omega), pxM_ne (by omega), pxPl_n (by omega), w2.m (by unfold pxQa; omega), pxM_ne (by omega)]
          · obtain ⟨h4, x1, x2, x3⟩ := y4 z
            refine ⟨h4, ?_, F3.trans (pxQa_o x2 (by omega) (by omega)), x3⟩
            simp (disch := first | assumption | omega | (simp only [jw_t_I, px_cpt]; done) | (simp only [jw_t_I, px_cpt]; omega)) only [pxL0, pxL1, pxL2, pxL3, pxL4, pxL5, pxL6, pxL7, pxL8, pxL9, pxL10, pxL11, pxL12, pxL13, pxL14, pxL15, pxL16, pxL17, pxL18, pxL19, pxL20, pxL21, pxL22, pxL23, pxL24, pxL25, pxL26, pxL27, pxL28, pxL29, pxL30, pxL31, pxL32, pxL33, pxL34, pxL35, pxL36, pxL37, pxL38, pxL39, pxL40, pxL41, pxL42, pxL43, pxL44, pxL45, pxL46, pxL47, pxL48, pxL49, pxL51, pxL57, pxL58, pxL59, pxL60, pxL61, pxL62, pxL63, pxL64, pxL65, pxL66, pxL67, pxL68, pxL69, pxL70, pxL71, pxL72, pxL73, pxL74, pxL75, pxL76, pxL77, pxL78, pxL79, pxL80, pxL81, pxL82, pxL83, pxL84, pxL85, pxL86, pxL87, pxL88, pxL89, pxL90, pxL91, pxL92, pxL93, pxL94, pxL95, pxL96, pxL97, pxL98, pxL99, pxL100, pxL101, pxL102, pxL103, pxL104, pxL105, pxL106, pxL107, pxL108, pxL109, pxL110, pxL111, pxL112, pxL113, pxL114, pxL115, pxL116, pxL117, pxL118, pxL119, pxL120, pxL121, pxL122, pxL123, pxL124, pxL125, pxL126, pxL200, pxL240, pxL287, pxL388, pxL400, pxL429, pxL431, pxL440, pxL1240, pxL1600, pxL1681, pxL12028, pxL13849, pxL14880, pxL25173, pxL26908, pxL49600, pxL65535, pxL65536, ↓reduceIte, pxJ_add, pxJ_sub, pxJ_mul, pxJ_neg, pxD_lt_t, pxD_lt_f, pxD_le_t, pxD_le_f, pxD_eq_t, pxD_eq_f, pxJ_lt, pxJ_le, pxJ_eq, px_gI, px_gR, px_pI, px_rc, px_ai, px_ar, px_si, px_ln, px_cp, pxJ_div, pxJ_b8, pxJ_byte, px_b2, px_bs, px_rb0, px_rb1, px_min, px_max, px_compare, pxW_some, jw_t_I, px_cpt, jw_r_I, px_cpr, jw_l_I, px_cpl, Option.some.injEq, ps, pk, ba, ra, ra', w1, ps2, rb', x1]
        · rw [if_neg c44] at es
          simp only [if_neg c44] at ps2
          rw [pxPl_id w3] at ps2
          rw [es]
          refine ⟨fun _ => ⟨h2, ?_, F2, w3, k4, fun _ => w4, fun z => ?_, w5, w6, fun f hf => ?_, fun f => ?_⟩, fun z => (by cases z)⟩
          · simp (disch := first | assumption | omega | (simp only [jw_t_I, px_cpt]; done) | (simp only [jw_t_I, px_cpt]; omega)) only [pxL0, pxL1, pxL2, pxL3, pxL4, pxL5, pxL6, pxL7, pxL8, pxL9, pxL10, pxL11, pxL12, pxL13, pxL14, pxL15, pxL16, pxL17, pxL18, pxL19, pxL20, pxL21, pxL22, pxL23, pxL24, pxL25, pxL26, pxL27, pxL28, pxL29, pxL30, pxL31, pxL32, pxL33, pxL34, pxL35, pxL36, pxL37, pxL38, pxL39, pxL40, pxL41, pxL42, pxL43, pxL44, pxL45, pxL46, pxL47, pxL48, pxL49, pxL51, pxL57, pxL58, pxL59, pxL60, pxL61, pxL62, pxL63, pxL64, pxL65, pxL66, pxL67, pxL68, pxL69, pxL70, pxL71, pxL72, pxL73, pxL74, pxL75, pxL76, pxL77, pxL78, pxL79, pxL80, pxL81, pxL82, pxL83, pxL84, pxL85, pxL86, pxL87, pxL88, pxL89, pxL90, pxL91, pxL92, pxL93, pxL94, pxL95, pxL96, pxL97, pxL98, pxL99, pxL100, pxL101, pxL102, pxL103, pxL104, pxL105, pxL106, pxL107, pxL108, pxL109, pxL110, pxL111, pxL112, pxL113, pxL114, pxL115, pxL116, pxL117, pxL118, pxL119, pxL120, pxL121, pxL122, pxL123, pxL124, pxL125, pxL126, pxL200, pxL240, pxL287, pxL388, pxL400, pxL429, pxL431, pxL440, pxL1240, pxL1600, pxL1681, pxL12028, pxL13849, pxL14880, pxL25173, pxL26908, pxL49600, pxL65535, pxL65536, ↓reduceIte, pxJ_add, pxJ_sub, pxJ_mul, pxJ_neg, pxD_lt_t, pxD_lt_f, pxD_le_t, pxD_le_f, pxD_eq_t, pxD_eq_f, pxJ_lt, pxJ_le, pxJ_eq, px_gI, px_gR, px_pI, px_rc, px_ai, px_ar, px_si, px_ln, px_cp, pxJ_div, pxJ_b8, pxJ_byte, px_b2, px_bs, px_rb0, px_rb1, px_min, px_max, px_compare, pxW_some, jw_t_I, px_cpt, jw_r_I, px_cpr, jw_l_I, px_cpl, Option.some.injEq, ps, pk, ba, ra, ra', w1, ps2]
          · dsimp only at z; omega
          · rw [w2.m (by unfold pxQa; omega), pxM_ne (by omega)]
          · rw [w2.m (by unfold pxQa; omega), pxM_ne (by omega)]
      · rw [if_neg c1] at es
        obtain ⟨h2, w1, w2, w3⟩ := y2 (by simpa using c1)
        rw [es]
        refine ⟨fun z => (by cases z), fun _ => ⟨h2, ?_, F1.trans (pxQa_o w2 (by omega) (Int.le_refl _)), w3⟩⟩
        simp (disch := first | assumption | omega | (simp only [jw_t_I, px_cpt]; done) | (simp only [jw_t_I, px_cpt]; omega)) only [pxL0, pxL1, pxL2, pxL3, pxL4, pxL5, pxL6, pxL7, pxL8, pxL9, pxL10, pxL11, pxL12, pxL13, pxL14, pxL15, pxL16, pxL17, pxL18, pxL19, pxL20, pxL21, pxL22, pxL23, pxL24, pxL25, pxL26, pxL27, pxL28, pxL29, pxL30, pxL31, pxL32, pxL33, pxL34, pxL35, pxL36, pxL37, pxL38, pxL39, pxL40, pxL41, pxL42, pxL43, pxL44, pxL45, pxL46, pxL47, pxL48, pxL49, pxL51, pxL57, pxL58, pxL59, pxL60, pxL61, pxL62, pxL63, pxL64, pxL65, pxL66, pxL67, pxL68, pxL69, pxL70, pxL71, pxL72, pxL73, pxL74, pxL75, pxL76, pxL77, pxL78, pxL79, pxL80, pxL81, pxL82, pxL83, pxL84, pxL85, pxL86, pxL87, pxL88, pxL89, pxL90, pxL91, pxL92, pxL93, pxL94, pxL95, pxL96, pxL97, pxL98, pxL99, pxL100, pxL101, pxL102, pxL103, pxL104, pxL105, pxL106, pxL107, pxL108, pxL109, pxL110, pxL111, pxL112, pxL113, pxL114, pxL115, pxL116, pxL117, pxL118, pxL119, pxL120, pxL121, pxL122, pxL123, pxL124, pxL125, pxL126, pxL200, pxL240, pxL287, pxL388, pxL400, pxL429, pxL431, pxL440, pxL1240, pxL1600, pxL1681, pxL12028, pxL13849, pxL14880, pxL25173, pxL26908, pxL49600, pxL65535, pxL65536, ↓reduceIte, pxJ_add, pxJ_sub, pxJ_mul, pxJ_neg, pxD_lt_t, pxD_lt_f, pxD_le_t, pxD_le_f, pxD_eq_t, pxD_eq_f, pxJ_lt, pxJ_le, pxJ_eq, px_gI, px_gR, px_pI, px_rc, px_ai, px_ar, px_si, px_ln, px_cp, pxJ_div, pxJ_b8, pxJ_byte, px_b2, px_bs, px_rb0, px_rb1, px_min, px_max, px_compare, pxW_some, jw_t_I, px_cpt, jw_r_I, px_cpr, jw_l_I, px_cpl, Option.some.injEq, ps, pk, ba, ra, ra', w1]
    · rw [if_neg c0] at ba
      have es : pxWh s p = (true, p, 0, 0) := by unfold pxWh; rw [if_neg c37, if_neg c0]
      rw [es]
      refine ⟨fun _ => ⟨h, ?_, pxF.rfl, hp, zo, fun z => ?_, fun z => ?_, by omega, by dsimp only; omega, fun f hf => rfl, fun f => rfl⟩, fun z => (by cases z)⟩
      · simp (disch := first | assumption | omega | (simp only [jw_t_I, px_cpt]; done) | (simp only [jw_t_I, px_cpt]; omega)) only [pxL0, pxL1, pxL2, pxL3, pxL4, pxL5, pxL6, pxL7, pxL8, pxL9, pxL10, pxL11, pxL12, pxL13, pxL14, pxL15, pxL16, pxL17, pxL18, pxL19, pxL20, pxL21, pxL22, pxL23, pxL24, pxL25, pxL26, pxL27, pxL28, pxL29, pxL30, pxL31, pxL32, pxL33, pxL34, pxL35, pxL36, pxL37, pxL38, pxL39, pxL40, pxL41, pxL42, pxL43, pxL44, pxL45, pxL46, pxL47, pxL48, pxL49, pxL51, pxL57, pxL58, pxL59, pxL60, pxL61, pxL62, pxL63, pxL64, pxL65, pxL66, pxL67, pxL68, pxL69, pxL70, pxL71, pxL72, pxL73, pxL74, pxL75, pxL76, pxL77, pxL78, pxL79, pxL80, pxL81, pxL82, pxL83, pxL84, pxL85, pxL86, pxL87, pxL88, pxL89, pxL90, pxL91, pxL92, pxL93, pxL94, pxL95, pxL96, pxL97, pxL98, pxL99, pxL100, pxL101, pxL102, pxL103, pxL104, pxL105, pxL106, pxL107, pxL108, pxL109, pxL110, pxL111, pxL112, pxL113, pxL114, pxL115, pxL116, pxL117, pxL118, pxL119, pxL120, pxL121, pxL122, pxL123, pxL124, pxL125, pxL126, pxL200, pxL240, pxL287, pxL388, pxL400, pxL429, pxL431, pxL440, pxL1240, pxL1600, pxL1681, pxL12028, pxL13849, pxL14880, pxL25173, pxL26908, pxL49600, pxL65535, pxL65536, ↓reduceIte, pxJ_add, pxJ_sub, pxJ_mul, pxJ_neg, pxD_lt_t, pxD_lt_f, pxD_le_t, pxD_le_f, pxD_eq_t, pxD_eq_f, pxJ_lt, pxJ_le, pxJ_eq, px_gI, px_gR, px_pI, px_rc, px_ai, px_ar, px_si, px_ln, px_cp, pxJ_div, pxJ_b8, pxJ_byte, px_b2, px_bs, px_rb0, px_rb1, px_min, px_max, px_compare, pxW_some, jw_t_I, px_cpt, jw_r_I, px_cpr, jw_l_I, px_cpl, Option.some.injEq, ps, pk, ba]
      · dsimp only at z; omega
      · dsimp only at z; omega
end
