/-! addresses -/
theorem pxNumV_b {s : List Int} {p : Int} (h : (pxNum s p).1 = true) : 0 ≤ pxNumV s p ∧ pxNumV s p ≤ 99 := by
  unfold pxNum at h
  by_cases d : pxIsDg (pxP s p) = true
  · have d' := pxIsDg_i.mp d
    unfold pxNumV
    by_cases d2 : pxIsDg (pxP s (p + 1)) = true
    · have d2' := pxIsDg_i.mp d2
      rw [if_pos d2]; omega
    · rw [if_neg d2]; omega
  · rw [if_neg d] at h; cases h
theorem pxNum_b {s : List Int} {p : Int} (h0 : 0 ≤ p) (h1 : p ≤ s.length) : p ≤ (pxNum s p).2 ∧ (pxNum s p).2 ≤ s.length ∧ (pxNum s p).2 ≤ p + 2 ∧ ((pxNum s p).1 = true → p < (pxNum s p).2 ∧ pxIsDg (pxP s p) = true) ∧ ((pxNum s p).1 = false → (pxNum s p).2 = p) := by
  have lt : ∀ q : Int, pxIsDg (pxP s q) = true → q + 1 ≤ s.length := fun q hq => by
    have d := pxIsDg_i.mp hq
    have := pxP_lt (s := s) (p := q) (by omega); omega
  unfold pxNum
  by_cases d : pxIsDg (pxP s p) = true
  · rw [if_pos d]
    have l := lt p d
    by_cases d2 : pxIsDg (pxP s (p + 1)) = true
    · have l2 := lt _ d2
      rw [if_pos d2]; exact ⟨by dsimp only; omega, by dsimp only; omega, by dsimp only; omega, fun _ => ⟨by dsimp only; omega, d⟩, fun z => by cases z⟩
    · rw [if_neg d2]; exact ⟨by dsimp only; omega, by dsimp only; omega, by dsimp only; omega, fun _ => ⟨by dsimp only; omega, d⟩, fun z => by cases z⟩
  · rw [if_neg d]; exact ⟨Int.le_refl _, h1, by dsimp only; omega, fun z => (by cases z), fun _ => rfl⟩
theorem pxShf_b {s : List Int} : ∀ (m : Nat) (p : Int), 0 ≤ p → p ≤ s.length → p ≤ (pxShf s m p).2.1 ∧ (pxShf s m p).2.1 ≤ s.length
  | 0, p, _, h1 => ⟨Int.le_refl _, h1⟩
  | m + 1, p, h0, h1 => by
    unfold pxShf
    by_cases c : pxP s p = 43 ∨ pxP s p = 45
    · have := pxP_lt (s := s) (p := p) (by omega)
      have nb := pxNum_b (s := s) (p := p + 1) (by omega) (by omega)
      rw [if_pos c]
      by_cases cn : (pxNum s (p + 1)).1 = true
      · rw [if_pos cn]
        have := pxShf_b m (pxNum s (p + 1)).2 (by omega) nb.2.1
        dsimp only; omega
      · rw [if_neg cn]; dsimp only; omega
    · rw [if_neg c]; exact ⟨Int.le_refl _, h1⟩
def pxQa (a : Nat) (e : Int) : Nat → Nat → Prop := fun k f => (k = 10 ∧ 5 ≤ f ∧ f ≠ 6) ∨ ((k = 252 ∨ k = 253) ∧ e ≤ f) ∨ k = a
/-- an address object holds the address that stands at p -/
def pxAd (h : jw_H) (s : List Int) (a : Nat) (p : Int) : Prop :=
  pxM h a 0 = (if pxIsDg (pxP s p) = true then 48 else pxP s p) ∧ pxM h a 2 = pxAddrS s p ∧ pxM h a 3 = (if pxP s (pxSpot s p).2 = 43 ∨ pxP s (pxSpot s p).2 = 45 then 1 else 0) ∧
  (pxIsDg (pxP s p) = true → pxM h a 1 = pxNumV s p) ∧ (pxP s p = 39 → pxM h a 1 = pxP s (p + 1) - 97 ∧ 97 ≤ pxP s (p + 1) ∧ pxP s (p + 1) ≤ 101) ∧
  (pxP s p = 47 ∨ pxP s p = 63 → 0 ≤ pxM h a 1 ∧ pxM h a 1 + (pxFull s (p + 1)).length ≤ pxM h 10 7 ∧ pxEls h s (pxM h a 1) (pxFull s (p + 1)))
theorem pxAd.fr {P : Nat → Nat → Prop} {h h' : jw_H} {s : List Int} {a : Nat} {p : Int} (H : pxAd h s a p) (F : pxF P h h') (ha : ∀ f, ¬ P a f) (he : ∀ (k f : Nat), (k = 252 ∨ k = 253) → f < pxM h 10 7 → ¬ P k f) (hl : pxM h 10 7 ≤ pxM h' 10 7) : pxAd h' s a p := by
  obtain ⟨a1, a2, a3, a4, a5, a6⟩ := H
  refine ⟨by rw [F.m (ha _)]; exact a1, by rw [F.m (ha _)]; exact a2, by rw [F.m (ha _)]; exact a3, fun z => by rw [F.m (ha _)]; exact a4 z, fun z => by rw [F.m (ha _)]; exact a5 z, fun z => ?_⟩
  obtain ⟨b1, b2, b3⟩ := a6 z
  rw [F.m (ha _)]
  exact ⟨b1, by omega, b3.fr F _ _ b1 (fun k f y1 y2 y3 => he k f y1 (by omega))⟩
section
variable {b : Nat} {s : List Int}
theorem s_X6_readAddress_b132 {a : Nat} (ha : 13 ≤ a ∧ a ≤ 251 ∧ a % 4 ≠ 0) : ∀ (m N : Nat) (h : jw_H) (q sh st : Int), s.length < q + m → m ≤ N → pxPG h b s → (jw_t h a).1 = 0 → pxM h 10 5 = q → pxM h a 2 = sh → 0 ≤ q → q ≤ s.length → 0 ≤ st → st ≤ q → -(99 * st) ≤ sh → sh ≤ 99 * st →
    ((pxShf s m q).1 = true → ∃ h', f_X6_readAddress_b132 N h 10 (some a) (pxJ st) = some (pxJ 1, h') ∧ pxF (fun k f => (k = 10 ∧ f = 5) ∨ (k = a ∧ (f = 2 ∨ f = 3))) h h' ∧ pxM h' 10 5 = (pxShf s m q).2.1 ∧ pxM h' a 2 = sh + (pxShf s m q).2.2 ∧ pxM h' a 3 = (if pxP s q = 43 ∨ pxP s q = 45 then 1 else pxM h a 3)) ∧
    ((pxShf s m q).1 = false → ∃ h', f_X6_readAddress_b132 N h 10 (some a) (pxJ st) = some (pxJ 0, h') ∧ pxF (fun k f => (k = 10 ∧ f = 5) ∨ (k = a ∧ (f = 2 ∨ f = 3))) h h' ∧ pxM h' 10 5 = (pxShf s m q).2.1) := by
  intro m
  induction m with
  | zero => intro N h q sh st hm; omega
  | succ m ih =>
    intro N h q sh st hm hN G ta hp hsh h0 h1 s0 s1 sh1 sh2
    obtain ⟨N, rfl, hN⟩ := px_fu hN
    have pk := s_X6_peek G hp h0
    have hin := pxP_in G.2.2.2.2.1 q
    have tg := G.1.1
    have n60 := G.2.2.2.2.1.1
    rw [u_X6_readAddress_b132]
    unfold g_X6_readAddress_b132
    unfold pxShf
    by_cases c : pxP s q = 43 ∨ pxP s q = 45
    · rw [if_pos c]
      have lt := pxP_lt (s := s) (p := q) (by omega)
      have G1 : pxPG (pxPl h (q + 1)) b s := pxPl_G G
      have tg1 : (jw_t (pxPl h (q + 1)) 10).1 = 6 := tg
      have hp1 : pxM (pxPl h (q + 1)) 10 5 = q + 1 := pxPl_p (by omega) (by omega)
      have rn := s_X6_readNumber G1 hp1 (by omega)
      rw [pxPl_2] at rn
      have nb := pxNum_b (s := s) (p := q + 1) (by omega) (by omega)
      have ee : jw_setI h 10 5 (pxJ (q + 1)) = pxPl h (q + 1) := rfl
      have dash : f_X6_readAddress_b132 (N + 1) h 10 (some a) (pxJ st) = g_X6_readAddress_b170 (f_X6_readAddress_b132 N) h 10 (some a) (pxJ st) (pxJ (if pxP s q = 45 then 1 else 0)) := by
        rw [u_X6_readAddress_b132]
        unfold g_X6_readAddress_b132 g_X6_readAddress_b156
        rcases c with c | c
        · rw [if_neg (show ¬ pxP s q = 45 by omega)]
          simp (disch := first | assumption | omega | (simp only [jw_t_I, px_cpt]; done) | (simp only [jw_t_I, px_cpt]; omega)) only [pxL0, pxL1, pxL2, pxL3, pxL4, pxL5, pxL6, pxL7, pxL8, pxL9, pxL10, pxL11, pxL12, pxL13, pxL14, pxL15, pxL16, pxL17, pxL18, pxL19, pxL20, pxL21, pxL22, pxL23, pxL24, pxL25, pxL26, pxL27, pxL28, pxL29, pxL30, pxL31, pxL32, pxL33, pxL34, pxL35, pxL36, pxL37, pxL38, pxL39, pxL40, pxL41, pxL42, pxL43, pxL44, pxL45, pxL46, pxL47, pxL48, pxL49, pxL51, pxL57, pxL58, pxL59, pxL60, pxL61, pxL62, pxL63, pxL64, pxL65, pxL66, pxL67, pxL68, pxL69, pxL70, pxL71, pxL72, pxL73, pxL74, pxL75, pxL76, pxL77, pxL78, pxL79, pxL80, pxL81, pxL82, pxL83, pxL84, pxL85, pxL86, pxL87, pxL88, pxL89, pxL90, pxL91, pxL92, pxL93, pxL94, pxL95, pxL96, pxL97, pxL98, pxL99, pxL100, pxL101, pxL102, pxL103, pxL104, pxL105, pxL106, pxL107, pxL108, pxL109, pxL110, pxL111, pxL112, pxL113, pxL114, pxL115, pxL116, pxL117, pxL118, pxL119, pxL120, pxL121, pxL122, pxL123, pxL124, pxL125, pxL126, pxL200, pxL240, pxL287, pxL388, pxL400, pxL429, pxL431, pxL440, pxL1240, pxL1600, pxL1681, pxL12028, pxL13849, pxL14880, pxL25173, pxL26908, pxL49600, pxL65535, pxL65536, ↓reduceIte, pxJ_add, pxJ_sub, pxJ_mul, pxJ_neg, pxD_lt_t, pxD_lt_f, pxD_le_t, pxD_le_f, pxD_eq_t, pxD_eq_f, pxJ_lt, pxJ_le, pxJ_eq, px_gI, px_gR, px_pI, px_rc, px_ai, px_ar, px_si, px_ln, px_cp, pxJ_div, pxJ_b8, pxJ_byte, px_b2, px_bs, px_rb0, px_rb1, px_min, px_max, px_compare, pxW_some, jw_t_I, px_cpt, jw_r_I, px_cpr, jw_l_I, px_cpl, Option.some.injEq, pk, c]
        · rw [if_pos c]
          simp (disch := first | assumption | omega | (simp only [jw_t_I, px_cpt]; done) | (simp only [jw_t_I, px_cpt]; omega)) only [pxL0, pxL1, pxL2, pxL3, pxL4, pxL5, pxL6, pxL7, pxL8, pxL9, pxL10, pxL11, pxL12, pxL13, pxL14, pxL15, pxL16, pxL17, pxL18, pxL19, pxL20, pxL21, pxL22, pxL23, pxL24, pxL25, pxL26, pxL27, pxL28, pxL29, pxL30, pxL31, pxL32, pxL33, pxL34, pxL35, pxL36, pxL37, pxL38, pxL39, pxL40, pxL41, pxL42, pxL43, pxL44, pxL45, pxL46, pxL47, pxL48, pxL49, pxL51, pxL57, pxL58, pxL59, pxL60, pxL61, pxL62, pxL63, pxL64, pxL65, pxL66, pxL67, pxL68, pxL69, pxL70, pxL71, pxL72, pxL73, pxL74, pxL75, pxL76, pxL77, pxL78, pxL79, pxL80, pxL81, pxL82, pxL83, pxL84, pxL85, pxL86, pxL87, pxL88, pxL89, pxL90, pxL91, pxL92, pxL93, pxL94, pxL95, pxL96, pxL97, pxL98, pxL99, pxL100, pxL101, pxL102, pxL103, pxL104, pxL105, pxL106, pxL107, pxL108, pxL109, pxL110, pxL111, pxL112, pxL113, pxL114, pxL115, pxL116, pxL117, pxL118, pxL119, pxL120, pxL121, pxL122, pxL123, pxL124, pxL125, pxL126, pxL200, pxL240, pxL287, pxL388, pxL400, pxL429, pxL431, pxL440, pxL1240, pxL1600, pxL1681, pxL12028, pxL13849, pxL14880, pxL25173, pxL26908, pxL49600, pxL65535, pxL65536, ↓reduceIte, pxJ_add, pxJ_sub, pxJ_mul, pxJ_neg, pxD_lt_t, pxD_lt_f, pxD_le_t, pxD_le_f, pxD_eq_t, pxD_eq_f, pxJ_lt, pxJ_le, pxJ_eq, px_gI, px_gR, px_pI, px_rc, px_ai, px_ar, px_si, px_ln, px_cp, pxJ_div, pxJ_b8, pxJ_byte, px_b2, px_bs, px_rb0, px_rb1, px_min, px_max, px_compare, pxW_some, jw_t_I, px_cpt, jw_r_I, px_cpr, jw_l_I, px_cpl, Option.some.injEq, pk, c]
      rw [u_X6_readAddress_b132] at dash
      unfold g_X6_readAddress_b132 at dash
      rw [dash]
      unfold g_X6_readAddress_b170 g_X6_readAddress_b214
      have F0 : pxF (fun k f => (k = 10 ∧ f = 5) ∨ (k = a ∧ (f = 2 ∨ f = 3))) h (pxPl h (pxNum s (q + 1)).2) := pxPl_F.mono (fun k f z => by omega)
      have hp2 : pxM (pxPl h (pxNum s (q + 1)).2) 10 5 = (pxNum s (q + 1)).2 := pxPl_p (by omega) (by omega)
      by_cases cn : (pxNum s (q + 1)).1 = true
      · rw [if_pos cn] at rn ⊢
        have vb := pxNumV_b cn
        have G2 : pxPG (pxPl h (pxNum s (q + 1)).2) b s := pxPl_G G
        have ta2 : (jw_t (pxPl h (pxNum s (q + 1)).2) a).1 = 0 := ta
        have hs2 : pxM (pxPl h (pxNum s (q + 1)).2) a 2 = sh := by rw [pxPl_n (by omega)]; exact hsh
        have step : ∀ d : Int, d = (if pxP s q = 45 then - pxNumV s (q + 1) else pxNumV s (q + 1)) →
            g_X6_readAddress_b170 (f_X6_readAddress_b132 N) h 10 (some a) (pxJ st) (pxJ (if pxP s q = 45 then 1 else 0)) = f_X6_readAddress_b132 N (jw_setI (jw_setI (pxPl h (pxNum s (q + 1)).2) a 2 (pxJ (sh + d))) a 3 (pxJ 1)) 10 (some a) (pxJ (st + 1)) := by
          intro d hd
          have pB := px_pB (h := jw_setI (pxPl h (pxNum s (q + 1)).2) a 2 (pxJ (sh + d))) (c := 0) (k := a) (f := 3) (v := pxJ 1) ta2 (Or.inr rfl)
          unfold g_X6_readAddress_b170 g_X6_readAddress_b214
          by_cases c45 : pxP s q = 45
          · simp only [if_pos c45] at hd ⊢
            rw [hd] at pB ⊢
            simp (disch := first | assumption | omega | (simp only [jw_t_I, px_cpt]; done) | (simp only [jw_t_I, px_cpt]; omega)) only [pxL0, pxL1, pxL2, pxL3, pxL4, pxL5, pxL6, pxL7, pxL8, pxL9, pxL10, pxL11, pxL12, pxL13, pxL14, pxL15, pxL16, pxL17, pxL18, pxL19, pxL20, pxL21, pxL22, pxL23, pxL24, pxL25, pxL26, pxL27, pxL28, pxL29, pxL30, pxL31, pxL32, pxL33, pxL34, pxL35, pxL36, pxL37, pxL38, pxL39, pxL40, pxL41, pxL42, pxL43, pxL44, pxL45, pxL46, pxL47, pxL48, pxL49, pxL51, pxL57, pxL58, pxL59, pxL60, pxL61, pxL62, pxL63, pxL64, pxL65, pxL66, pxL67, pxL68, pxL69, pxL70, pxL71, pxL72, pxL73, pxL74, pxL75, pxL76, pxL77, pxL78, pxL79, pxL80, pxL81, pxL82, pxL83, pxL84, pxL85, pxL86, pxL87, pxL88, pxL89, pxL90, pxL91, pxL92, pxL93, pxL94, pxL95, pxL96, pxL97, pxL98, pxL99, pxL100, pxL101, pxL102, pxL103, pxL104, pxL105, pxL106, pxL107, pxL108, pxL109, pxL110, pxL111, pxL112, pxL113, pxL114, pxL115, pxL116, pxL117, pxL118, pxL119, pxL120, pxL121, pxL122, pxL123, pxL124, pxL125, pxL126, pxL200, pxL240, pxL287, pxL388, pxL400, pxL429, pxL431, pxL440, pxL1240, pxL1600, pxL1681, pxL12028, pxL13849, pxL14880, pxL25173, pxL26908, pxL49600, pxL65535, pxL65536, ↓reduceIte, pxJ_add, pxJ_sub, pxJ_mul, pxJ_neg, pxD_lt_t, pxD_lt_f, pxD_le_t, pxD_le_f, pxD_eq_t, pxD_eq_f, pxJ_lt, pxJ_le, pxJ_eq, px_gI, px_gR, px_pI, px_rc, px_ai, px_ar, px_si, px_ln, px_cp, pxJ_div, pxJ_b8, pxJ_byte, px_b2, px_bs, px_rb0, px_rb1, px_min, px_max, px_compare, pxW_some, jw_t_I, px_cpt, jw_r_I, px_cpr, jw_l_I, px_cpl, Option.some.injEq, hp, ee, rn, hs2, pB]
          · simp only [if_neg c45] at hd ⊢
            rw [hd] at pB ⊢
            simp (disch := first | assumption | omega | (simp only [jw_t_I, px_cpt]; done) | (simp only [jw_t_I, px_cpt]; omega)) only [pxL0, pxL1, pxL2, pxL3, pxL4, pxL5, pxL6, pxL7, pxL8, pxL9, pxL10, pxL11, pxL12, pxL13, pxL14, pxL15, pxL16, pxL17, pxL18, pxL19, pxL20, pxL21, pxL22, pxL23, pxL24, pxL25, pxL26, pxL27, pxL28, pxL29, pxL30, pxL31, pxL32, pxL33, pxL34, pxL35, pxL36, pxL37, pxL38, pxL39, pxL40, pxL41, pxL42, pxL43, pxL44, pxL45, pxL46, pxL47, pxL48, pxL49, pxL51, pxL57, pxL58, pxL59, pxL60, pxL61, pxL62, pxL63, pxL64, pxL65, pxL66, pxL67, pxL68, pxL69, pxL70, pxL71, pxL72, pxL73, pxL74, pxL75, pxL76, pxL77, pxL78, pxL79, pxL80, pxL81, pxL82, pxL83, pxL84, pxL85, pxL86, pxL87, pxL88, pxL89, pxL90, pxL91, pxL92, pxL93, pxL94, pxL95, pxL96, pxL97, pxL98, pxL99, pxL100, pxL101, pxL102, pxL103, pxL104, pxL105, pxL106, pxL107, pxL108, pxL109, pxL110, pxL111, pxL112, pxL113, pxL114, pxL115, pxL116, pxL117, pxL118, pxL119, pxL120, pxL121, pxL122, pxL123, pxL124, pxL125, pxL126, pxL200, pxL240, pxL287, pxL388, pxL400, pxL429, pxL431, pxL440, pxL1240, pxL1600, pxL1681, pxL12028, pxL13849, pxL14880, pxL25173, pxL26908, pxL49600, pxL65535, pxL65536, ↓reduceIte, pxJ_add, pxJ_sub, pxJ_mul, pxJ_neg, pxD_lt_t, pxD_lt_f, pxD_le_t, pxD_le_f, pxD_eq_t, pxD_eq_f, pxJ_lt, pxJ_le, pxJ_eq, px_gI, px_gR, px_pI, px_rc, px_ai, px_ar, px_si, px_ln, px_cp, pxJ_div, pxJ_b8, pxJ_byte, px_b2, px_bs, px_rb0, px_rb1, px_min, px_max, px_compare, pxW_some, jw_t_I, px_cpt, jw_r_I, px_cpr, jw_l_I, px_cpl, Option.some.injEq, hp, ee, rn, hs2, pB]
        have st' := step _ rfl
        unfold g_X6_readAddress_b170 g_X6_readAddress_b214 at st'
        rw [st']
        have hd1 : -99 ≤ (if pxP s q = 45 then - pxNumV s (q + 1) else pxNumV s (q + 1)) ∧ (if pxP s q = 45 then - pxNumV s (q + 1) else pxNumV s (q + 1)) ≤ 99 := by split <;> omega
        have F3 : pxF (fun k f => (k = 10 ∧ f = 5) ∨ (k = a ∧ (f = 2 ∨ f = 3))) h (jw_setI (jw_setI (pxPl h (pxNum s (q + 1)).2) a 2 (pxJ (sh + (if pxP s q = 45 then - pxNumV s (q + 1) else pxNumV s (q + 1))))) a 3 (pxJ 1)) := (F0.trans (pxF.setI (by omega))).trans (pxF.setI (by omega))
        have G3 := G.fr F3 (fun k f z => by omega)
        obtain ⟨z1, z2⟩ := ih N (jw_setI (jw_setI (pxPl h (pxNum s (q + 1)).2) a 2 (pxJ (sh + (if pxP s q = 45 then - pxNumV s (q + 1) else pxNumV s (q + 1))))) a 3 (pxJ 1)) (pxNum s (q + 1)).2 (sh + (if pxP s q = 45 then - pxNumV s (q + 1) else pxNumV s (q + 1))) (st + 1) (by omega) (by omega) G3 ta (by rw [pxM_ne (by omega), pxM_ne (by omega)]; exact hp2) (by rw [pxM_ne (by omega), pxM_eq (by omega) (by omega)]) (by omega) nb.2.1 (by omega) (by omega) (by omega) (by omega)
        refine ⟨fun z => ?_, fun z => ?_⟩
        · obtain ⟨h', y1, y2, y3, y4, y5⟩ := z1 z
          refine ⟨h', y1, F3.trans y2, y3, by rw [y4]; dsimp only; omega, ?_⟩
          rw [y5, if_pos c]
          split
          · rfl
          · exact pxM_eq (by omega) (by omega)
        · obtain ⟨h', y1, y2, y3⟩ := z2 z
          exact ⟨h', y1, F3.trans y2, y3⟩
      · rw [if_neg cn] at rn ⊢
        refine ⟨fun z => (by cases z), fun _ => ⟨pxPl h (pxNum s (q + 1)).2, ?_, F0, hp2⟩⟩
        simp (disch := first | assumption | omega | (simp only [jw_t_I, px_cpt]; done) | (simp only [jw_t_I, px_cpt]; omega)) only [pxL0, pxL1, pxL2, pxL3, pxL4, pxL5, pxL6, pxL7, pxL8, pxL9, pxL10, pxL11, pxL12, pxL13, pxL14, pxL15, pxL16, pxL17, pxL18, pxL19, pxL20, pxL21, pxL22, pxL23, pxL24, pxL25, pxL26, pxL27, pxL28, pxL29, pxL30, pxL31, pxL32, pxL33, pxL34, pxL35, pxL36, pxL37, pxL38, pxL39, pxL40, pxL41, pxL42, pxL43, pxL44, pxL45, pxL46, pxL47, pxL48, pxL49, pxL51, pxL57, pxL58, pxL59, pxL60, pxL61, pxL62, pxL63, pxL64, pxL65, pxL66, pxL67, pxL68, pxL69, pxL70, pxL71, pxL72, pxL73, pxL74, pxL75, pxL76, pxL77, pxL78, pxL79, pxL80, pxL81, pxL82, pxL83, pxL84, pxL85, pxL86, pxL87, pxL88, pxL89, pxL90, pxL91, pxL92, pxL93, pxL94, pxL95, pxL96, pxL97, pxL98, pxL99, pxL100, pxL101, pxL102, pxL103, pxL104, pxL105, pxL106, pxL107, pxL108, pxL109, pxL110, pxL111, pxL112, pxL113, pxL114, pxL115, pxL116, pxL117, pxL118, pxL119, pxL120, pxL121, pxL122, pxL123, pxL124, pxL125, pxL126, pxL200, pxL240, pxL287, pxL388, pxL400, pxL429, pxL431, pxL440, pxL1240, pxL1600, pxL1681, pxL12028, pxL13849, pxL14880, pxL25173, pxL26908, pxL49600, pxL65535, pxL65536, ↓reduceIte, pxJ_add, pxJ_sub, pxJ_mul, pxJ_neg, pxD_lt_t, pxD_lt_f, pxD_le_t, pxD_le_f, pxD_eq_t, pxD_eq_f, pxJ_lt, pxJ_le, pxJ_eq, px_gI, px_gR, px_pI, px_rc, px_ai, px_ar, px_si, px_ln, px_cp, pxJ_div, pxJ_b8, pxJ_byte, px_b2, px_bs, px_rb0, px_rb1, px_min, px_max, px_compare, pxW_some, jw_t_I, px_cpt, jw_r_I, px_cpr, jw_l_I, px_cpl, Option.some.injEq, hp, ee, rn]
    · rw [if_neg c]
      refine ⟨fun _ => ⟨h, ?_, pxF.rfl, hp, by rw [hsh]; dsimp only; omega, by rw [if_neg c]⟩, fun z => (by cases z)⟩
      by_cases c60 : 60 ≤ st
      · simp (disch := first | assumption | omega | (simp only [jw_t_I, px_cpt]; done) | (simp only [jw_t_I, px_cpt]; omega)) only [pxL0, pxL1, pxL2, pxL3, pxL4, pxL5, pxL6, pxL7, pxL8, pxL9, pxL10, pxL11, pxL12, pxL13, pxL14, pxL15, pxL16, pxL17, pxL18, pxL19, pxL20, pxL21, pxL22, pxL23, pxL24, pxL25, pxL26, pxL27, pxL28, pxL29, pxL30, pxL31, pxL32, pxL33, pxL34, pxL35, pxL36, pxL37, pxL38, pxL39, pxL40, pxL41, pxL42, pxL43, pxL44, pxL45, pxL46, pxL47, pxL48, pxL49, pxL51, pxL57, pxL58, pxL59, pxL60, pxL61, pxL62, pxL63, pxL64, pxL65, pxL66, pxL67, pxL68, pxL69, pxL70, pxL71, pxL72, pxL73, pxL74, pxL75, pxL76, pxL77, pxL78, pxL79, pxL80, pxL81, pxL82, pxL83, pxL84, pxL85, pxL86, pxL87, pxL88, pxL89, pxL90, pxL91, pxL92, pxL93, pxL94, pxL95, pxL96, pxL97, pxL98, pxL99, pxL100, pxL101, pxL102, pxL103, pxL104, pxL105, pxL106, pxL107, pxL108, pxL109, pxL110, pxL111, pxL112, pxL113, pxL114, pxL115, pxL116, pxL117, pxL118, pxL119, pxL120, pxL121, pxL122, pxL123, pxL124, pxL125, pxL126, pxL200, pxL240, pxL287, pxL388, pxL400, pxL429, pxL431, pxL440, pxL1240, pxL1600, pxL1681, pxL12028, pxL13849, pxL14880, pxL25173, pxL26908, pxL49600, pxL65535, pxL65536, ↓reduceIte, pxJ_add, pxJ_sub, pxJ_mul, pxJ_neg, pxD_lt_t, pxD_lt_f, pxD_le_t, pxD_le_f, pxD_eq_t, pxD_eq_f, pxJ_lt, pxJ_le, pxJ_eq, px_gI, px_gR, px_pI, px_rc, px_ai, px_ar, px_si, px_ln, px_cp, pxJ_div, pxJ_b8, pxJ_byte, px_b2, px_bs, px_rb0, px_rb1, px_min, px_max, px_compare, pxW_some, jw_t_I, px_cpt, jw_r_I, px_cpr, jw_l_I, px_cpl, Option.some.injEq]
      · simp (disch := first | assumption | omega | (simp only [jw_t_I, px_cpt]; done) | (simp only [jw_t_I, px_cpt]; omega)) only [pxL0, pxL1, pxL2, pxL3, pxL4, pxL5, pxL6, pxL7, pxL8, pxL9, pxL10, pxL11, pxL12, pxL13, pxL14, pxL15, pxL16, pxL17, pxL18, pxL19, pxL20, pxL21, pxL22, pxL23, pxL24, pxL25, pxL26, pxL27, pxL28, pxL29, pxL30, pxL31, pxL32, pxL33, pxL34, pxL35, pxL36, pxL37, pxL38, pxL39, pxL40, pxL41, pxL42, pxL43, pxL44, pxL45, pxL46, pxL47, pxL48, pxL49, pxL51, pxL57, pxL58, pxL59, pxL60, pxL61, pxL62, pxL63, pxL64, pxL65, pxL66, pxL67, pxL68, pxL69, pxL70, pxL71, pxL72, pxL73, pxL74, pxL75, pxL76, pxL77, pxL78, pxL79, pxL80, pxL81, pxL82, pxL83, pxL84, pxL85, pxL86, pxL87, pxL88, pxL89, pxL90, pxL91, pxL92, pxL93, pxL94, pxL95, pxL96, pxL97, pxL98, pxL99, pxL100, pxL101, pxL102, pxL103, pxL104, pxL105, pxL106, pxL107, pxL108, pxL109, pxL110, pxL111, pxL112, pxL113, pxL114, pxL115, pxL116, pxL117, pxL118, pxL119, pxL120, pxL121, pxL122, pxL123, pxL124, pxL125, pxL126, pxL200, pxL240, pxL287, pxL388, pxL400, pxL429, pxL431, pxL440, pxL1240, pxL1600, pxL1681, pxL12028, pxL13849, pxL14880, pxL25173, pxL26908, pxL49600, pxL65535, pxL65536, ↓reduceIte, pxJ_add, pxJ_sub, pxJ_mul, pxJ_neg, pxD_lt_t, pxD_lt_f, pxD_le_t, pxD_le_f, pxD_eq_t, pxD_eq_f, pxJ_lt, pxJ_le, pxJ_eq, px_gI, px_gR, px_pI, px_rc, px_ai, px_ar, px_si, px_ln, px_cp, pxJ_div, pxJ_b8, pxJ_byte, px_b2, px_bs, px_rb0, px_rb1, px_min, px_max, px_compare, pxW_some, jw_t_I, px_cpt, jw_r_I, px_cpr, jw_l_I, px_cpl, Option.some.injEq, pk]
end
