/-! an address is read -/
theorem pxSpot0_i {c : Int} : pxSpot0 c = true ↔ ((48 ≤ c ∧ c ≤ 57) ∨ c = 46 ∨ c = 36 ∨ c = 39 ∨ c = 47 ∨ c = 63) := by
  unfold pxSpot0
  rw [Bool.or_eq_true, pxIsDg_i, decide_eq_true_iff]
theorem pxSpot_b {s : List Int} {p : Int} (h0 : 0 ≤ p) (h1 : p ≤ s.length) : p ≤ (pxSpot s p).2 ∧ (pxSpot s p).2 ≤ s.length ∧ ((pxSpot s p).1 = true → p < (pxSpot s p).2 ∧ pxSpot0 (pxP s p) = true) := by
  have lt : ∀ q : Int, pxP s q ≠ -1 → q + 1 ≤ s.length := fun q hq => by have := pxP_lt hq; omega
  unfold pxSpot
  by_cases c1 : pxIsDg (pxP s p) = true
  · rw [if_pos c1]
    have nb := pxNum_b h0 h1
    exact ⟨nb.1, nb.2.1, fun z => ⟨(nb.2.2.2.1 z).1, pxSpot0_i.mpr (Or.inl (pxIsDg_i.mp c1))⟩⟩
  rw [if_neg c1]
  by_cases c2 : pxP s p = 39
  · have l := lt p (by omega)
    rw [if_pos c2]
    by_cases c3 : 97 ≤ pxP s (p + 1) ∧ pxP s (p + 1) ≤ 101
    · have l2 := lt (p + 1) (by omega)
      rw [if_pos c3]; exact ⟨by dsimp only; omega, by dsimp only; omega, fun _ => ⟨by dsimp only; omega, pxSpot0_i.mpr (by omega)⟩⟩
    · rw [if_neg c3]; exact ⟨by dsimp only; omega, by dsimp only; omega, fun z => by cases z⟩
  rw [if_neg c2]
  by_cases c3 : pxP s p = 47 ∨ pxP s p = 63
  · have l := lt p (by omega)
    have pb := pxPat_b (s := s) (p := p + 1) (by omega) l
    rw [if_pos c3]
    by_cases c4 : (pxPat s (p + 1)).1 = true
    · rw [if_pos c4]
      by_cases c5 : pxP s (pxPat s (p + 1)).2 = pxP s p
      · have l2 := lt (pxPat s (p + 1)).2 (by omega)
        rw [if_pos c5]; exact ⟨by dsimp only; omega, l2, fun _ => ⟨by dsimp only; omega, pxSpot0_i.mpr (by omega)⟩⟩
      · rw [if_neg c5]; exact ⟨by dsimp only; omega, pb.2.1, fun z => by cases z⟩
    · rw [if_neg c4]; exact ⟨by dsimp only; omega, pb.2.1, fun z => by cases z⟩
  rw [if_neg c3]
  by_cases c4 : pxP s p = 46 ∨ pxP s p = 36
  · have l := lt p (by omega)
    rw [if_pos c4]; exact ⟨by dsimp only; omega, l, fun _ => ⟨by dsimp only; omega, pxSpot0_i.mpr (by omega)⟩⟩
  · rw [if_neg c4]; exact ⟨Int.le_refl _, h1, fun z => by cases z⟩
theorem pxAddr_b {s : List Int} {p : Int} (h0 : 0 ≤ p) (h1 : p ≤ s.length) : p ≤ (pxAddr s p).2 ∧ (pxAddr s p).2 ≤ s.length ∧ ((pxAddr s p).1 = true → p < (pxAddr s p).2 ∧ pxSpot0 (pxP s p) = true) := by
  have sb := pxSpot_b h0 h1
  unfold pxAddr
  by_cases c : (pxSpot s p).1 = true
  · rw [if_pos c]
    have := pxShf_b 61 (pxSpot s p).2 (by omega) sb.2.1
    have z := sb.2.2 c
    exact ⟨by dsimp only; omega, this.2, fun _ => ⟨by dsimp only; omega, z.2⟩⟩
  · rw [if_neg c]; exact ⟨sb.1, sb.2.1, fun z => absurd z c⟩
section
variable {h : jw_H} {b : Nat} {s : List Int}
theorem s_X6_readAddress {a : Nat} {p e : Int} (ha : 13 ≤ a ∧ a ≤ 251 ∧ a % 4 ≠ 0) (G : pxPG h b s) (ta : (jw_t h a).1 = 0) (hp : pxM h 10 5 = p) (he : pxM h 10 7 = e) (h0 : 0 ≤ p) (h1 : p ≤ s.length) (e0 : 0 ≤ e) (e1 : e ≤ 2 * p) (z1 : pxM h a 1 = 0) (z2 : pxM h a 2 = 0) (z3 : pxM h a 3 = 0) :
    ((pxAddr s p).1 = true → ∃ h', f_X6_readAddress h 10 (some a) = some (pxJ 1, h') ∧ pxF (pxQa a e) h h' ∧ pxM h' 10 5 = (pxAddr s p).2 ∧ pxAd h' s a p ∧ e ≤ pxM h' 10 7 ∧ pxM h' 10 7 ≤ 2 * (pxAddr s p).2) ∧
    ((pxAddr s p).1 = false → ∃ h', f_X6_readAddress h 10 (some a) = some (pxJ 0, h') ∧ pxF (pxQa a e) h h' ∧ pxM h' 10 5 = (pxAddr s p).2) := by
  have pk := s_X6_peek G hp h0
  have hin := pxP_in G.2.2.2.2.1 p
  have tg := G.1.1
  have n60 := G.2.2.2.2.1.1
  have ba := s_X6_beginsAddress (h := h) (c := pxP s p) (by omega) (by omega)
  have sb := pxSpot_b h0 h1
  have FG : ∀ {h' : jw_H}, pxF (pxQa a e) h h' → pxPG h' b s := fun F => G.fr F (fun k f q => by unfold pxQa; omega)
  -- behind the spot
  have key : ∀ h5 : jw_H, (pxSpot s p).1 = true → pxF (pxQa a e) h h5 → pxM h5 10 5 = (pxSpot s p).2 → e ≤ pxM h5 10 7 → pxM h5 10 7 ≤ 2 * (pxSpot s p).2 → pxM h5 a 0 = (if pxIsDg (pxP s p) = true then 48 else pxP s p) → pxM h5 a 2 = 0 → pxM h5 a 3 = 0 →
      (pxIsDg (pxP s p) = true → pxM h5 a 1 = pxNumV s p) → (pxP s p = 39 → pxM h5 a 1 = pxP s (p + 1) - 97 ∧ 97 ≤ pxP s (p + 1) ∧ pxP s (p + 1) ≤ 101) → (pxP s p = 47 ∨ pxP s p = 63 → 0 ≤ pxM h5 a 1 ∧ pxM h5 a 1 + (pxFull s (p + 1)).length ≤ pxM h5 10 7 ∧ pxEls h5 s (pxM h5 a 1) (pxFull s (p + 1))) →
      f_X6_readAddress h 10 (some a) = f_X6_readAddress_b132 jw_FU h5 10 (some a) (pxJ 0) →
      ((pxAddr s p).1 = true → ∃ h', f_X6_readAddress h 10 (some a) = some (pxJ 1, h') ∧ pxF (pxQa a e) h h' ∧ pxM h' 10 5 = (pxAddr s p).2 ∧ pxAd h' s a p ∧ e ≤ pxM h' 10 7 ∧ pxM h' 10 7 ≤ 2 * (pxAddr s p).2) ∧
      ((pxAddr s p).1 = false → ∃ h', f_X6_readAddress h 10 (some a) = some (pxJ 0, h') ∧ pxF (pxQa a e) h h' ∧ pxM h' 10 5 = (pxAddr s p).2) := by
    intro h5 hs F5 hp5 he5 he6 k0 k2 k3 v1 v2 v3 eq
    have G5 := FG F5
    have ta5 : (jw_t h5 a).1 = 0 := by rw [F5.t]; exact ta
    obtain ⟨y1, y2⟩ := s_X6_readAddress_b132 ha 61 jw_FU h5 (pxSpot s p).2 0 0 (by omega) (by unfold jw_FU; omega) G5 ta5 hp5 k2 (by omega) sb.2.1 (by omega) (by omega) (by omega) (by omega)
    have eA : pxAddr s p = ((pxShf s 61 (pxSpot s p).2).1, (pxShf s 61 (pxSpot s p).2).2.1) := by unfold pxAddr; rw [if_pos hs]
    have sf := pxShf_b 61 (pxSpot s p).2 (by omega) sb.2.1
    rw [eA, eq]
    refine ⟨fun z => ?_, fun z => ?_⟩
    · obtain ⟨h', w1, w2, w3, w4, w5⟩ := y1 z
      have F6 : pxF (pxQa a e) h h' := F5.trans (w2.mono (fun k f q => by unfold pxQa; omega))
      have e7 : pxM h' 10 7 = pxM h5 10 7 := w2.m (by omega)
      refine ⟨h', w1, F6, w3, ⟨?_, ?_, ?_, fun q => ?_, fun q => ?_, fun q => ?_⟩, by rw [e7]; exact he5, by rw [e7]; dsimp only; omega⟩
      · rw [w2.m (by omega)]; exact k0
      · rw [w4]; unfold pxAddrS; omega
      · rw [w5, k3]
      · rw [w2.m (by omega)]; exact v1 q
      · rw [w2.m (by omega)]; exact v2 q
      · rw [w2.m (by omega), e7]
        exact ⟨(v3 q).1, (v3 q).2.1, (v3 q).2.2.fr w2 _ _ (v3 q).1 (fun k f q1 q2 q3 => by omega)⟩
    · obtain ⟨h', w1, w2, w3⟩ := y2 z
      exact ⟨h', w1, F5.trans (w2.mono (fun k f q => by unfold pxQa; omega)), w3⟩
  have fail : (pxSpot s p).1 = false → (∃ h', f_X6_readAddress h 10 (some a) = some (pxJ 0, h') ∧ pxF (pxQa a e) h h' ∧ pxM h' 10 5 = (pxSpot s p).2) →
      ((pxAddr s p).1 = true → ∃ h', f_X6_readAddress h 10 (some a) = some (pxJ 1, h') ∧ pxF (pxQa a e) h h' ∧ pxM h' 10 5 = (pxAddr s p).2 ∧ pxAd h' s a p ∧ e ≤ pxM h' 10 7 ∧ pxM h' 10 7 ≤ 2 * (pxAddr s p).2) ∧
      ((pxAddr s p).1 = false → ∃ h', f_X6_readAddress h 10 (some a) = some (pxJ 0, h') ∧ pxF (pxQa a e) h h' ∧ pxM h' 10 5 = (pxAddr s p).2) := by
    intro hs hx
    have eA : pxAddr s p = pxSpot s p := by unfold pxAddr; rw [if_neg (by rw [hs]; simp)]
    rw [eA]
    exact ⟨fun z => (by rw [hs] at z; cases z), fun _ => hx⟩
  -- the sign is noted as the kind
  have F8 : pxF (pxQa a e) h (jw_setI h a 0 (pxJ (pxP s p))) := pxF.setI (by unfold pxQa; omega)
  have G8 := FG F8
  have tg8 : (jw_t (jw_setI h a 0 (pxJ (pxP s p))) 10).1 = 6 := tg
  have ta8 : (jw_t (jw_setI h a 0 (pxJ (pxP s p))) a).1 = 0 := ta
  have hp8 : pxM (jw_setI h a 0 (pxJ (pxP s p))) 10 5 = p := by rw [pxM_ne (by omega)]; exact hp
  have he8 : pxM (jw_setI h a 0 (pxJ (pxP s p))) 10 7 = e := by rw [pxM_ne (by omega)]; exact he
  by_cases c0 : pxSpot0 (pxP s p) = true
  · rw [if_pos c0] at ba
    have c0' := pxSpot0_i.mp c0
    have lt := pxP_lt (s := s) (p := p) (by omega)
    by_cases cd : pxIsDg (pxP s p) = true
    · -- a number
      have cd' := pxIsDg_i.mp cd
      have es : pxSpot s p = pxNum s p := by unfold pxSpot; rw [if_pos cd]
      have hn : (pxNum s p).1 = true := by unfold pxNum; rw [if_pos cd]
      have vb := pxNumV_b hn
      have F9 : pxF (pxQa a e) h (jw_setI (jw_setI h a 0 (pxJ (pxP s p))) a 0 (pxJ 48)) := F8.trans (pxF.setI (by unfold pxQa; omega))
      have G9 := FG F9
      have hp9 : pxM (jw_setI (jw_setI h a 0 (pxJ (pxP s p))) a 0 (pxJ 48)) 10 5 = p := by rw [pxM_ne (by omega)]; exact hp8
      have rn := s_X6_readNumber G9 hp9 h0
      rw [if_pos hn] at rn
      have F10 : pxF (pxQa a e) h (jw_setI (pxPl (jw_setI (jw_setI h a 0 (pxJ (pxP s p))) a 0 (pxJ 48)) (pxNum s p).2) a 1 (pxJ (pxNumV s p))) := (F9.trans (pxPl_F.mono (fun k f q => by unfold pxQa; omega))).trans (pxF.setI (by unfold pxQa; omega))
      have ta10 : (jw_t (pxPl (jw_setI (jw_setI h a 0 (pxJ (pxP s p))) a 0 (pxJ 48)) (pxNum s p).2) a).1 = 0 := ta
      have ta11 : (jw_t (jw_setI (pxPl (jw_setI (jw_setI h a 0 (pxJ (pxP s p))) a 0 (pxJ 48)) (pxNum s p).2) a 1 (pxJ (pxNumV s p))) a).1 = 0 := ta
      have nb := pxNum_b h0 h1
      have nbl := nb.2.2.2.1 hn
      have v11 : pxM (jw_setI (pxPl (jw_setI (jw_setI h a 0 (pxJ (pxP s p))) a 0 (pxJ 48)) (pxNum s p).2) a 1 (pxJ (pxNumV s p))) a 1 = pxNumV s p := pxM_eq (by omega) (by omega)
      refine key (jw_setI (pxPl (jw_setI (jw_setI h a 0 (pxJ (pxP s p))) a 0 (pxJ 48)) (pxNum s p).2) a 1 (pxJ (pxNumV s p))) (by rw [es]; exact hn) F10 ?_ ?_ ?_ ?_ ?_ ?_ (fun _ => v11) (fun q => by omega) (fun q => by omega) ?_
      · rw [pxM_ne (by omega), pxPl_p (by omega) (by omega), es]
      · rw [pxM_ne (by omega), pxPl_n (by omega), pxM_ne (by omega), he8]; exact Int.le_refl _
      · rw [pxM_ne (by omega), pxPl_n (by omega), pxM_ne (by omega), he8, es]; omega
      · rw [pxM_ne (by omega), pxPl_n (by omega), pxM_eq (by omega) (by omega), if_pos cd]
      · rw [pxM_ne (by omega), pxPl_n (by omega), pxM_ne (by omega), pxM_ne (by omega)]; exact z2
      · rw [pxM_ne (by omega), pxPl_n (by omega), pxM_ne (by omega), pxM_ne (by omega)]; exact z3
      · unfold f_X6_readAddress g_X6_readAddress_b59 g_X6_readAddress_b100 g_X6_readAddress_b130
        simp (disch := first | assumption | omega | (simp only [jw_t_I, px_cpt]; done) | (simp only [jw_t_I, px_cpt]; omega)) only [pxL0, pxL1, pxL2, pxL3, pxL4, pxL5, pxL6, pxL7, pxL8, pxL9, pxL10, pxL11, pxL12, pxL13, pxL14, pxL15, pxL16, pxL17, pxL18, pxL19, pxL20, pxL21, pxL22, pxL23, pxL24, pxL25, pxL26, pxL27, pxL28, pxL29, pxL30, pxL31, pxL32, pxL33, pxL34, pxL35, pxL36, pxL37, pxL38, pxL39, pxL40, pxL41, pxL42, pxL43, pxL44, pxL45, pxL46, pxL47, pxL48, pxL49, pxL51, pxL57, pxL58, pxL59, pxL60, pxL61, pxL62, pxL63, pxL64, pxL65, pxL66, pxL67, pxL68, pxL69, pxL70, pxL71, pxL72, pxL73, pxL74, pxL75, pxL76, pxL77, pxL78, pxL79, pxL80, pxL81, pxL82, pxL83, pxL84, pxL85, pxL86, pxL87, pxL88, pxL89, pxL90, pxL91, pxL92, pxL93, pxL94, pxL95, pxL96, pxL97, pxL98, pxL99, pxL100, pxL101, pxL102, pxL103, pxL104, pxL105, pxL106, pxL107, pxL108, pxL109, pxL110, pxL111, pxL112, pxL113, pxL114, pxL115, pxL116, pxL117, pxL118, pxL119, pxL120, pxL121, pxL122, pxL123, pxL124, pxL125, pxL126, pxL200, pxL240, pxL287, pxL388, pxL400, pxL429, pxL431, pxL440, pxL1240, pxL1600, pxL1681, pxL12028, pxL13849, pxL14880, pxL25173, pxL26908, pxL49600, pxL65535, pxL65536, ↓reduceIte, pxJ_add, pxJ_sub, pxJ_mul, pxJ_neg, pxD_lt_t, pxD_lt_f, pxD_le_t, pxD_le_f, pxD_eq_t, pxD_eq_f, pxJ_lt, pxJ_le, pxJ_eq, px_gI, px_gR, px_pI, px_rc, px_ai, px_ar, px_si, px_ln, px_cp, pxJ_div, pxJ_b8, pxJ_byte, px_b2, px_bs, px_rb0, px_rb1, px_min, px_max, px_compare, pxW_some, jw_t_I, px_cpt, jw_r_I, px_cpr, jw_l_I, px_cpl, Option.some.injEq, pk, ba, rn, v11]
    · have cd' : ¬ (48 ≤ pxP s p ∧ pxP s p ≤ 57) := fun q => cd (pxIsDg_i.mpr q)
      have ee : jw_setI (jw_setI h a 0 (pxJ (pxP s p))) 10 5 (pxJ (p + 1)) = pxPl (jw_setI h a 0 (pxJ (pxP s p))) (p + 1) := rfl
      have b49 : f_X6_readAddress h 10 (some a) = g_X6_readAddress_b59 (pxPl (jw_setI h a 0 (pxJ (pxP s p))) (p + 1)) 10 (some a) (pxJ (pxP s p)) := by
        unfold f_X6_readAddress g_X6_readAddress_b49
        by_cases hl : pxP s p < 48
        · simp (disch := first | assumption | omega | (simp only [jw_t_I, px_cpt]; done) | (simp only [jw_t_I, px_cpt]; omega)) only [pxL0, pxL1, pxL2, pxL3, pxL4, pxL5, pxL6, pxL7, pxL8, pxL9, pxL10, pxL11, pxL12, pxL13, pxL14, pxL15, pxL16, pxL17, pxL18, pxL19, pxL20, pxL21, pxL22, pxL23, pxL24, pxL25, pxL26, pxL27, pxL28, pxL29, pxL30, pxL31, pxL32, pxL33, pxL34, pxL35, pxL36, pxL37, pxL38, pxL39, pxL40, pxL41, pxL42, pxL43, pxL44, pxL45, pxL46, pxL47, pxL48, pxL49, pxL51, pxL57, pxL58, pxL59, pxL60, pxL61, pxL62, pxL63, pxL64, pxL65, pxL66, pxL67, pxL68, pxL69, pxL70, pxL71, pxL72, pxL73, pxL74, pxL75, pxL76, pxL77, pxL78, pxL79, pxL80, pxL81, pxL82, pxL83, pxL84, pxL85, pxL86, pxL87, pxL88, pxL89, pxL90, pxL91, pxL92, pxL93, pxL94, pxL95, pxL96, pxL97, pxL98, pxL99, pxL100, pxL101, pxL102, pxL103, pxL104, pxL105, pxL106, pxL107, pxL108, pxL109, pxL110, pxL111, pxL112, pxL113, pxL114, pxL115, pxL116, pxL117, pxL118, pxL119, pxL120, pxL121, pxL122, pxL123, pxL124, pxL125, pxL126, pxL200, pxL240, pxL287, pxL388, pxL400, pxL429, pxL431, pxL440, pxL1240, pxL1600, pxL1681, pxL12028, pxL13849, pxL14880, pxL25173, pxL26908, pxL49600, pxL65535, pxL65536, ↓reduceIte, pxJ_add, pxJ_sub, pxJ_mul, pxJ_neg, pxD_lt_t, pxD_lt_f, pxD_le_t, pxD_le_f, pxD_eq_t, pxD_eq_f, pxJ_lt, pxJ_le, pxJ_eq, px_gI, px_gR, px_pI, px_rc, px_ai, px_ar, px_si, px_ln, px_cp, pxJ_div, pxJ_b8, pxJ_byte, px_b2, px_bs, px_rb0, px_rb1, px_min, px_max, px_compare, pxW_some, jw_t_I, px_cpt, jw_r_I, px_cpr, jw_l_I, px_cpl, Option.some.injEq, pk, ba, hp8, ee]
        · simp (disch := first | assumption | omega | (simp only [jw_t_I, px_cpt]; done) | (simp only [jw_t_I, px_cpt]; omega)) only [pxL0, pxL1, pxL2, pxL3, pxL4, pxL5, pxL6, pxL7, pxL8, pxL9, pxL10, pxL11, pxL12, pxL13, pxL14, pxL15, pxL16, pxL17, pxL18, pxL19, pxL20, pxL21, pxL22, pxL23, pxL24, pxL25, pxL26, pxL27, pxL28, pxL29, pxL30, pxL31, pxL32, pxL33, pxL34, pxL35, pxL36, pxL37, pxL38, pxL39, pxL40, pxL41, pxL42, pxL43, pxL44, pxL45, pxL46, pxL47, pxL48, pxL49, pxL51, pxL57, pxL58, pxL59, pxL60, pxL61, pxL62, pxL63, pxL64, pxL65, pxL66, pxL67, pxL68, pxL69, pxL70, pxL71, pxL72, pxL73, pxL74, pxL75, pxL76, pxL77, pxL78, pxL79, pxL80, pxL81, pxL82, pxL83, pxL84, pxL85, pxL86, pxL87, pxL88, pxL89, pxL90, pxL91, pxL92, pxL93, pxL94, pxL95, pxL96, pxL97, pxL98, pxL99, pxL100, pxL101, pxL102, pxL103, pxL104, pxL105, pxL106, pxL107, pxL108, pxL109, pxL110, pxL111, pxL112, pxL113, pxL114, pxL115, pxL116, pxL117, pxL118, pxL119, pxL120, pxL121, pxL122, pxL123, pxL124, pxL125, pxL126, pxL200, pxL240, pxL287, pxL388, pxL400, pxL429, pxL431, pxL440, pxL1240, pxL1600, pxL1681, pxL12028, pxL13849, pxL14880, pxL25173, pxL26908, pxL49600, pxL65535, pxL65536, ↓reduceIte, pxJ_add, pxJ_sub, pxJ_mul, pxJ_neg, pxD_lt_t, pxD_lt_f, pxD_le_t, pxD_le_f, pxD_eq_t, pxD_eq_f, pxJ_lt, pxJ_le, pxJ_eq, px_gI, px_gR, px_pI, px_rc, px_ai, px_ar, px_si, px_ln, px_cp, pxJ_div, pxJ_b8, pxJ_byte, px_b2, px_bs, px_rb0, px_rb1, px_min, px_max, px_compare, pxW_some, jw_t_I, px_cpt, jw_r_I, px_cpr, jw_l_I, px_cpl, Option.some.injEq, pk, ba, hp8, ee]
      have F9 : pxF (pxQa a e) h (pxPl (jw_setI h a 0 (pxJ (pxP s p))) (p + 1)) := F8.trans (pxPl_F.mono (fun k f q => by unfold pxQa; omega))
      have G9 := FG F9
      have hp9 : pxM (pxPl (jw_setI h a 0 (pxJ (pxP s p))) (p + 1)) 10 5 = p + 1 := pxPl_p (by omega) (by omega)
      have he9 : pxM (pxPl (jw_setI h a 0 (pxJ (pxP s p))) (p + 1)) 10 7 = e := by rw [pxPl_n (by omega)]; exact he8
      have tg9 : (jw_t (pxPl (jw_setI h a 0 (pxJ (pxP s p))) (p + 1)) 10).1 = 6 := tg
      have ta9 : (jw_t (pxPl (jw_setI h a 0 (pxJ (pxP s p))) (p + 1)) a).1 = 0 := ta
      have k09 : pxM (pxPl (jw_setI h a 0 (pxJ (pxP s p))) (p + 1)) a 0 = (if pxIsDg (pxP s p) = true then 48 else pxP s p) := by rw [pxPl_n (by omega), pxM_eq (by omega) (by omega), if_neg cd]
      have k29 : pxM (pxPl (jw_setI h a 0 (pxJ (pxP s p))) (p + 1)) a 2 = 0 := by rw [pxPl_n (by omega), pxM_ne (by omega)]; exact z2
      have k39 : pxM (pxPl (jw_setI h a 0 (pxJ (pxP s p))) (p + 1)) a 3 = 0 := by rw [pxPl_n (by omega), pxM_ne (by omega)]; exact z3
      have k19 : pxM (pxPl (jw_setI h a 0 (pxJ (pxP s p))) (p + 1)) a 1 = 0 := by rw [pxPl_n (by omega), pxM_ne (by omega)]; exact z1
      by_cases c39 : pxP s p = 39
      · -- a mark
        have es : pxSpot s p = (if 97 ≤ pxP s (p + 1) ∧ pxP s (p + 1) ≤ 101 then (true, p + 2) else (false, p + 1)) := by unfold pxSpot; rw [if_neg cd, if_pos c39]
        have rf := s_X6_readFrom G9 hp9 (by omega) (lo := 97) (hi := 101) (by omega) (by omega) (by omega) (by omega)
        rw [pxPl_2] at rf
        by_cases cm : 97 ≤ pxP s (p + 1) ∧ pxP s (p + 1) ≤ 101
        · rw [if_pos cm] at es
          rw [if_pos cm, if_pos cm] at rf
          have l2 := pxP_lt (s := s) (p := p + 1) (by omega)
          have F10 : pxF (pxQa a e) h (jw_setI (pxPl (jw_setI h a 0 (pxJ (pxP s p))) (p + 1 + 1)) a 1 (pxJ (pxP s (p + 1) - 97))) := (F8.trans (pxPl_F.mono (fun k f q => by unfold pxQa; omega))).trans (pxF.setI (by unfold pxQa; omega))
          have ta10 : (jw_t (pxPl (jw_setI h a 0 (pxJ (pxP s p))) (p + 1 + 1)) a).1 = 0 := ta
          have ta11 : (jw_t (jw_setI (pxPl (jw_setI h a 0 (pxJ (pxP s p))) (p + 1 + 1)) a 1 (pxJ (pxP s (p + 1) - 97))) a).1 = 0 := ta
          have v11 : pxM (jw_setI (pxPl (jw_setI h a 0 (pxJ (pxP s p))) (p + 1 + 1)) a 1 (pxJ (pxP s (p + 1) - 97))) a 1 = pxP s (p + 1) - 97 := pxM_eq (by omega) (by omega)
          refine key (jw_setI (pxPl (jw_setI h a 0 (pxJ (pxP s p))) (p + 1 + 1)) a 1 (pxJ (pxP s (p + 1) - 97))) (by rw [es]) F10 ?_ ?_ ?_ ?_ ?_ ?_ (fun q => absurd q cd) (fun _ => ⟨v11, cm⟩) (fun q => by omega) ?_
          · rw [pxM_ne (by omega), pxPl_p (by omega) (by omega), es]; dsimp only; omega
          · rw [pxM_ne (by omega), pxPl_n (by omega), he8]; exact Int.le_refl _
          · rw [pxM_ne (by omega), pxPl_n (by omega), he8, es]; dsimp only; omega
          · rw [pxM_ne (by omega), pxPl_n (by omega), pxM_eq (by omega) (by omega), if_neg cd]
          · rw [pxM_ne (by omega), pxPl_n (by omega), pxM_ne (by omega)]; exact z2
          · rw [pxM_ne (by omega), pxPl_n (by omega), pxM_ne (by omega)]; exact z3
          · rw [b49]
            unfold g_X6_readAddress_b59 g_X6_readAddress_b100 g_X6_readAddress_b130
            simp (disch := first | assumption | omega | (simp only [jw_t_I, px_cpt]; done) | (simp only [jw_t_I, px_cpt]; omega)) only [pxL0, pxL1, pxL2, pxL3, pxL4, pxL5, pxL6, pxL7, pxL8, pxL9, pxL10, pxL11, pxL12, pxL13, pxL14, pxL15, pxL16, pxL17, pxL18, pxL19, pxL20, pxL21, pxL22, pxL23, pxL24, pxL25, pxL26, pxL27, pxL28, pxL29, pxL30, pxL31, pxL32, pxL33, pxL34, pxL35, pxL36, pxL37, pxL38, pxL39, pxL40, pxL41, pxL42, pxL43, pxL44, pxL45, pxL46, pxL47, pxL48, pxL49, pxL51, pxL57, pxL58, pxL59, pxL60, pxL61, pxL62, pxL63, pxL64, pxL65, pxL66, pxL67, pxL68, pxL69, pxL70, pxL71, pxL72, pxL73, pxL74, pxL75, pxL76, pxL77, pxL78, pxL79, pxL80, pxL81, pxL82, pxL83, pxL84, pxL85, pxL86, pxL87, pxL88, pxL89, pxL90, pxL91, pxL92, pxL93, pxL94, pxL95, pxL96, pxL97, pxL98, pxL99, pxL100, pxL101, pxL102, pxL103, pxL104, pxL105, pxL106, pxL107, pxL108, pxL109, pxL110, pxL111, pxL112, pxL113, pxL114, pxL115, pxL116, pxL117, pxL118, pxL119, pxL120, pxL121, pxL122, pxL123, pxL124, pxL125, pxL126, pxL200, pxL240, pxL287, pxL388, pxL400, pxL429, pxL431, pxL440, pxL1240, pxL1600, pxL1681, pxL12028, pxL13849, pxL14880, pxL25173, pxL26908, pxL49600, pxL65535, pxL65536, ↓reduceIte, pxJ_add, pxJ_sub, pxJ_mul, pxJ_neg, pxD_lt_t, pxD_lt_f, pxD_le_t, pxD_le_f, pxD_eq_t, pxD_eq_f, pxJ_lt, pxJ_le, pxJ_eq, px_gI, px_gR, px_pI, px_rc, px_ai, px_ar, px_si, px_ln, px_cp, pxJ_div, pxJ_b8, pxJ_byte, px_b2, px_bs, px_rb0, px_rb1, px_min, px_max, px_compare, pxW_some, jw_t_I, px_cpt, jw_r_I, px_cpr, jw_l_I, px_cpl, Option.some.injEq, rf, v11]
        · rw [if_neg cm] at es
          rw [if_neg cm, if_neg cm] at rf
          refine fail (by rw [es]) ⟨jw_setI (pxPl (jw_setI h a 0 (pxJ (pxP s p))) (p + 1)) a 1 (pxJ (-1)), ?_, F9.trans (pxF.setI (by unfold pxQa; omega)), by rw [pxM_ne (by omega), hp9, es]⟩
          have ta11 : (jw_t (jw_setI (pxPl (jw_setI h a 0 (pxJ (pxP s p))) (p + 1)) a 1 (pxJ (-1))) a).1 = 0 := ta
          have v11 : pxM (jw_setI (pxPl (jw_setI h a 0 (pxJ (pxP s p))) (p + 1)) a 1 (pxJ (-1))) a 1 = -1 := pxM_eq (by omega) (by omega)
          rw [b49]
          unfold g_X6_readAddress_b59 g_X6_readAddress_b100
          simp (disch := first | assumption | omega | (simp only [jw_t_I, px_cpt]; done) | (simp only [jw_t_I, px_cpt]; omega)) only [pxL0, pxL1, pxL2, pxL3, pxL4, pxL5, pxL6, pxL7, pxL8, pxL9, pxL10, pxL11, pxL12, pxL13, pxL14, pxL15, pxL16, pxL17, pxL18, pxL19, pxL20, pxL21, pxL22, pxL23, pxL24, pxL25, pxL26, pxL27, pxL28, pxL29, pxL30, pxL31, pxL32, pxL33, pxL34, pxL35, pxL36, pxL37, pxL38, pxL39, pxL40, pxL41, pxL42, pxL43, pxL44, pxL45, pxL46, pxL47, pxL48, pxL49, pxL51, pxL57, pxL58, pxL59, pxL60, pxL61, pxL62, pxL63, pxL64, pxL65, pxL66, pxL67, pxL68, pxL69, pxL70, pxL71, pxL72, pxL73, pxL74, pxL75, pxL76, pxL77, pxL78, pxL79, pxL80, pxL81, pxL82, pxL83, pxL84, pxL85, pxL86, pxL87, pxL88, pxL89, pxL90, pxL91, pxL92, pxL93, pxL94, pxL95, pxL96, pxL97, pxL98, pxL99, pxL100, pxL101, pxL102, pxL103, pxL104, pxL105, pxL106, pxL107, pxL108, pxL109, pxL110, pxL111, pxL112, pxL113, pxL114, pxL115, pxL116, pxL117, pxL118, pxL119, pxL120, pxL121, pxL122, pxL123, pxL124, pxL125, pxL126, pxL200, pxL240, pxL287, pxL388, pxL400, pxL429, pxL431, pxL440, pxL1240, pxL1600, pxL1681, pxL12028, pxL13849, pxL14880, pxL25173, pxL26908, pxL49600, pxL65535, pxL65536, ↓reduceIte, pxJ_add, pxJ_sub, pxJ_mul, pxJ_neg, pxD_lt_t, pxD_lt_f, pxD_le_t, pxD_le_f, pxD_eq_t, pxD_eq_f, pxJ_lt, pxJ_le, pxJ_eq, px_gI, px_gR, px_pI, px_rc, px_ai, px_ar, px_si, px_ln, px_cp, pxJ_div, pxJ_b8, pxJ_byte, px_b2, px_bs, px_rb0, px_rb1, px_min, px_max, px_compare, pxW_some, jw_t_I, px_cpt, jw_r_I, px_cpr, jw_l_I, px_cpl, Option.some.injEq, rf, v11]
      · by_cases cp : pxP s p = 47 ∨ pxP s p = 63
        · -- a pattern
          have es : pxSpot s p = (if (pxPat s (p + 1)).1 = true then (if pxP s (pxPat s (p + 1)).2 = pxP s p then (true, (pxPat s (p + 1)).2 + 1) else (false, (pxPat s (p + 1)).2)) else (false, (pxPat s (p + 1)).2)) := by unfold pxSpot; rw [if_neg cd, if_neg c39, if_pos cp]
          obtain ⟨r1, r2⟩ := s_X6_readPattern G9 hp9 he9 (by omega) (by omega) e0 (by omega)
          have pb := pxPat_b (s := s) (p := p + 1) (by omega) (by omega)
          have b92 : f_X6_readAddress h 10 (some a) = g_X6_readAddress_b92 (pxPl (jw_setI h a 0 (pxJ (pxP s p))) (p + 1)) 10 (some a) (pxJ (pxP s p)) := by
            rw [b49]
            unfold g_X6_readAddress_b59
            rcases cp with c | c
            · simp (disch := first | assumption | omega | (simp only [jw_t_I, px_cpt]; done) | (simp only [jw_t_I, px_cpt]; omega)) only [pxL0, pxL1, pxL2, pxL3, pxL4, pxL5, pxL6, pxL7, pxL8, pxL9, pxL10, pxL11, pxL12, pxL13, pxL14, pxL15, pxL16, pxL17, pxL18, pxL19, pxL20, pxL21, pxL22, pxL23, pxL24, pxL25, pxL26, pxL27, pxL28, pxL29, pxL30, pxL31, pxL32, pxL33, pxL34, pxL35, pxL36, pxL37, pxL38, pxL39, pxL40, pxL41, pxL42, pxL43, pxL44, pxL45, pxL46, pxL47, pxL48, pxL49, pxL51, pxL57, pxL58, pxL59, pxL60, pxL61, pxL62, pxL63, pxL64, pxL65, pxL66, pxL67, pxL68, pxL69, pxL70, pxL71, pxL72, pxL73, pxL74, pxL75, pxL76, pxL77, pxL78, pxL79, pxL80, pxL81, pxL82, pxL83, pxL84, pxL85, pxL86, pxL87, pxL88, pxL89, pxL90, pxL91, pxL92, pxL93, pxL94, pxL95, pxL96, pxL97, pxL98, pxL99, pxL100, pxL101, pxL102, pxL103, pxL104, pxL105, pxL106, pxL107, pxL108, pxL109, pxL110, pxL111, pxL112, pxL113, pxL114, pxL115, pxL116, pxL117, pxL118, pxL119, pxL120, pxL121, pxL122, pxL123, pxL124, pxL125, pxL126, pxL200, pxL240, pxL287, pxL388, pxL400, pxL429, pxL431, pxL440, pxL1240, pxL1600, pxL1681, pxL12028, pxL13849, pxL14880, pxL25173, pxL26908, pxL49600, pxL65535, pxL65536, ↓reduceIte, pxJ_add, pxJ_sub, pxJ_mul, pxJ_neg, pxD_lt_t, pxD_lt_f, pxD_le_t, pxD_le_f, pxD_eq_t, pxD_eq_f, pxJ_lt, pxJ_le, pxJ_eq, px_gI, px_gR, px_pI, px_rc, px_ai, px_ar, px_si, px_ln, px_cp, pxJ_div, pxJ_b8, pxJ_byte, px_b2, px_bs, px_rb0, px_rb1, px_min, px_max, px_compare, pxW_some, jw_t_I, px_cpt, jw_r_I, px_cpr, jw_l_I, px_cpl, Option.some.injEq, c]
            · simp (disch := first | assumption | omega | (simp only [jw_t_I, px_cpt]; done) | (simp only [jw_t_I, px_cpt]; omega)) only [pxL0, pxL1, pxL2, pxL3, pxL4, pxL5, pxL6, pxL7, pxL8, pxL9, pxL10, pxL11, pxL12, pxL13, pxL14, pxL15, pxL16, pxL17, pxL18, pxL19, pxL20, pxL21, pxL22, pxL23, pxL24, pxL25, pxL26, pxL27, pxL28, pxL29, pxL30, pxL31, pxL32, pxL33, pxL34, pxL35, pxL36, pxL37, pxL38, pxL39, pxL40, pxL41, pxL42, pxL43, pxL44, pxL45, pxL46, pxL47, pxL48, pxL49, pxL51, pxL57, pxL58, pxL59, pxL60, pxL61, pxL62, pxL63, pxL64, pxL65, pxL66, pxL67, pxL68, pxL69, pxL70, pxL71, pxL72, pxL73, pxL74, pxL75, pxL76, pxL77, pxL78, pxL79, pxL80, pxL81, pxL82, pxL83, pxL84, pxL85, pxL86, pxL87, pxL88, pxL89, pxL90, pxL91, pxL92, pxL93, pxL94, pxL95, pxL96, pxL97, pxL98, pxL99, pxL100, pxL101, pxL102, pxL103, pxL104, pxL105, pxL106, pxL107, pxL108, pxL109, pxL110, pxL111, pxL112, pxL113, pxL114, pxL115, pxL116, pxL117, pxL118, pxL119, pxL120, pxL121, pxL122, pxL123, pxL124, pxL125, pxL126, pxL200, pxL240, pxL287, pxL388, pxL400, pxL429, pxL431, pxL440, pxL1240, pxL1600, pxL1681, pxL12028, pxL13849, pxL14880, pxL25173, pxL26908, pxL49600, pxL65535, pxL65536, ↓reduceIte, pxJ_add, pxJ_sub, pxJ_mul, pxJ_neg, pxD_lt_t, pxD_lt_f, pxD_le_t, pxD_le_f, pxD_eq_t, pxD_eq_f, pxJ_lt, pxJ_le, pxJ_eq, px_gI, px_gR, px_pI, px_rc, px_ai, px_ar, px_si, px_ln, px_cp, pxJ_div, pxJ_b8, pxJ_byte, px_b2, px_bs, px_rb0, px_rb1, px_min, px_max, px_compare, pxW_some, jw_t_I, px_cpt, jw_r_I, px_cpr, jw_l_I, px_cpl, Option.some.injEq, c]
          have QQ : ∀ {x y : jw_H}, pxF (pxQe e) x y → pxF (pxQa a e) x y := fun Q => Q.mono (fun k f q => by unfold pxQe at q; unfold pxQa; omega)
          by_cases co : (pxPat s (p + 1)).1 = true
          · rw [if_pos co] at es
            obtain ⟨h10, w1, w2, w3, w4, w5, w6⟩ := r1 co
            have pbo := pb.2.2 co
            have F10 : pxF (pxQa a e) h (jw_setI h10 a 1 (pxJ e)) := (F9.trans (QQ w2)).trans (pxF.setI (by unfold pxQa; omega))
            have G10 := FG F10
            have ta10 : (jw_t h10 a).1 = 0 := by rw [w2.t]; exact ta
            have ta11 : (jw_t (jw_setI h10 a 1 (pxJ e)) a).1 = 0 := ta10
            have tg11 : (jw_t (jw_setI h10 a 1 (pxJ e)) 10).1 = 6 := G10.1.1
            have v11 : pxM (jw_setI h10 a 1 (pxJ e)) a 1 = e := pxM_eq (by omega) (by omega)
            have hp11 : pxM (jw_setI h10 a 1 (pxJ e)) 10 5 = (pxPat s (p + 1)).2 := by rw [pxM_ne (by omega)]; exact w3
            have ps := s_X6_pass G10 hp11 (by omega) (c := pxP s p) (by omega) (by omega)
            have tail : f_X6_readAddress h 10 (some a) = g_X6_readAddress_b120 (jw_setI h10 a 1 (pxJ e)) 10 (some a) (pxJ (pxP s p)) := by
              rw [b92]
              unfold g_X6_readAddress_b92 g_X6_readAddress_b100
              rcases cp with c | c
              · have t1 : (pxJ (pxP s p) = 47) = True := by simp (disch := first | assumption | omega | (simp only [jw_t_I, px_cpt]; done) | (simp only [jw_t_I, px_cpt]; omega)) only [pxL0, pxL1, pxL2, pxL3, pxL4, pxL5, pxL6, pxL7, pxL8, pxL9, pxL10, pxL11, pxL12, pxL13, pxL14, pxL15, pxL16, pxL17, pxL18, pxL19, pxL20, pxL21, pxL22, pxL23, pxL24, pxL25, pxL26, pxL27, pxL28, pxL29, pxL30, pxL31, pxL32, pxL33, pxL34, pxL35, pxL36, pxL37, pxL38, pxL39, pxL40, pxL41, pxL42, pxL43, pxL44, pxL45, pxL46, pxL47, pxL48, pxL49, pxL51, pxL57, pxL58, pxL59, pxL60, pxL61, pxL62, pxL63, pxL64, pxL65, pxL66, pxL67, pxL68, pxL69, pxL70, pxL71, pxL72, pxL73, pxL74, pxL75, pxL76, pxL77, pxL78, pxL79, pxL80, pxL81, pxL82, pxL83, pxL84, pxL85, pxL86, pxL87, pxL88, pxL89, pxL90, pxL91, pxL92, pxL93, pxL94, pxL95, pxL96, pxL97, pxL98, pxL99, pxL100, pxL101, pxL102, pxL103, pxL104, pxL105, pxL106, pxL107, pxL108, pxL109, pxL110, pxL111, pxL112, pxL113, pxL114, pxL115, pxL116, pxL117, pxL118, pxL119, pxL120, pxL121, pxL122, pxL123, pxL124, pxL125, pxL126, pxL200, pxL240, pxL287, pxL388, pxL400, pxL429, pxL431, pxL440, pxL1240, pxL1600, pxL1681, pxL12028, pxL13849, pxL14880, pxL25173, pxL26908, pxL49600, pxL65535, pxL65536, ↓reduceIte, pxJ_add, pxJ_sub, pxJ_mul, pxJ_neg, pxD_lt_t, pxD_lt_f, pxD_le_t, pxD_le_f, pxD_eq_t, pxD_eq_f, pxJ_lt, pxJ_le, pxJ_eq, px_gI, px_gR, px_pI, px_rc, px_ai, px_ar, px_si, px_ln, px_cp, pxJ_div, pxJ_b8, pxJ_byte, px_b2, px_bs, px_rb0, px_rb1, px_min, px_max, px_compare, pxW_some, jw_t_I, px_cpt, jw_r_I, px_cpr, jw_l_I, px_cpl, Option.some.injEq, c]
                simp only [t1, ↓reduceIte]
                simp (disch := first | assumption | omega | (simp only [jw_t_I, px_cpt]; done) | (simp only [jw_t_I, px_cpt]; omega)) only [pxL0, pxL1, pxL2, pxL3, pxL4, pxL5, pxL6, pxL7, pxL8, pxL9, pxL10, pxL11, pxL12, pxL13, pxL14, pxL15, pxL16, pxL17, pxL18, pxL19, pxL20, pxL21, pxL22, pxL23, pxL24, pxL25, pxL26, pxL27, pxL28, pxL29, pxL30, pxL31, pxL32, pxL33, pxL34, pxL35, pxL36, pxL37, pxL38, pxL39, pxL40, pxL41, pxL42, pxL43, pxL44, pxL45, pxL46, pxL47, pxL48, pxL49, pxL51, pxL57, pxL58, pxL59, pxL60, pxL61, pxL62, pxL63, pxL64, pxL65, pxL66, pxL67, pxL68, pxL69, pxL70, pxL71, pxL72, pxL73, pxL74, pxL75, pxL76, pxL77, pxL78, pxL79, pxL80, pxL81, pxL82, pxL83, pxL84, pxL85, pxL86, pxL87, pxL88, pxL89, pxL90, pxL91, pxL92, pxL93, pxL94, pxL95, pxL96, pxL97, pxL98, pxL99, pxL100, pxL101, pxL102, pxL103, pxL104, pxL105, pxL106, pxL107, pxL108, pxL109, pxL110, pxL111, pxL112, pxL113, pxL114, pxL115, pxL116, pxL117, pxL118, pxL119, pxL120, pxL121, pxL122, pxL123, pxL124, pxL125, pxL126, pxL200, pxL240, pxL287, pxL388, pxL400, pxL429, pxL431, pxL440, pxL1240, pxL1600, pxL1681, pxL12028, pxL13849, pxL14880, pxL25173, pxL26908, pxL49600, pxL65535, pxL65536, ↓reduceIte, pxJ_add, pxJ_sub, pxJ_mul, pxJ_neg, pxD_lt_t, pxD_lt_f, pxD_le_t, pxD_le_f, pxD_eq_t, pxD_eq_f, pxJ_lt, pxJ_le, pxJ_eq, px_gI, px_gR, px_pI, px_rc, px_ai, px_ar, px_si, px_ln, px_cp, pxJ_div, pxJ_b8, pxJ_byte, px_b2, px_bs, px_rb0, px_rb1, px_min, px_max, px_compare, pxW_some, jw_t_I, px_cpt, jw_r_I, px_cpr, jw_l_I, px_cpl, Option.some.injEq, w1, v11]
              · have t1 : (pxJ (pxP s p) = 47) = False := by simp (disch := first | assumption | omega | (simp only [jw_t_I, px_cpt]; done) | (simp only [jw_t_I, px_cpt]; omega)) only [pxL0, pxL1, pxL2, pxL3, pxL4, pxL5, pxL6, pxL7, pxL8, pxL9, pxL10, pxL11, pxL12, pxL13, pxL14, pxL15, pxL16, pxL17, pxL18, pxL19, pxL20, pxL21, pxL22, pxL23, pxL24, pxL25, pxL26, pxL27, pxL28, pxL29, pxL30, pxL31, pxL32, pxL33, pxL34, pxL35, pxL36, pxL37, pxL38, pxL39, pxL40, pxL41, pxL42, pxL43, pxL44, pxL45, pxL46, pxL47, pxL48, pxL49, pxL51, pxL57, pxL58, pxL59, pxL60, pxL61, pxL62, pxL63, pxL64, pxL65, pxL66, pxL67, pxL68, pxL69, pxL70, pxL71, pxL72, pxL73, pxL74, pxL75, pxL76, pxL77, pxL78, pxL79, pxL80, pxL81, pxL82, pxL83, pxL84, pxL85, pxL86, pxL87, pxL88, pxL89, pxL90, pxL91, pxL92, pxL93, pxL94, pxL95, pxL96, pxL97, pxL98, pxL99, pxL100, pxL101, pxL102, pxL103, pxL104, pxL105, pxL106, pxL107, pxL108, pxL109, pxL110, pxL111, pxL112, pxL113, pxL114, pxL115, pxL116, pxL117, pxL118, pxL119, pxL120, pxL121, pxL122, pxL123, pxL124, pxL125, pxL126, pxL200, pxL240, pxL287, pxL388, pxL400, pxL429, pxL431, pxL440, pxL1240, pxL1600, pxL1681, pxL12028, pxL13849, pxL14880, pxL25173, pxL26908, pxL49600, pxL65535, pxL65536, ↓reduceIte, pxJ_add, pxJ_sub, pxJ_mul, pxJ_neg, pxD_lt_t, pxD_lt_f, pxD_le_t, pxD_le_f, pxD_eq_t, pxD_eq_f, pxJ_lt, pxJ_le, pxJ_eq, px_gI, px_gR, px_pI, px_rc, px_ai, px_ar, px_si, px_ln, px_cp, pxJ_div, pxJ_b8, pxJ_byte, px_b2, px_bs, px_rb0, px_rb1, px_min, px_max, px_compare, pxW_some, jw_t_I, px_cpt, jw_r_I, px_cpr, jw_l_I, px_cpl, Option.some.injEq, c]
                have t2 : (pxJ (pxP s p) = 63) = True := by simp (disch := first | assumption | omega | (simp only [jw_t_I, px_cpt]; done) | (simp only [jw_t_I, px_cpt]; omega)) only [pxL0, pxL1, pxL2, pxL3, pxL4, pxL5, pxL6, pxL7, pxL8, pxL9, pxL10, pxL11, pxL12, pxL13, pxL14, pxL15, pxL16, pxL17, pxL18, pxL19, pxL20, pxL21, pxL22, pxL23, pxL24, pxL25, pxL26, pxL27, pxL28, pxL29, pxL30, pxL31, pxL32, pxL33, pxL34, pxL35, pxL36, pxL37, pxL38, pxL39, pxL40, pxL41, pxL42, pxL43, pxL44, pxL45, pxL46, pxL47, pxL48, pxL49, pxL51, pxL57, pxL58, pxL59, pxL60, pxL61, pxL62, pxL63, pxL64, pxL65, pxL66, pxL67, pxL68, pxL69, pxL70, pxL71, pxL72, pxL73, pxL74, pxL75, pxL76, pxL77, pxL78, pxL79, pxL80, pxL81, pxL82, pxL83, pxL84, pxL85, pxL86, pxL87, pxL88, pxL89, pxL90, pxL91, pxL92, pxL93, pxL94, pxL95, pxL96, pxL97, pxL98, pxL99, pxL100, pxL101, pxL102, pxL103, pxL104, pxL105, pxL106, pxL107, pxL108, pxL109, pxL110, pxL111, pxL112, pxL113, pxL114, pxL115, pxL116, pxL117, pxL118, pxL119, pxL120, pxL121, pxL122, pxL123, pxL124, pxL125, pxL126, pxL200, pxL240, pxL287, pxL388, pxL400, pxL429, pxL431, pxL440, pxL1240, pxL1600, pxL1681, pxL12028, pxL13849, pxL14880, pxL25173, pxL26908, pxL49600, pxL65535, pxL65536, ↓reduceIte, pxJ_add, pxJ_sub, pxJ_mul, pxJ_neg, pxD_lt_t, pxD_lt_f, pxD_le_t, pxD_le_f, pxD_eq_t, pxD_eq_f, pxJ_lt, pxJ_le, pxJ_eq, px_gI, px_gR, px_pI, px_rc, px_ai, px_ar, px_si, px_ln, px_cp, pxJ_div, pxJ_b8, pxJ_byte, px_b2, px_bs, px_rb0, px_rb1, px_min, px_max, px_compare, pxW_some, jw_t_I, px_cpt, jw_r_I, px_cpr, jw_l_I, px_cpl, Option.some.injEq, c]
                simp only [t1, t2, ↓reduceIte]
                simp (disch := first | assumption | omega | (simp only [jw_t_I, px_cpt]; done) | (simp only [jw_t_I, px_cpt]; omega)) only [pxL0, pxL1, pxL2, pxL3, pxL4, pxL5, pxL6, pxL7, pxL8, pxL9, pxL10, pxL11, pxL12, pxL13, pxL14, pxL15, pxL16, pxL17, pxL18, pxL19, pxL20, pxL21, pxL22, pxL23, pxL24, pxL25, pxL26, pxL27, pxL28, pxL29, pxL30, pxL31, pxL32, pxL33, pxL34, pxL35, pxL36, pxL37, pxL38, pxL39, pxL40, pxL41, pxL42, pxL43, pxL44, pxL45, pxL46, pxL47, pxL48, pxL49, pxL51, pxL57, pxL58, pxL59, pxL60, pxL61, pxL62, pxL63, pxL64, pxL65, pxL66, pxL67, pxL68, pxL69, pxL70, pxL71, pxL72, pxL73, pxL74, pxL75, pxL76, pxL77, pxL78, pxL79, pxL80, pxL81, pxL82, pxL83, pxL84, pxL85, pxL86, pxL87, pxL88, pxL89, pxL90, pxL91, pxL92, pxL93, pxL94, pxL95, pxL96, pxL97, pxL98, pxL99, pxL100, pxL101, pxL102, pxL103, pxL104, pxL105, pxL106, pxL107, pxL108, pxL109, pxL110, pxL111, pxL112, pxL113, pxL114, pxL115, pxL116, pxL117, pxL118, pxL119, pxL120, pxL121, pxL122, pxL123, pxL124, pxL125, pxL126, pxL200, pxL240, pxL287, pxL388, pxL400, pxL429, pxL431, pxL440, pxL1240, pxL1600, pxL1681, pxL12028, pxL13849, pxL14880, pxL25173, pxL26908, pxL49600, pxL65535, pxL65536, ↓reduceIte, pxJ_add, pxJ_sub, pxJ_mul, pxJ_neg, pxD_lt_t, pxD_lt_f, pxD_le_t, pxD_le_f, pxD_eq_t, pxD_eq_f, pxJ_lt, pxJ_le, pxJ_eq, px_gI, px_gR, px_pI, px_rc, px_ai, px_ar, px_si, px_ln, px_cp, pxJ_div, pxJ_b8, pxJ_byte, px_b2, px_bs, px_rb0, px_rb1, px_min, px_max, px_compare, pxW_some, jw_t_I, px_cpt, jw_r_I, px_cpr, jw_l_I, px_cpl, Option.some.injEq, w1, v11]
            by_cases cq : pxP s (pxPat s (p + 1)).2 = pxP s p
            · rw [if_pos cq] at es
              rw [if_pos cq, if_pos cq] at ps
              have Fx : pxF (fun k f => k = a ∨ (k = 10 ∧ f = 5)) h10 (pxPl (jw_setI h10 a 1 (pxJ e)) ((pxPat s (p + 1)).2 + 1)) := (pxF.setI (by omega)).trans (pxPl_F.mono (fun k f q => by omega))
              have v12 : pxM (pxPl (jw_setI h10 a 1 (pxJ e)) ((pxPat s (p + 1)).2 + 1)) a 1 = e := by rw [pxPl_n (by omega)]; exact v11
              have e12 : pxM (pxPl (jw_setI h10 a 1 (pxJ e)) ((pxPat s (p + 1)).2 + 1)) 10 7 = e + (pxFull s (p + 1)).length := by rw [pxPl_n (by omega), pxM_ne (by omega)]; exact w5
              have tg12 : (jw_t (pxPl (jw_setI h10 a 1 (pxJ e)) ((pxPat s (p + 1)).2 + 1)) 10).1 = 6 := tg11
              refine key (pxPl (jw_setI h10 a 1 (pxJ e)) ((pxPat s (p + 1)).2 + 1)) (by rw [es]) (F10.trans (pxPl_F.mono (fun k f q => by unfold pxQa; omega))) ?_ ?_ ?_ ?_ ?_ ?_ (fun q => absurd q cd) (fun q => absurd q c39) (fun _ => ?_) ?_
              · rw [pxPl_p (by omega) (by omega), es]
              · rw [e12]; omega
              · rw [e12, es]; dsimp only; omega
              · rw [pxPl_n (by omega), pxM_ne (by omega), w2.m (by unfold pxQe; omega)]; exact k09
              · rw [pxPl_n (by omega), pxM_ne (by omega), w2.m (by unfold pxQe; omega)]; exact k29
              · rw [pxPl_n (by omega), pxM_ne (by omega), w2.m (by unfold pxQe; omega)]; exact k39
              · rw [v12, e12]
                exact ⟨e0, Int.le_refl _, w6.fr Fx _ _ e0 (fun k f q1 q2 q3 => by omega)⟩
              · rw [tail]
                unfold g_X6_readAddress_b120 g_X6_readAddress_b130
                simp (disch := first | assumption | omega | (simp only [jw_t_I, px_cpt]; done) | (simp only [jw_t_I, px_cpt]; omega)) only [pxL0, pxL1, pxL2, pxL3, pxL4, pxL5, pxL6, pxL7, pxL8, pxL9, pxL10, pxL11, pxL12, pxL13, pxL14, pxL15, pxL16, pxL17, pxL18, pxL19, pxL20, pxL21, pxL22, pxL23, pxL24, pxL25, pxL26, pxL27, pxL28, pxL29, pxL30, pxL31, pxL32, pxL33, pxL34, pxL35, pxL36, pxL37, pxL38, pxL39, pxL40, pxL41, pxL42, pxL43, pxL44, pxL45, pxL46, pxL47, pxL48, pxL49, pxL51, pxL57, pxL58, pxL59, pxL60, pxL61, pxL62, pxL63, pxL64, pxL65, pxL66, pxL67, pxL68, pxL69, pxL70, pxL71, pxL72, pxL73, pxL74, pxL75, pxL76, pxL77, pxL78, pxL79, pxL80, pxL81, pxL82, pxL83, pxL84, pxL85, pxL86, pxL87, pxL88, pxL89, pxL90, pxL91, pxL92, pxL93, pxL94, pxL95, pxL96, pxL97, pxL98, pxL99, pxL100, pxL101, pxL102, pxL103, pxL104, pxL105, pxL106, pxL107, pxL108, pxL109, pxL110, pxL111, pxL112, pxL113, pxL114, pxL115, pxL116, pxL117, pxL118, pxL119, pxL120, pxL121, pxL122, pxL123, pxL124, pxL125, pxL126, pxL200, pxL240, pxL287, pxL388, pxL400, pxL429, pxL431, pxL440, pxL1240, pxL1600, pxL1681, pxL12028, pxL13849, pxL14880, pxL25173, pxL26908, pxL49600, pxL65535, pxL65536, ↓reduceIte, pxJ_add, pxJ_sub, pxJ_mul, pxJ_neg, pxD_lt_t, pxD_lt_f, pxD_le_t, pxD_le_f, pxD_eq_t, pxD_eq_f, pxJ_lt, pxJ_le, pxJ_eq, px_gI, px_gR, px_pI, px_rc, px_ai, px_ar, px_si, px_ln, px_cp, pxJ_div, pxJ_b8, pxJ_byte, px_b2, px_bs, px_rb0, px_rb1, px_min, px_max, px_compare, pxW_some, jw_t_I, px_cpt, jw_r_I, px_cpr, jw_l_I, px_cpl, Option.some.injEq, ps]
            · rw [if_neg cq] at es
              rw [if_neg cq, if_neg cq, pxPl_id hp11] at ps
              refine fail (by rw [es]) ⟨jw_setI h10 a 1 (pxJ e), ?_, F10, by rw [hp11, es]⟩
              rw [tail]
              unfold g_X6_readAddress_b120
              simp (disch := first | assumption | omega | (simp only [jw_t_I, px_cpt]; done) | (simp only [jw_t_I, px_cpt]; omega)) only [pxL0, pxL1, pxL2, pxL3, pxL4, pxL5, pxL6, pxL7, pxL8, pxL9, pxL10, pxL11, pxL12, pxL13, pxL14, pxL15, pxL16, pxL17, pxL18, pxL19, pxL20, pxL21, pxL22, pxL23, pxL24, pxL25, pxL26, pxL27, pxL28, pxL29, pxL30, pxL31, pxL32, pxL33, pxL34, pxL35, pxL36, pxL37, pxL38, pxL39, pxL40, pxL41, pxL42, pxL43, pxL44, pxL45, pxL46, pxL47, pxL48, pxL49, pxL51, pxL57, pxL58, pxL59, pxL60, pxL61, pxL62, pxL63, pxL64, pxL65, pxL66, pxL67, pxL68, pxL69, pxL70, pxL71, pxL72, pxL73, pxL74, pxL75, pxL76, pxL77, pxL78, pxL79, pxL80, pxL81, pxL82, pxL83, pxL84, pxL85, pxL86, pxL87, pxL88, pxL89, pxL90, pxL91, pxL92, pxL93, pxL94, pxL95, pxL96, pxL97, pxL98, pxL99, pxL100, pxL101, pxL102, pxL103, pxL104, pxL105, pxL106, pxL107, pxL108, pxL109, pxL110, pxL111, pxL112, pxL113, pxL114, pxL115, pxL116, pxL117, pxL118, pxL119, pxL120, pxL121, pxL122, pxL123, pxL124, pxL125, pxL126, pxL200, pxL240, pxL287, pxL388, pxL400, pxL429, pxL431, pxL440, pxL1240, pxL1600, pxL1681, pxL12028, pxL13849, pxL14880, pxL25173, pxL26908, pxL49600, pxL65535, pxL65536, ↓reduceIte, pxJ_add, pxJ_sub, pxJ_mul, pxJ_neg, pxD_lt_t, pxD_lt_f, pxD_le_t, pxD_le_f, pxD_eq_t, pxD_eq_f, pxJ_lt, pxJ_le, pxJ_eq, px_gI, px_gR, px_pI, px_rc, px_ai, px_ar, px_si, px_ln, px_cp, pxJ_div, pxJ_b8, pxJ_byte, px_b2, px_bs, px_rb0, px_rb1, px_min, px_max, px_compare, pxW_some, jw_t_I, px_cpt, jw_r_I, px_cpr, jw_l_I, px_cpl, Option.some.injEq, ps]
          · rw [if_neg co] at es
            obtain ⟨h10, w1, w2, w3⟩ := r2 (by simpa using co)
            have ta10 : (jw_t h10 a).1 = 0 := by rw [w2.t]; exact ta
            have ta11 : (jw_t (jw_setI h10 a 1 (pxJ (-1))) a).1 = 0 := ta10
            have v11 : pxM (jw_setI h10 a 1 (pxJ (-1))) a 1 = -1 := pxM_eq (by omega) (by omega)
            refine fail (by rw [es]) ⟨jw_setI h10 a 1 (pxJ (-1)), ?_, (F9.trans (QQ w2)).trans (pxF.setI (by unfold pxQa; omega)), by rw [pxM_ne (by omega), es]; exact w3⟩
            rw [b92]
            unfold g_X6_readAddress_b92 g_X6_readAddress_b100
            simp (disch := first | assumption | omega | (simp only [jw_t_I, px_cpt]; done) | (simp only [jw_t_I, px_cpt]; omega)) only [pxL0, pxL1, pxL2, pxL3, pxL4, pxL5, pxL6, pxL7, pxL8, pxL9, pxL10, pxL11, pxL12, pxL13, pxL14, pxL15, pxL16, pxL17, pxL18, pxL19, pxL20, pxL21, pxL22, pxL23, pxL24, pxL25, pxL26, pxL27, pxL28, pxL29, pxL30, pxL31, pxL32, pxL33, pxL34, pxL35, pxL36, pxL37, pxL38, pxL39, pxL40, pxL41, pxL42, pxL43, pxL44, pxL45, pxL46, pxL47, pxL48, pxL49, pxL51, pxL57, pxL58, pxL59, pxL60, pxL61, pxL62, pxL63, pxL64, pxL65, pxL66, pxL67, pxL68, pxL69, pxL70, pxL71, pxL72, pxL73, pxL74, pxL75, pxL76, pxL77, pxL78, pxL79, pxL80, pxL81, pxL82, pxL83, pxL84, pxL85, pxL86, pxL87, pxL88, pxL89, pxL90, pxL91, pxL92, pxL93, pxL94, pxL95, pxL96, pxL97, pxL98, pxL99, pxL100, pxL101, pxL102, pxL103, pxL104, pxL105, pxL106, pxL107, pxL108, pxL109, pxL110, pxL111, pxL112, pxL113, pxL114, pxL115, pxL116, pxL117, pxL118, pxL119, pxL120, pxL121, pxL122, pxL123, pxL124, pxL125, pxL126, pxL200, pxL240, pxL287, pxL388, pxL400, pxL429, pxL431, pxL440, pxL1240, pxL1600, pxL1681, pxL12028, pxL13849, pxL14880, pxL25173, pxL26908, pxL49600, pxL65535, pxL65536, ↓reduceIte, pxJ_add, pxJ_sub, pxJ_mul, pxJ_neg, pxD_lt_t, pxD_lt_f, pxD_le_t, pxD_le_f, pxD_eq_t, pxD_eq_f, pxJ_lt, pxJ_le, pxJ_eq, px_gI, px_gR, px_pI, px_rc, px_ai, px_ar, px_si, px_ln, px_cp, pxJ_div, pxJ_b8, pxJ_byte, px_b2, px_bs, px_rb0, px_rb1, px_min, px_max, px_compare, pxW_some, jw_t_I, px_cpt, jw_r_I, px_cpr, jw_l_I, px_cpl, Option.some.injEq, w1, v11]
        · -- the present line, or the last one
          have c46 : pxP s p = 46 ∨ pxP s p = 36 := by omega
          have es : pxSpot s p = (true, p + 1) := by unfold pxSpot; rw [if_neg cd, if_neg c39, if_neg cp, if_pos c46]
          refine key (pxPl (jw_setI h a 0 (pxJ (pxP s p))) (p + 1)) (by rw [es]) F9 (by rw [hp9, es]) (by rw [he9]; exact Int.le_refl _) (by rw [he9, es]; dsimp only; omega) k09 k29 k39 (fun q => absurd q cd) (fun q => absurd q c39) (fun q => absurd q cp) ?_
          rw [b49]
          unfold g_X6_readAddress_b59 g_X6_readAddress_b100 g_X6_readAddress_b130
          simp (disch := first | assumption | omega | (simp only [jw_t_I, px_cpt]; done) | (simp only [jw_t_I, px_cpt]; omega)) only [pxL0, pxL1, pxL2, pxL3, pxL4, pxL5, pxL6, pxL7, pxL8, pxL9, pxL10, pxL11, pxL12, pxL13, pxL14, pxL15, pxL16, pxL17, pxL18, pxL19, pxL20, pxL21, pxL22, pxL23, pxL24, pxL25, pxL26, pxL27, pxL28, pxL29, pxL30, pxL31, pxL32, pxL33, pxL34, pxL35, pxL36, pxL37, pxL38, pxL39, pxL40, pxL41, pxL42, pxL43, pxL44, pxL45, pxL46, pxL47, pxL48, pxL49, pxL51, pxL57, pxL58, pxL59, pxL60, pxL61, pxL62, pxL63, pxL64, pxL65, pxL66, pxL67, pxL68, pxL69, pxL70, pxL71, pxL72, pxL73, pxL74, pxL75, pxL76, pxL77, pxL78, pxL79, pxL80, pxL81, pxL82, pxL83, pxL84, pxL85, pxL86, pxL87, pxL88, pxL89, pxL90, pxL91, pxL92, pxL93, pxL94, pxL95, pxL96, pxL97, pxL98, pxL99, pxL100, pxL101, pxL102, pxL103, pxL104, pxL105, pxL106, pxL107, pxL108, pxL109, pxL110, pxL111, pxL112, pxL113, pxL114, pxL115, pxL116, pxL117, pxL118, pxL119, pxL120, pxL121, pxL122, pxL123, pxL124, pxL125, pxL126, pxL200, pxL240, pxL287, pxL388, pxL400, pxL429, pxL431, pxL440, pxL1240, pxL1600, pxL1681, pxL12028, pxL13849, pxL14880, pxL25173, pxL26908, pxL49600, pxL65535, pxL65536, ↓reduceIte, pxJ_add, pxJ_sub, pxJ_mul, pxJ_neg, pxD_lt_t, pxD_lt_f, pxD_le_t, pxD_le_f, pxD_eq_t, pxD_eq_f, pxJ_lt, pxJ_le, pxJ_eq, px_gI, px_gR, px_pI, px_rc, px_ai, px_ar, px_si, px_ln, px_cp, pxJ_div, pxJ_b8, pxJ_byte, px_b2, px_bs, px_rb0, px_rb1, px_min, px_max, px_compare, pxW_some, jw_t_I, px_cpt, jw_r_I, px_cpr, jw_l_I, px_cpl, Option.some.injEq, k19]
  · rw [if_neg c0] at ba
    have c0' : ¬ ((48 ≤ pxP s p ∧ pxP s p ≤ 57) ∨ pxP s p = 46 ∨ pxP s p = 36 ∨ pxP s p = 39 ∨ pxP s p = 47 ∨ pxP s p = 63) := fun q => c0 (pxSpot0_i.mpr q)
    have cd : ¬ pxIsDg (pxP s p) = true := fun q => c0' (Or.inl (pxIsDg_i.mp q))
    have es : pxSpot s p = (false, p) := by
      unfold pxSpot
      have n1 : ¬ pxP s p = 39 := by omega
      have n2 : ¬ (pxP s p = 47 ∨ pxP s p = 63) := by omega
      have n3 : ¬ (pxP s p = 46 ∨ pxP s p = 36) := by omega
      rw [if_neg cd, if_neg n1, if_neg n2, if_neg n3]
    refine fail (by rw [es]) ⟨h, ?_, pxF.rfl, by rw [hp, es]⟩
    unfold f_X6_readAddress
    simp (disch := first | assumption | omega | (simp only [jw_t_I, px_cpt]; done) | (simp only [jw_t_I, px_cpt]; omega)) only [pxL0, pxL1, pxL2, pxL3, pxL4, pxL5, pxL6, pxL7, pxL8, pxL9, pxL10, pxL11, pxL12, pxL13, pxL14, pxL15, pxL16, pxL17, pxL18, pxL19, pxL20, pxL21, pxL22, pxL23, pxL24, pxL25, pxL26, pxL27, pxL28, pxL29, pxL30, pxL31, pxL32, pxL33, pxL34, pxL35, pxL36, pxL37, pxL38, pxL39, pxL40, pxL41, pxL42, pxL43, pxL44, pxL45, pxL46, pxL47, pxL48, pxL49, pxL51, pxL57, pxL58, pxL59, pxL60, pxL61, pxL62, pxL63, pxL64, pxL65, pxL66, pxL67, pxL68, pxL69, pxL70, pxL71, pxL72, pxL73, pxL74, pxL75, pxL76, pxL77, pxL78, pxL79, pxL80, pxL81, pxL82, pxL83, pxL84, pxL85, pxL86, pxL87, pxL88, pxL89, pxL90, pxL91, pxL92, pxL93, pxL94, pxL95, pxL96, pxL97, pxL98, pxL99, pxL100, pxL101, pxL102, pxL103, pxL104, pxL105, pxL106, pxL107, pxL108, pxL109, pxL110, pxL111, pxL112, pxL113, pxL114, pxL115, pxL116, pxL117, pxL118, pxL119, pxL120, pxL121, pxL122, pxL123, pxL124, pxL125, pxL126, pxL200, pxL240, pxL287, pxL388, pxL400, pxL429, pxL431, pxL440, pxL1240, pxL1600, pxL1681, pxL12028, pxL13849, pxL14880, pxL25173, pxL26908, pxL49600, pxL65535, pxL65536, ↓reduceIte, pxJ_add, pxJ_sub, pxJ_mul, pxJ_neg, pxD_lt_t, pxD_lt_f, pxD_le_t, pxD_le_f, pxD_eq_t, pxD_eq_f, pxJ_lt, pxJ_le, pxJ_eq, px_gI, px_gR, px_pI, px_rc, px_ai, px_ar, px_si, px_ln, px_cp, pxJ_div, pxJ_b8, pxJ_byte, px_b2, px_bs, px_rb0, px_rb1, px_min, px_max, px_compare, pxW_some, jw_t_I, px_cpt, jw_r_I, px_cpr, jw_l_I, px_cpl, Option.some.injEq, pk, ba]
end
