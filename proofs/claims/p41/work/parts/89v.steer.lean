/-! orders over the whole: the program's orders, labels, and orders that steer -/
/-- an order, and those in it, that have no fault -/
def pxVT (s : List Int) (t : Int × List Int) : Prop := 0 ≤ t.1 ∧ t.1 ≤ s.length ∧ (pxRd s t.1 false).1 = true ∧ (∀ q ∈ t.2, 0 ≤ q ∧ q ≤ s.length ∧ (pxRd s q true).1 = true) ∧ (¬ (pxAc s t.1 = 123 ∨ pxAc s t.1 = 103 ∨ pxAc s t.1 = 71) → t.2 = [])
theorem pxBlk_v {s : List Int} : ∀ (m : Nat) (p : Int), 0 ≤ p → p ≤ s.length → (pxBlk s m p).1 = true → ∀ q ∈ (pxBlk s m p).2.2, 0 ≤ q ∧ q ≤ s.length ∧ (pxRd s q true).1 = true := by
  intro m
  induction m with
  | zero => intro p h0 h1 z; cases z
  | succ m ih =>
    intro p h0 h1
    have rb := pxRd_b (s := s) (p := p) (ins := true) h0 h1
    unfold pxBlk
    rw [← pxRd_inn]
    by_cases c : (pxRd s p true).1 = true
    · rw [if_pos c]
      have rc := rb.2.2 c
      by_cases d : pxP s (pxRd s p true).2 = 59
      · have lt := pxP_lt (s := s) (p := (pxRd s p true).2) (by omega)
        rw [if_pos d]
        intro z q hq
        rcases List.mem_cons.mp hq with e | e
        · rw [e]; exact ⟨h0, h1, c⟩
        · exact ih _ (by omega) (by omega) z q e
      · rw [if_neg d]
        by_cases f : pxP s (pxRd s p true).2 = 125
        · rw [if_pos f]
          intro z q hq
          rw [List.mem_singleton.mp hq]; exact ⟨h0, h1, c⟩
        · rw [if_neg f]; intro z; cases z
    · rw [if_neg c]; intro z; cases z
theorem pxTop_v {s : List Int} {p : Int} (h0 : 0 ≤ p) (h1 : p ≤ s.length) (h : (pxTop s p).1 = true) : pxVT s (p, (pxTop s p).2.2) := by
  have rb := pxRd_b (s := s) (p := p) (ins := false) h0 h1
  rw [pxTop_e] at h ⊢
  by_cases c : (pxRd s p false).1 = true
  · have rc := rb.2.2 c
    rw [if_pos c] at h ⊢
    by_cases d : pxAc s p = 123
    · rw [if_pos d] at h ⊢
      exact ⟨h0, h1, c, pxBlk_v 61 _ (by omega) (by omega) h, fun z => absurd (Or.inl d) z⟩
    · rw [if_neg d] at h ⊢
      by_cases f : pxAc s p = 103 ∨ pxAc s p = 71
      · rw [if_pos f] at h ⊢
        by_cases g : pxP s (pxRd s p false).2 = 123
        · have := pxP_lt (s := s) (p := (pxRd s p false).2) (by omega)
          rw [if_pos g] at h ⊢
          exact ⟨h0, h1, c, pxBlk_v 61 _ (by omega) (by omega) h, fun z => absurd (Or.inr f) z⟩
        · rw [if_neg g] at h ⊢
          refine ⟨h0, h1, c, fun q hq => ?_, fun z => absurd (Or.inr f) z⟩
          rw [List.mem_singleton.mp hq]
          exact ⟨by omega, by omega, h⟩
      · rw [if_neg f]
        exact ⟨h0, h1, c, fun q hq => absurd hq List.not_mem_nil, fun _ => rfl⟩
  · rw [if_neg c] at h; cases h
theorem pxOrds_v {s : List Int} : ∀ (m : Nat) (p : Int), 0 ≤ p → p ≤ s.length → (pxOrds s m p).1 = -1 → ∀ t ∈ (pxOrds s m p).2, pxVT s t := by
  intro m
  induction m with
  | zero => intro p h0 h1 _ t ht; exact absurd ht List.not_mem_nil
  | succ m ih =>
    intro p h0 h1
    have tb := pxTop_b (s := s) (p := p) h0 h1
    unfold pxOrds
    by_cases c : (pxTop s p).1 = true
    · have tc := tb.2.2 c
      have v := pxTop_v h0 h1 c
      rw [if_pos c]
      by_cases d : pxP s (pxTop s p).2.1 = 59
      · have lt := pxP_lt (s := s) (p := (pxTop s p).2.1) (by omega)
        rw [if_pos d]
        intro z t ht
        rcases List.mem_cons.mp ht with e | e
        · rw [e]; exact v
        · exact ih _ (by omega) (by omega) z t e
      · rw [if_neg d]
        by_cases f : s.length ≤ (pxTop s p).2.1
        · rw [if_pos f]
          intro _ t ht
          rw [List.mem_singleton.mp ht]; exact v
        · rw [if_neg f]; intro _ t ht; exact absurd ht List.not_mem_nil
    · rw [if_neg c]; intro _ t ht; exact absurd ht List.not_mem_nil
/-! where orders are in the program -/
theorem pxCnt_take : ∀ {L : List (Int × List Int)} {j : Nat} {t : Int × List Int}, L[j]? = some t → pxCnt (L.take (j + 1)) = pxCnt (L.take j) + 1 + t.2.length ∧ pxCnt (L.take (j + 1)) ≤ pxCnt L
  | [], j, t, h => by cases h
  | u :: r, 0, t, h => by
    cases h
    refine ⟨?_, ?_⟩
    · show 1 + u.2.length + pxCnt (r.take 0) = 0 + 1 + u.2.length
      show 1 + u.2.length + 0 = _
      omega
    · show 1 + u.2.length + 0 ≤ 1 + u.2.length + pxCnt r
      omega
  | u :: r, j + 1, t, h => by
    have h' : r[j]? = some t := h
    obtain ⟨a, b⟩ := pxCnt_take h'
    refine ⟨?_, ?_⟩
    · show 1 + u.2.length + pxCnt (r.take (j + 1)) = 1 + u.2.length + pxCnt (r.take j) + 1 + t.2.length
      omega
    · show 1 + u.2.length + pxCnt (r.take (j + 1)) ≤ 1 + u.2.length + pxCnt r
      omega
theorem pxCnt_le (L : List (Int × List Int)) (j : Nat) : L.length ≤ j → pxCnt (L.take j) = pxCnt L := fun h => by rw [List.take_of_length_le h]
theorem pxCnt_len : ∀ (L : List (Int × List Int)), L.length ≤ pxCnt L
  | [] => Nat.le_refl _
  | u :: r => by
    have := pxCnt_len r
    show r.length + 1 ≤ 1 + u.2.length + pxCnt r
    omega
theorem pxIn.at {h : jw_H} {s : List Int} : ∀ (ps : List Int) (i : Nat), pxIn h s i ps → ∀ (j : Nat) (q : Int), ps[j]? = some q → pxOd h s (i + j) q
  | [], i, _, j, q, e => by cases e
  | p :: r, i, H, 0, q, e => by cases e; exact H.1
  | p :: r, i, H, j + 1, q, e => by
    have := pxIn.at r (i + 1) H.2.2 j q e
    rw [show i + (j + 1) = i + 1 + j by omega]
    exact this
theorem pxAll.at {h : jw_H} {s : List Int} : ∀ (L : List (Int × List Int)) (i : Nat), pxAll h s i L → ∀ (j : Nat) (t : Int × List Int), L[j]? = some t → pxOd h s (i + pxCnt (L.take j)) t.1 ∧ pxM h (12 + 4 * (i + pxCnt (L.take j))) 9 = ((i + pxCnt (L.take j) + 1 + t.2.length : Nat) : Int) ∧ pxIn h s (i + pxCnt (L.take j) + 1) t.2
  | [], i, _, j, t, e => by cases e
  | u :: r, i, H, 0, t, e => by
    cases e
    obtain ⟨a, b, c, -⟩ := H
    refine ⟨a, ?_, c⟩
    show pxM h (12 + 4 * i) 9 = _
    rw [b]
    show _ = ((i + 0 + 1 + u.2.length : Nat) : Int)
    omega
  | u :: r, i, H, j + 1, t, e => by
    obtain ⟨-, -, -, d⟩ := H
    have := pxAll.at r (i + 1 + u.2.length) d j t e
    have ee : pxCnt ((u :: r).take (j + 1)) = 1 + u.2.length + pxCnt (r.take j) := rfl
    rw [ee, show i + (1 + u.2.length + pxCnt (r.take j)) = i + 1 + u.2.length + pxCnt (r.take j) by omega]
    exact this
/-- the program's orders are read -/
def pxPr (h : jw_H) (b : Nat) (s : List Int) (L : List (Int × List Int)) : Prop := b < 10 ∧ pxPG h b s ∧ pxAll h s 0 L ∧ pxM h 10 6 = (pxCnt L : Nat) ∧ pxCnt L ≤ 60 ∧ pxM h 10 7 ≤ 120 ∧ (∀ t ∈ L, pxVT s t)
theorem pxPr.fb {P : Nat → Nat → Prop} {h h' : jw_H} {b : Nat} {s : List Int} {L : List (Int × List Int)} (H : pxPr h b s L) (F : pxF P h h') (hP : ∀ k f, k ≤ 253 → ¬ P k f) : pxPr h' b s L := by
  obtain ⟨a1, a2, a3, a4, a5, a6, a7⟩ := H
  have e : pxM h' 10 7 = pxM h 10 7 := F.m (hP _ _ (by omega))
  exact ⟨a1, a2.fb a1 F hP, a3.fr F (fun k f z _ => hP k f (by omega)) (by rw [e]; exact Int.le_refl _) _ _ (fun k f z1 z2 _ => hP k f (by omega)), by rw [F.m (hP _ _ (by omega))]; exact a4, a5, by rw [e]; exact a6, a7⟩
theorem pxPr.at {h : jw_H} {b : Nat} {s : List Int} {L : List (Int × List Int)} (H : pxPr h b s L) {j : Nat} {t : Int × List Int} (e : L[j]? = some t) :
    pxOC h b s (pxCnt (L.take j)) t.1 ∧ pxM h (12 + 4 * pxCnt (L.take j)) 9 = ((pxCnt (L.take j) + 1 + t.2.length : Nat) : Int) ∧ pxIQ h b s (pxCnt (L.take j) + 1) t.2 ∧ pxCnt (L.take j) + 1 + t.2.length ≤ pxCnt L ∧ pxVT s t := by
  obtain ⟨a1, a2, a3, a4, a5, a6, a7⟩ := H
  obtain ⟨c1, c2⟩ := pxCnt_take e
  have v := a7 t (List.mem_of_getElem? e)
  obtain ⟨o1, o2, o3⟩ := pxAll.at L 0 a3 j t e
  rw [Nat.zero_add] at o1 o2 o3
  obtain ⟨v1, v2, v3, v4, v5⟩ := v
  obtain ⟨k1, k2⟩ := pxRd_ok v3
  refine ⟨⟨a1, by omega, a2, o1, k1, k2, a6, v1, v2⟩, o2, fun jj q z => ?_, by omega, v1, v2, v3, v4, v5⟩
  obtain ⟨q1, q2, q3⟩ := v4 q (List.mem_of_getElem? z)
  obtain ⟨m1, m2⟩ := pxRd_ok q3
  have jl : jj < t.2.length := (List.getElem?_eq_some_iff.mp z).1
  exact ⟨⟨a1, by omega, a2, pxIn.at t.2 _ o3 jj q z, m1, m2, a6, q1, q2⟩, q3⟩
/-! labels -/
/-- the place in the list behind a label; -1 if there is none -/
def pxBeh (s : List Int) (n : Int) : List (Int × List Int) → Nat → Int
  | [], _ => -1
  | t :: r, j => if pxAc s t.1 = 58 ∧ pxOn s (pxWh s t.1).2.1 = n then ((j + 1 : Nat) : Int) else pxBeh s n r (j + 1)
theorem pxBeh_b (s : List Int) (n : Int) : ∀ (L : List (Int × List Int)) (j : Nat), pxBeh s n L j = -1 ∨ ((j : Int) < pxBeh s n L j ∧ pxBeh s n L j ≤ ((j + L.length : Nat) : Int))
  | [], _ => Or.inl rfl
  | t :: r, j => by
    unfold pxBeh
    by_cases c : pxAc s t.1 = 58 ∧ pxOn s (pxWh s t.1).2.1 = n
    · rw [if_pos c]; right; rw [List.length_cons]; omega
    · rw [if_neg c]
      rcases pxBeh_b s n r (j + 1) with z | z
      · exact Or.inl z
      · right; rw [List.length_cons]; omega
section
variable {h : jw_H} {s : List Int} {cnt n : Int}
theorem s_pb {i : Nat} {q : Int} {N : Nat} (PS : pxPS h) (m6 : pxM h 10 6 = cnt) (c60 : cnt ≤ 60) (ic : (i : Int) < cnt) (O : pxOd h s i q) (n0 : -1 ≤ n) (n1 : n ≤ 25) :
    f_X6_placeBehind_b2 (N + 1) h 10 (pxJ n) (pxJ i) = if pxAc s q = 58 ∧ pxOn s (pxWh s q).2.1 = n then some (pxJ ((i : Int) + 1), h) else f_X6_placeBehind_b2 N h 10 (pxJ n) (pxJ ((i : Int) + 1)) := by
  have oa := s_X6_orderAt PS m6 c60 (x := (i : Int)) (by omega) (by omega)
  rw [if_pos (by omega), show ((i : Int)).toNat = i by omega] at oa
  have tg := PS.1
  have t5 := (PS.2.2.2.2.2.2.2 i (by omega)).2.1
  obtain ⟨f3, f5, -⟩ := O.2.2.2
  have rc : pxP s (pxWh s q).2.1 = pxAc s q := rfl
  rw [rc] at f3 f5
  have r1 := pxM_lo h (12 + 4 * i) 3
  have r2 := pxM_hi h (12 + 4 * i) 3
  have r3 := pxM_lo h (12 + 4 * i) 5
  have r4 := pxM_hi h (12 + 4 * i) 5
  rw [f3] at r1 r2
  rw [u_X6_placeBehind_b2]
  unfold g_X6_placeBehind_b2 g_X6_placeBehind_b41
  clear O PS
  by_cases c : pxAc s q = 58
  · have g5 := f5 (by unfold pxOnA; omega)
    rw [g5] at r3 r4
    clear f5
    by_cases d : pxOn s (pxWh s q).2.1 = n
    · rw [if_pos ⟨c, d⟩]
      simp (maxSteps := 4000000) (disch := first | assumption | omega | (simp only [jw_t_I, px_cpt, t5]; done) | (simp only [jw_t_I, px_cpt, t5]; omega)) only [pxL0, pxL1, pxL2, pxL3, pxL4, pxL5, pxL6, pxL7, pxL8, pxL9, pxL10, pxL11, pxL12, pxL13, pxL14, pxL15, pxL16, pxL17, pxL18, pxL19, pxL20, pxL21, pxL22, pxL23, pxL24, pxL25, pxL26, pxL27, pxL28, pxL29, pxL30, pxL31, pxL32, pxL33, pxL34, pxL35, pxL36, pxL37, pxL38, pxL39, pxL40, pxL41, pxL42, pxL43, pxL44, pxL45, pxL46, pxL47, pxL48, pxL49, pxL51, pxL57, pxL58, pxL59, pxL60, pxL61, pxL62, pxL63, pxL64, pxL65, pxL66, pxL67, pxL68, pxL69, pxL70, pxL71, pxL72, pxL73, pxL74, pxL75, pxL76, pxL77, pxL78, pxL79, pxL80, pxL81, pxL82, pxL83, pxL84, pxL85, pxL86, pxL87, pxL88, pxL89, pxL90, pxL91, pxL92, pxL93, pxL94, pxL95, pxL96, pxL97, pxL98, pxL99, pxL100, pxL101, pxL102, pxL103, pxL104, pxL105, pxL106, pxL107, pxL108, pxL109, pxL110, pxL111, pxL112, pxL113, pxL114, pxL115, pxL116, pxL117, pxL118, pxL119, pxL120, pxL121, pxL122, pxL123, pxL124, pxL125, pxL126, pxL200, pxL240, pxL287, pxL388, pxL400, pxL429, pxL431, pxL440, pxL1240, pxL1600, pxL1681, pxL12028, pxL13849, pxL14880, pxL25173, pxL26908, pxL49600, pxL65535, pxL65536, ↓reduceIte, reduceCtorEq, pxJ_add, pxJ_sub, pxJ_mul, pxJ_neg, pxD_lt_t, pxD_lt_f, pxD_le_t, pxD_le_f, pxD_eq_t, pxD_eq_f, pxJ_lt, pxJ_le, pxJ_eq, px_gI, px_gR, px_pI, px_rc, px_ai, px_ar, px_si, px_ln, px_cp, pxJ_div, pxJ_b8, pxJ_byte, px_b2, px_bs, px_rb0, px_rb1, px_min, px_max, px_compare, pxW_some, jw_t_I, px_cpt, jw_r_I, px_cpr, jw_l_I, px_cpl, Option.some.injEq, t5, m6, tg, oa, f3, g5, c, d]
    · rw [if_neg (show ¬ (pxAc s q = 58 ∧ pxOn s (pxWh s q).2.1 = n) from fun z => d z.2)]
      simp (maxSteps := 4000000) (disch := first | assumption | omega | (simp only [jw_t_I, px_cpt, t5]; done) | (simp only [jw_t_I, px_cpt, t5]; omega)) only [pxL0, pxL1, pxL2, pxL3, pxL4, pxL5, pxL6, pxL7, pxL8, pxL9, pxL10, pxL11, pxL12, pxL13, pxL14, pxL15, pxL16, pxL17, pxL18, pxL19, pxL20, pxL21, pxL22, pxL23, pxL24, pxL25, pxL26, pxL27, pxL28, pxL29, pxL30, pxL31, pxL32, pxL33, pxL34, pxL35, pxL36, pxL37, pxL38, pxL39, pxL40, pxL41, pxL42, pxL43, pxL44, pxL45, pxL46, pxL47, pxL48, pxL49, pxL51, pxL57, pxL58, pxL59, pxL60, pxL61, pxL62, pxL63, pxL64, pxL65, pxL66, pxL67, pxL68, pxL69, pxL70, pxL71, pxL72, pxL73, pxL74, pxL75, pxL76, pxL77, pxL78, pxL79, pxL80, pxL81, pxL82, pxL83, pxL84, pxL85, pxL86, pxL87, pxL88, pxL89, pxL90, pxL91, pxL92, pxL93, pxL94, pxL95, pxL96, pxL97, pxL98, pxL99, pxL100, pxL101, pxL102, pxL103, pxL104, pxL105, pxL106, pxL107, pxL108, pxL109, pxL110, pxL111, pxL112, pxL113, pxL114, pxL115, pxL116, pxL117, pxL118, pxL119, pxL120, pxL121, pxL122, pxL123, pxL124, pxL125, pxL126, pxL200, pxL240, pxL287, pxL388, pxL400, pxL429, pxL431, pxL440, pxL1240, pxL1600, pxL1681, pxL12028, pxL13849, pxL14880, pxL25173, pxL26908, pxL49600, pxL65535, pxL65536, ↓reduceIte, reduceCtorEq, pxJ_add, pxJ_sub, pxJ_mul, pxJ_neg, pxD_lt_t, pxD_lt_f, pxD_le_t, pxD_le_f, pxD_eq_t, pxD_eq_f, pxJ_lt, pxJ_le, pxJ_eq, px_gI, px_gR, px_pI, px_rc, px_ai, px_ar, px_si, px_ln, px_cp, pxJ_div, pxJ_b8, pxJ_byte, px_b2, px_bs, px_rb0, px_rb1, px_min, px_max, px_compare, pxW_some, jw_t_I, px_cpt, jw_r_I, px_cpr, jw_l_I, px_cpl, Option.some.injEq, t5, m6, tg, oa, f3, g5, c]
  · rw [if_neg (show ¬ (pxAc s q = 58 ∧ pxOn s (pxWh s q).2.1 = n) from fun z => c z.1)]
    clear f5
    simp (maxSteps := 4000000) (disch := first | assumption | omega | (simp only [jw_t_I, px_cpt, t5]; done) | (simp only [jw_t_I, px_cpt, t5]; omega)) only [pxL0, pxL1, pxL2, pxL3, pxL4, pxL5, pxL6, pxL7, pxL8, pxL9, pxL10, pxL11, pxL12, pxL13, pxL14, pxL15, pxL16, pxL17, pxL18, pxL19, pxL20, pxL21, pxL22, pxL23, pxL24, pxL25, pxL26, pxL27, pxL28, pxL29, pxL30, pxL31, pxL32, pxL33, pxL34, pxL35, pxL36, pxL37, pxL38, pxL39, pxL40, pxL41, pxL42, pxL43, pxL44, pxL45, pxL46, pxL47, pxL48, pxL49, pxL51, pxL57, pxL58, pxL59, pxL60, pxL61, pxL62, pxL63, pxL64, pxL65, pxL66, pxL67, pxL68, pxL69, pxL70, pxL71, pxL72, pxL73, pxL74, pxL75, pxL76, pxL77, pxL78, pxL79, pxL80, pxL81, pxL82, pxL83, pxL84, pxL85, pxL86, pxL87, pxL88, pxL89, pxL90, pxL91, pxL92, pxL93, pxL94, pxL95, pxL96, pxL97, pxL98, pxL99, pxL100, pxL101, pxL102, pxL103, pxL104, pxL105, pxL106, pxL107, pxL108, pxL109, pxL110, pxL111, pxL112, pxL113, pxL114, pxL115, pxL116, pxL117, pxL118, pxL119, pxL120, pxL121, pxL122, pxL123, pxL124, pxL125, pxL126, pxL200, pxL240, pxL287, pxL388, pxL400, pxL429, pxL431, pxL440, pxL1240, pxL1600, pxL1681, pxL12028, pxL13849, pxL14880, pxL25173, pxL26908, pxL49600, pxL65535, pxL65536, ↓reduceIte, reduceCtorEq, pxJ_add, pxJ_sub, pxJ_mul, pxJ_neg, pxD_lt_t, pxD_lt_f, pxD_le_t, pxD_le_f, pxD_eq_t, pxD_eq_f, pxJ_lt, pxJ_le, pxJ_eq, px_gI, px_gR, px_pI, px_rc, px_ai, px_ar, px_si, px_ln, px_cp, pxJ_div, pxJ_b8, pxJ_byte, px_b2, px_bs, px_rb0, px_rb1, px_min, px_max, px_compare, pxW_some, jw_t_I, px_cpt, jw_r_I, px_cpr, jw_l_I, px_cpl, Option.some.injEq, t5, m6, tg, oa, f3]
theorem s_pbi (PS : pxPS h) (m6 : pxM h 10 6 = cnt) (c60 : cnt ≤ 60) (n0 : -1 ≤ n) (n1 : n ≤ 25) : ∀ (ps : List Int) (i N : Nat), pxIn h s i ps → ((i + ps.length : Nat) : Int) ≤ cnt → (∀ q ∈ ps, pxAc s q ≠ 58) → ps.length ≤ N → f_X6_placeBehind_b2 N h 10 (pxJ n) (pxJ i) = f_X6_placeBehind_b2 (N - ps.length) h 10 (pxJ n) (pxJ ((i + ps.length : Nat) : Int))
  | [], i, N, _, _, _, _ => rfl
  | p :: r, i, N, H, ic, ne, hN => by
    rw [List.length_cons] at ic hN
    obtain ⟨N, rfl⟩ : ∃ N', N = N' + 1 := ⟨N - 1, by omega⟩
    have ih := s_pbi PS m6 c60 n0 n1 r (i + 1) N H.2.2 (by omega) (fun q hq => ne q (List.mem_cons_of_mem _ hq)) (by omega)
    rw [s_pb PS m6 c60 (by omega) H.1 n0 n1, if_neg (fun z => ne p List.mem_cons_self z.1), show (i : Int) + 1 = ((i + 1 : Nat) : Int) by omega, ih, List.length_cons, show N + 1 - (r.length + 1) = N - r.length by omega, show i + 1 + r.length = i + (r.length + 1) by omega]
theorem s_pbL (PS : pxPS h) (m6 : pxM h 10 6 = cnt) (c60 : cnt ≤ 60) (n0 : -1 ≤ n) (n1 : n ≤ 25) : ∀ (r : List (Int × List Int)) (i j N : Nat), pxAll h s i r → ((i + pxCnt r : Nat) : Int) = cnt → (∀ t ∈ r, pxVT s t) → pxCnt r < N →
    (pxBeh s n r j = -1 ∧ f_X6_placeBehind_b2 N h 10 (pxJ n) (pxJ i) = some (pxJ (-1), h)) ∨ (∃ d : Nat, pxBeh s n r j = ((j + d : Nat) : Int) ∧ f_X6_placeBehind_b2 N h 10 (pxJ n) (pxJ i) = some (pxJ ((i + pxCnt (r.take d) : Nat) : Int), h))
  | [], i, j, N, _, ic, _, hN => by
    left
    obtain ⟨N, rfl⟩ : ∃ N', N = N' + 1 := ⟨N - 1, by simp only [pxCnt] at hN; omega⟩
    refine ⟨rfl, ?_⟩
    have tg := PS.1
    have ic' : (i : Int) = cnt := by simp only [pxCnt] at ic; omega
    rw [u_X6_placeBehind_b2]
    unfold g_X6_placeBehind_b2
    clear PS
    simp (maxSteps := 4000000) (disch := first | assumption | omega | (simp only [jw_t_I, px_cpt]; done) | (simp only [jw_t_I, px_cpt]; omega)) only [pxL0, pxL1, pxL2, pxL3, pxL4, pxL5, pxL6, pxL7, pxL8, pxL9, pxL10, pxL11, pxL12, pxL13, pxL14, pxL15, pxL16, pxL17, pxL18, pxL19, pxL20, pxL21, pxL22, pxL23, pxL24, pxL25, pxL26, pxL27, pxL28, pxL29, pxL30, pxL31, pxL32, pxL33, pxL34, pxL35, pxL36, pxL37, pxL38, pxL39, pxL40, pxL41, pxL42, pxL43, pxL44, pxL45, pxL46, pxL47, pxL48, pxL49, pxL51, pxL57, pxL58, pxL59, pxL60, pxL61, pxL62, pxL63, pxL64, pxL65, pxL66, pxL67, pxL68, pxL69, pxL70, pxL71, pxL72, pxL73, pxL74, pxL75, pxL76, pxL77, pxL78, pxL79, pxL80, pxL81, pxL82, pxL83, pxL84, pxL85, pxL86, pxL87, pxL88, pxL89, pxL90, pxL91, pxL92, pxL93, pxL94, pxL95, pxL96, pxL97, pxL98, pxL99, pxL100, pxL101, pxL102, pxL103, pxL104, pxL105, pxL106, pxL107, pxL108, pxL109, pxL110, pxL111, pxL112, pxL113, pxL114, pxL115, pxL116, pxL117, pxL118, pxL119, pxL120, pxL121, pxL122, pxL123, pxL124, pxL125, pxL126, pxL200, pxL240, pxL287, pxL388, pxL400, pxL429, pxL431, pxL440, pxL1240, pxL1600, pxL1681, pxL12028, pxL13849, pxL14880, pxL25173, pxL26908, pxL49600, pxL65535, pxL65536, ↓reduceIte, reduceCtorEq, pxJ_add, pxJ_sub, pxJ_mul, pxJ_neg, pxD_lt_t, pxD_lt_f, pxD_le_t, pxD_le_f, pxD_eq_t, pxD_eq_f, pxJ_lt, pxJ_le, pxJ_eq, px_gI, px_gR, px_pI, px_rc, px_ai, px_ar, px_si, px_ln, px_cp, pxJ_div, pxJ_b8, pxJ_byte, px_b2, px_bs, px_rb0, px_rb1, px_min, px_max, px_compare, pxW_some, jw_t_I, px_cpt, jw_r_I, px_cpr, jw_l_I, px_cpl, Option.some.injEq, m6, tg]
  | t :: r, i, j, N, H, ic, v, hN => by
    obtain ⟨a1, a2, a3, a4⟩ := H
    have vt := v t List.mem_cons_self
    have e : pxCnt (t :: r) = 1 + t.2.length + pxCnt r := rfl
    rw [e] at ic hN
    obtain ⟨N, rfl⟩ : ∃ N', N = N' + 1 := ⟨N - 1, by omega⟩
    have st := s_pb (N := N) PS m6 c60 (by omega) a1 n0 n1
    unfold pxBeh
    by_cases c : pxAc s t.1 = 58 ∧ pxOn s (pxWh s t.1).2.1 = n
    · rw [if_pos c] at st ⊢
      right
      have ps0 := vt.2.2.2.2 (by omega)
      refine ⟨1, rfl, ?_⟩
      rw [st]
      have e1 : pxCnt ((t :: r).take 1) = 1 + t.2.length + 0 := rfl
      rw [e1, ps0]
      show some (pxJ ((i : Int) + 1), h) = some (pxJ ((i + (1 + 0 + 0) : Nat) : Int), h)
      rw [show ((i + (1 + 0 + 0) : Nat) : Int) = (i : Int) + 1 by omega]
    · rw [if_neg c] at st ⊢
      have q58 : ∀ q ∈ t.2, pxAc s q ≠ 58 := fun q hq z => pxRd_inner (vt.2.2.2.1 q hq).2.2 (Or.inr (Or.inr (Or.inr (pxSteer_i.mpr (Or.inl z)))))
      have inn := s_pbi PS m6 c60 n0 n1 t.2 (i + 1) N a3 (by omega) q58 (by omega)
      have ih := s_pbL PS m6 c60 n0 n1 r (i + 1 + t.2.length) (j + 1) (N - t.2.length) a4 (by omega) (fun u hu => v u (List.mem_cons_of_mem _ hu)) (by omega)
      rw [st, show (i : Int) + 1 = ((i + 1 : Nat) : Int) by omega, inn]
      rcases ih with z | ⟨d, z1, z2⟩
      · exact Or.inl z
      · right
        refine ⟨d + 1, by rw [z1]; omega, ?_⟩
        have e1 : pxCnt ((t :: r).take (d + 1)) = 1 + t.2.length + pxCnt (r.take d) := rfl
        rw [z2, e1, show i + 1 + t.2.length + pxCnt (r.take d) = i + (1 + t.2.length + pxCnt (r.take d)) by omega]
theorem s_X6_placeBehind {b : Nat} {L : List (Int × List Int)} (H : pxPr h b s L) (n0 : -1 ≤ n) (n1 : n ≤ 25) : f_X6_placeBehind h 10 (pxJ n) = some (pxJ (if pxBeh s n L 0 = -1 then -1 else ((pxCnt (L.take (pxBeh s n L 0).toNat) : Nat) : Int)), h) := by
  obtain ⟨a1, a2, a3, a4, a5, a6, a7⟩ := H
  have := s_pbL a2.1 a4 (by omega) n0 n1 L 0 0 jw_FU a3 (by omega) a7 (by unfold jw_FU; omega)
  unfold f_X6_placeBehind
  rw [show (0 : Int32) = pxJ ((0 : Nat) : Int) from rfl]
  rcases this with ⟨z1, z2⟩ | ⟨d, z1, z2⟩
  · rw [z2, if_pos z1]
  · rw [z2, if_neg (by omega), z1]
    have e1 : (((0 + d : Nat) : Int)).toNat = d := by omega
    rw [e1, Nat.zero_add]
end
