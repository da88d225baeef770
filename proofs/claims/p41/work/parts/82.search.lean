/-! matching: searching in rows -/
def px0 : Int → Int := fun _ => 0
def pxSeek (s r : List Int) (l : List (Int × Int)) (fr : Int) (on : Bool) : Nat → Int → Option (Int × Int × (Int → Int) × (Int → Int))
  | 0, _ => none
  | m + 1, x => (pxFit s r l px0 px0 x).elim (pxSeek s r l fr on m (x + 1)) (fun v => if on = true ∧ x = fr ∧ v.1 = fr then pxSeek s r l fr on m (x + 1) else some (x, v))
/-- the first find from a place on: where it begins and ends, and its groups -/
def pxFind (s r : List Int) (l : List (Int × Int)) (fr : Int) (on : Bool) : Option (Int × Int × (Int → Int) × (Int → Int)) := pxSeek s r l fr on (r.length - fr + 1).toNat fr
/-- what a search may change -/
def pxQs : Nat → Nat → Prop := fun k f => (k = 531 ∧ (f = 6 ∨ f = 7)) ∨ k = 534 ∨ k = 535
/-- what a search comes to -/
def pxSO (h : jw_H) (n fr : Int) (G : Int) (R : Option (Int × Int × (Int → Int) × (Int → Int))) (E : Option (Int32 × jw_H)) : Prop :=
  (R = none → ∃ h', E = some (pxJ 0, h') ∧ pxF pxQs h h') ∧
  (∀ x y o c, R = some (x, y, o, c) → ∃ h', E = some (pxJ 1, h') ∧ pxF pxQs h h' ∧ pxM h' 531 6 = x ∧ pxM h' 531 7 = y ∧ fr ≤ x ∧ x ≤ y ∧ y ≤ n ∧ ∀ k : Int, 1 ≤ k → k ≤ G → pxM h' 534 k.toNat = o k ∧ pxM h' 535 k.toNat = c k ∧ 0 ≤ o k ∧ o k ≤ c k ∧ c k ≤ n)
section
variable {s r : List Int}
theorem s_X4_search_b3 {e most fr : Int} {on : Bool} {l : List (Int × Int)} (W : pxWE 0 0 0 l) (f0 : 0 ≤ fr) : ∀ (m N : Nat) (h : jw_H) (x : Int), (m : Int) = r.length - x + 1 → m < N → fr ≤ x → pxPE h s e most l → pxMT h r →
    pxSO h r.length fr (pxGc 0 l) (pxSeek s r l fr on m x) (f_X4_search_b3 N h 531 (pxJ e) (pxJ fr) (pxJ (if on = true then 1 else 0)) (pxJ x)) := by
  intro m
  induction m with
  | zero =>
    intro N h x em hN fx H T
    obtain ⟨N, rfl, hN⟩ := px_fu hN
    have m0 := T.1.1
    have m5 := T.2.2.1
    have l30 := T.2.1.1
    rw [u_X4_search_b3]
    unfold g_X4_search_b3
    refine ⟨fun _ => ⟨h, ?_, pxF.rfl⟩, fun x y o c z => (by cases z)⟩
    simp (maxSteps := 4000000) (disch := first | assumption | omega | (simp only [jw_t_I, px_cpt]; done) | (simp only [jw_t_I, px_cpt]; omega)) only [pxL0, pxL1, pxL2, pxL3, pxL4, pxL5, pxL6, pxL7, pxL8, pxL9, pxL10, pxL11, pxL12, pxL13, pxL14, pxL15, pxL16, pxL17, pxL18, pxL19, pxL20, pxL21, pxL22, pxL23, pxL24, pxL25, pxL26, pxL27, pxL28, pxL29, pxL30, pxL31, pxL32, pxL33, pxL34, pxL35, pxL36, pxL37, pxL38, pxL39, pxL40, pxL41, pxL42, pxL43, pxL44, pxL45, pxL46, pxL47, pxL48, pxL49, pxL51, pxL57, pxL58, pxL59, pxL60, pxL61, pxL62, pxL63, pxL64, pxL65, pxL66, pxL67, pxL68, pxL69, pxL70, pxL71, pxL72, pxL73, pxL74, pxL75, pxL76, pxL77, pxL78, pxL79, pxL80, pxL81, pxL82, pxL83, pxL84, pxL85, pxL86, pxL87, pxL88, pxL89, pxL90, pxL91, pxL92, pxL93, pxL94, pxL95, pxL96, pxL97, pxL98, pxL99, pxL100, pxL101, pxL102, pxL103, pxL104, pxL105, pxL106, pxL107, pxL108, pxL109, pxL110, pxL111, pxL112, pxL113, pxL114, pxL115, pxL116, pxL117, pxL118, pxL119, pxL120, pxL121, pxL122, pxL123, pxL124, pxL125, pxL126, pxL200, pxL240, pxL287, pxL388, pxL400, pxL429, pxL431, pxL440, pxL1240, pxL1600, pxL1681, pxL12028, pxL13849, pxL14880, pxL25173, pxL26908, pxL49600, pxL65535, pxL65536, ↓reduceIte, reduceCtorEq, pxJ_add, pxJ_sub, pxJ_mul, pxJ_neg, pxD_lt_t, pxD_lt_f, pxD_le_t, pxD_le_f, pxD_eq_t, pxD_eq_f, pxJ_lt, pxJ_le, pxJ_eq, px_gI, px_gR, px_pI, px_rc, px_ai, px_ar, px_si, px_ln, px_cp, pxJ_div, pxJ_b8, pxJ_byte, px_b2, px_bs, px_rb0, px_rb1, px_min, px_max, px_compare, pxW_some, jw_t_I, px_cpt, jw_r_I, px_cpr, jw_l_I, px_cpl, Option.some.injEq, m0, m5]
  | succ m ih =>
    intro N h x em hN fx H T
    obtain ⟨N, rfl, hN⟩ := px_fu hN
    have m0 := T.1.1
    have m5 := T.2.2.1
    have l30 := T.2.1.1
    have a3 := H.2.2.1
    have a4 := H.2.2.2.1
    have a5 := H.2.2.2.2.1
    have fe := s_X4_fits_e (n := 5) (x := x) (t := 0) H T (by omega) (by omega) (by omega) (by omega)
    obtain ⟨y1, y2⟩ := s_X4_fits_l l jw_FU 5 h e 0 0 0 x most px0 px0 (by unfold jw_FU; omega) (by omega) H T W (by omega) (by omega) (by omega) (by omega) (by omega) (by omega) (by omega) ⟨fun k k1 k2 => by omega, fun k k1 k2 => by omega⟩
    rw [← fe] at y1 y2
    have Fm : ∀ {h' : jw_H}, pxF (pxQm 0 0) h h' → pxF pxQs h h' := fun F => F.mono (fun k f z => by unfold pxQm at z; unfold pxQs; omega)
    have on01 : (if on = true then (1 : Int) else 0) = 0 ∨ (if on = true then (1 : Int) else 0) = 1 := by cases on <;> simp
    have sk : pxSeek s r l fr on (m + 1) x = (pxFit s r l px0 px0 x).elim (pxSeek s r l fr on m (x + 1)) (fun v => if on = true ∧ x = fr ∧ v.1 = fr then pxSeek s r l fr on m (x + 1) else some (x, v)) := rfl
    rw [u_X4_search_b3, sk]
    unfold g_X4_search_b3 g_X4_search_b58 g_X4_search_b44
    have go : ∀ {h2 : jw_H} {E : Option (Int32 × jw_H)}, pxF (pxQm 0 0) h h2 → E = f_X4_search_b3 N h2 531 (pxJ e) (pxJ fr) (pxJ (if on = true then 1 else 0)) (pxJ (x + 1)) → pxSO h r.length fr (pxGc 0 l) (pxSeek s r l fr on m (x + 1)) E := by
      intro h2 E F2 eE
      obtain ⟨z1, z2⟩ := ih N h2 (x + 1) (by omega) (by omega) (by omega) (H.fr F2 (fun k f z => by unfold pxQm; omega)) (T.fr F2 (fun k f z => by unfold pxQm; omega))
      rw [← eE] at z1 z2
      refine ⟨fun z => ?_, fun x' y' o' c' z => ?_⟩
      · obtain ⟨h3, b1, b2⟩ := z1 z
        exact ⟨h3, b1, (Fm F2).trans b2⟩
      · obtain ⟨h3, b1, b2, b3⟩ := z2 x' y' o' c' z
        exact ⟨h3, b1, (Fm F2).trans b2, b3⟩
    cases hf : pxFit s r l px0 px0 x with
    | none =>
      obtain ⟨h2, v1, v2⟩ := y1 hf
      refine go v2 ?_
      simp (maxSteps := 4000000) (disch := first | assumption | omega | (simp only [jw_t_I, px_cpt]; done) | (simp only [jw_t_I, px_cpt]; omega)) only [pxL0, pxL1, pxL2, pxL3, pxL4, pxL5, pxL6, pxL7, pxL8, pxL9, pxL10, pxL11, pxL12, pxL13, pxL14, pxL15, pxL16, pxL17, pxL18, pxL19, pxL20, pxL21, pxL22, pxL23, pxL24, pxL25, pxL26, pxL27, pxL28, pxL29, pxL30, pxL31, pxL32, pxL33, pxL34, pxL35, pxL36, pxL37, pxL38, pxL39, pxL40, pxL41, pxL42, pxL43, pxL44, pxL45, pxL46, pxL47, pxL48, pxL49, pxL51, pxL57, pxL58, pxL59, pxL60, pxL61, pxL62, pxL63, pxL64, pxL65, pxL66, pxL67, pxL68, pxL69, pxL70, pxL71, pxL72, pxL73, pxL74, pxL75, pxL76, pxL77, pxL78, pxL79, pxL80, pxL81, pxL82, pxL83, pxL84, pxL85, pxL86, pxL87, pxL88, pxL89, pxL90, pxL91, pxL92, pxL93, pxL94, pxL95, pxL96, pxL97, pxL98, pxL99, pxL100, pxL101, pxL102, pxL103, pxL104, pxL105, pxL106, pxL107, pxL108, pxL109, pxL110, pxL111, pxL112, pxL113, pxL114, pxL115, pxL116, pxL117, pxL118, pxL119, pxL120, pxL121, pxL122, pxL123, pxL124, pxL125, pxL126, pxL200, pxL240, pxL287, pxL388, pxL400, pxL429, pxL431, pxL440, pxL1240, pxL1600, pxL1681, pxL12028, pxL13849, pxL14880, pxL25173, pxL26908, pxL49600, pxL65535, pxL65536, ↓reduceIte, reduceCtorEq, pxJ_add, pxJ_sub, pxJ_mul, pxJ_neg, pxD_lt_t, pxD_lt_f, pxD_le_t, pxD_le_f, pxD_eq_t, pxD_eq_f, pxJ_lt, pxJ_le, pxJ_eq, px_gI, px_gR, px_pI, px_rc, px_ai, px_ar, px_si, px_ln, px_cp, pxJ_div, pxJ_b8, pxJ_byte, px_b2, px_bs, px_rb0, px_rb1, px_min, px_max, px_compare, pxW_some, jw_t_I, px_cpt, jw_r_I, px_cpr, jw_l_I, px_cpl, Option.some.injEq, m0, m5, v1]
    | some v =>
      obtain ⟨y, o, c⟩ := v
      obtain ⟨h2, v1, v2, v3, v4, v5⟩ := y2 y o c hf
      have m02 : (jw_t h2 531).1 = 4 := by rw [v2.t]; exact m0
      show pxSO h r.length fr (pxGc 0 l) (if on = true ∧ x = fr ∧ y = fr then pxSeek s r l fr on m (x + 1) else some (x, y, o, c)) _
      by_cases cc : on = true ∧ x = fr ∧ y = fr
      · rw [if_pos cc]
        refine go v2 ?_
        obtain ⟨c1, c2, c3⟩ := cc
        subst c1
        rw [c2] at v1
        rw [show (if true = true then (1 : Int) else 0) = 1 from rfl]
        simp (maxSteps := 4000000) (disch := first | assumption | omega | (simp only [jw_t_I, px_cpt]; done) | (simp only [jw_t_I, px_cpt]; omega)) only [pxL0, pxL1, pxL2, pxL3, pxL4, pxL5, pxL6, pxL7, pxL8, pxL9, pxL10, pxL11, pxL12, pxL13, pxL14, pxL15, pxL16, pxL17, pxL18, pxL19, pxL20, pxL21, pxL22, pxL23, pxL24, pxL25, pxL26, pxL27, pxL28, pxL29, pxL30, pxL31, pxL32, pxL33, pxL34, pxL35, pxL36, pxL37, pxL38, pxL39, pxL40, pxL41, pxL42, pxL43, pxL44, pxL45, pxL46, pxL47, pxL48, pxL49, pxL51, pxL57, pxL58, pxL59, pxL60, pxL61, pxL62, pxL63, pxL64, pxL65, pxL66, pxL67, pxL68, pxL69, pxL70, pxL71, pxL72, pxL73, pxL74, pxL75, pxL76, pxL77, pxL78, pxL79, pxL80, pxL81, pxL82, pxL83, pxL84, pxL85, pxL86, pxL87, pxL88, pxL89, pxL90, pxL91, pxL92, pxL93, pxL94, pxL95, pxL96, pxL97, pxL98, pxL99, pxL100, pxL101, pxL102, pxL103, pxL104, pxL105, pxL106, pxL107, pxL108, pxL109, pxL110, pxL111, pxL112, pxL113, pxL114, pxL115, pxL116, pxL117, pxL118, pxL119, pxL120, pxL121, pxL122, pxL123, pxL124, pxL125, pxL126, pxL200, pxL240, pxL287, pxL388, pxL400, pxL429, pxL431, pxL440, pxL1240, pxL1600, pxL1681, pxL12028, pxL13849, pxL14880, pxL25173, pxL26908, pxL49600, pxL65535, pxL65536, ↓reduceIte, reduceCtorEq, pxJ_add, pxJ_sub, pxJ_mul, pxJ_neg, pxD_lt_t, pxD_lt_f, pxD_le_t, pxD_le_f, pxD_eq_t, pxD_eq_f, pxJ_lt, pxJ_le, pxJ_eq, px_gI, px_gR, px_pI, px_rc, px_ai, px_ar, px_si, px_ln, px_cp, pxJ_div, pxJ_b8, pxJ_byte, px_b2, px_bs, px_rb0, px_rb1, px_min, px_max, px_compare, pxW_some, jw_t_I, px_cpt, jw_r_I, px_cpr, jw_l_I, px_cpl, Option.some.injEq, m0, m5, v1, c2, c3]
      · rw [if_neg cc]
        have F3 : pxF pxQs h (jw_setI (jw_setI h2 531 6 (pxJ x)) 531 7 (pxJ y)) := ((Fm v2).trans (pxF.setI (by unfold pxQs; omega))).trans (pxF.setI (by unfold pxQs; omega))
        refine ⟨fun z => (by cases z), fun x' y' o' c' z => ?_⟩
        have z' : (x, y, o, c) = (x', y', o', c') := Option.some.inj z
        obtain ⟨rfl, rfl, rfl, rfl⟩ : x = x' ∧ y = y' ∧ o = o' ∧ c = c' := by
          simp only [Prod.mk.injEq] at z'; exact z'
        refine ⟨jw_setI (jw_setI h2 531 6 (pxJ x)) 531 7 (pxJ y), ?_, F3, ?_, ?_, fx, v3, v4, fun k k1 k2 => ?_⟩
        · cases on with
          | false =>
            rw [show (if false = true then (1 : Int) else 0) = 0 from rfl]
            simp (maxSteps := 4000000) (disch := first | assumption | omega | (simp only [jw_t_I, px_cpt]; done) | (simp only [jw_t_I, px_cpt]; omega)) only [pxL0, pxL1, pxL2, pxL3, pxL4, pxL5, pxL6, pxL7, pxL8, pxL9, pxL10, pxL11, pxL12, pxL13, pxL14, pxL15, pxL16, pxL17, pxL18, pxL19, pxL20, pxL21, pxL22, pxL23, pxL24, pxL25, pxL26, pxL27, pxL28, pxL29, pxL30, pxL31, pxL32, pxL33, pxL34, pxL35, pxL36, pxL37, pxL38, pxL39, pxL40, pxL41, pxL42, pxL43, pxL44, pxL45, pxL46, pxL47, pxL48, pxL49, pxL51, pxL57, pxL58, pxL59, pxL60, pxL61, pxL62, pxL63, pxL64, pxL65, pxL66, pxL67, pxL68, pxL69, pxL70, pxL71, pxL72, pxL73, pxL74, pxL75, pxL76, pxL77, pxL78, pxL79, pxL80, pxL81, pxL82, pxL83, pxL84, pxL85, pxL86, pxL87, pxL88, pxL89, pxL90, pxL91, pxL92, pxL93, pxL94, pxL95, pxL96, pxL97, pxL98, pxL99, pxL100, pxL101, pxL102, pxL103, pxL104, pxL105, pxL106, pxL107, pxL108, pxL109, pxL110, pxL111, pxL112, pxL113, pxL114, pxL115, pxL116, pxL117, pxL118, pxL119, pxL120, pxL121, pxL122, pxL123, pxL124, pxL125, pxL126, pxL200, pxL240, pxL287, pxL388, pxL400, pxL429, pxL431, pxL440, pxL1240, pxL1600, pxL1681, pxL12028, pxL13849, pxL14880, pxL25173, pxL26908, pxL49600, pxL65535, pxL65536, ↓reduceIte, reduceCtorEq, pxJ_add, pxJ_sub, pxJ_mul, pxJ_neg, pxD_lt_t, pxD_lt_f, pxD_le_t, pxD_le_f, pxD_eq_t, pxD_eq_f, pxJ_lt, pxJ_le, pxJ_eq, px_gI, px_gR, px_pI, px_rc, px_ai, px_ar, px_si, px_ln, px_cp, pxJ_div, pxJ_b8, pxJ_byte, px_b2, px_bs, px_rb0, px_rb1, px_min, px_max, px_compare, pxW_some, jw_t_I, px_cpt, jw_r_I, px_cpr, jw_l_I, px_cpl, Option.some.injEq, m0, m5, v1, m02]
          | true =>
            rw [show (if true = true then (1 : Int) else 0) = 1 from rfl]
            by_cases c2 : x = fr
            · have c3 : ¬ y = fr := fun z => cc ⟨rfl, c2, z⟩
              rw [c2] at v1
              simp (maxSteps := 4000000) (disch := first | assumption | omega | (simp only [jw_t_I, px_cpt]; done) | (simp only [jw_t_I, px_cpt]; omega)) only [pxL0, pxL1, pxL2, pxL3, pxL4, pxL5, pxL6, pxL7, pxL8, pxL9, pxL10, pxL11, pxL12, pxL13, pxL14, pxL15, pxL16, pxL17, pxL18, pxL19, pxL20, pxL21, pxL22, pxL23, pxL24, pxL25, pxL26, pxL27, pxL28, pxL29, pxL30, pxL31, pxL32, pxL33, pxL34, pxL35, pxL36, pxL37, pxL38, pxL39, pxL40, pxL41, pxL42, pxL43, pxL44, pxL45, pxL46, pxL47, pxL48, pxL49, pxL51, pxL57, pxL58, pxL59, pxL60, pxL61, pxL62, pxL63, pxL64, pxL65, pxL66, pxL67, pxL68, pxL69, pxL70, pxL71, pxL72, pxL73, pxL74, pxL75, pxL76, pxL77, pxL78, pxL79, pxL80, pxL81, pxL82, pxL83, pxL84, pxL85, pxL86, pxL87, pxL88, pxL89, pxL90, pxL91, pxL92, pxL93, pxL94, pxL95, pxL96, pxL97, pxL98, pxL99, pxL100, pxL101, pxL102, pxL103, pxL104, pxL105, pxL106, pxL107, pxL108, pxL109, pxL110, pxL111, pxL112, pxL113, pxL114, pxL115, pxL116, pxL117, pxL118, pxL119, pxL120, pxL121, pxL122, pxL123, pxL124, pxL125, pxL126, pxL200, pxL240, pxL287, pxL388, pxL400, pxL429, pxL431, pxL440, pxL1240, pxL1600, pxL1681, pxL12028, pxL13849, pxL14880, pxL25173, pxL26908, pxL49600, pxL65535, pxL65536, ↓reduceIte, reduceCtorEq, pxJ_add, pxJ_sub, pxJ_mul, pxJ_neg, pxD_lt_t, pxD_lt_f, pxD_le_t, pxD_le_f, pxD_eq_t, pxD_eq_f, pxJ_lt, pxJ_le, pxJ_eq, px_gI, px_gR, px_pI, px_rc, px_ai, px_ar, px_si, px_ln, px_cp, pxJ_div, pxJ_b8, pxJ_byte, px_b2, px_bs, px_rb0, px_rb1, px_min, px_max, px_compare, pxW_some, jw_t_I, px_cpt, jw_r_I, px_cpr, jw_l_I, px_cpl, Option.some.injEq, m0, m5, v1, m02, c2]
            · simp (maxSteps := 4000000) (disch := first | assumption | omega | (simp only [jw_t_I, px_cpt]; done) | (simp only [jw_t_I, px_cpt]; omega)) only [pxL0, pxL1, pxL2, pxL3, pxL4, pxL5, pxL6, pxL7, pxL8, pxL9, pxL10, pxL11, pxL12, pxL13, pxL14, pxL15, pxL16, pxL17, pxL18, pxL19, pxL20, pxL21, pxL22, pxL23, pxL24, pxL25, pxL26, pxL27, pxL28, pxL29, pxL30, pxL31, pxL32, pxL33, pxL34, pxL35, pxL36, pxL37, pxL38, pxL39, pxL40, pxL41, pxL42, pxL43, pxL44, pxL45, pxL46, pxL47, pxL48, pxL49, pxL51, pxL57, pxL58, pxL59, pxL60, pxL61, pxL62, pxL63, pxL64, pxL65, pxL66, pxL67, pxL68, pxL69, pxL70, pxL71, pxL72, pxL73, pxL74, pxL75, pxL76, pxL77, pxL78, pxL79, pxL80, pxL81, pxL82, pxL83, pxL84, pxL85, pxL86, pxL87, pxL88, pxL89, pxL90, pxL91, pxL92, pxL93, pxL94, pxL95, pxL96, pxL97, pxL98, pxL99, pxL100, pxL101, pxL102, pxL103, pxL104, pxL105, pxL106, pxL107, pxL108, pxL109, pxL110, pxL111, pxL112, pxL113, pxL114, pxL115, pxL116, pxL117, pxL118, pxL119, pxL120, pxL121, pxL122, pxL123, pxL124, pxL125, pxL126, pxL200, pxL240, pxL287, pxL388, pxL400, pxL429, pxL431, pxL440, pxL1240, pxL1600, pxL1681, pxL12028, pxL13849, pxL14880, pxL25173, pxL26908, pxL49600, pxL65535, pxL65536, ↓reduceIte, reduceCtorEq, pxJ_add, pxJ_sub, pxJ_mul, pxJ_neg, pxD_lt_t, pxD_lt_f, pxD_le_t, pxD_le_f, pxD_eq_t, pxD_eq_f, pxJ_lt, pxJ_le, pxJ_eq, px_gI, px_gR, px_pI, px_rc, px_ai, px_ar, px_si, px_ln, px_cp, pxJ_div, pxJ_b8, pxJ_byte, px_b2, px_bs, px_rb0, px_rb1, px_min, px_max, px_compare, pxW_some, jw_t_I, px_cpt, jw_r_I, px_cpr, jw_l_I, px_cpl, Option.some.injEq, m0, m5, v1, m02]
        · simp (disch := omega) only [pxM_ne, pxM_eq, pxPl_p, pxPl_n]
        · simp (disch := omega) only [pxM_ne, pxM_eq, pxPl_p, pxPl_n]
        · obtain ⟨b1, b2, b3, b4, b5⟩ := v5 k k1 k2
          rw [pxM_ne (by omega), pxM_ne (by omega), pxM_ne (by omega), pxM_ne (by omega)]
          exact ⟨b1, b2, b3, b4, by omega⟩
theorem s_X4_search {h : jw_H} {e most fr : Int} {on : Bool} {l : List (Int × Int)} (W : pxWE 0 0 0 l) (f0 : 0 ≤ fr) (f1 : fr ≤ r.length) (H : pxPE h s e most l) (T : pxMT h r) :
    pxSO h r.length fr (pxGc 0 l) (pxFind s r l fr on) (f_X4_search h 531 (pxJ e) (pxJ fr) (pxJ (if on = true then 1 else 0))) := by
  have l30 := T.2.1.1
  exact s_X4_search_b3 W f0 (r.length - fr + 1).toNat jw_FU h fr (by omega) (by unfold jw_FU; omega) (Int.le_refl _) H T
/-- what the matcher may change -/
def pxQx : Nat → Nat → Prop := fun k f => (k = 531 ∧ 5 ≤ f) ∨ (532 ≤ k ∧ k ≤ 535)
theorem pxQs_x {h h' : jw_H} (F : pxF pxQs h h') : pxF pxQx h h' := F.mono (fun k f z => by unfold pxQs at z; unfold pxQx; omega)
theorem pxMS.fx {h h' : jw_H} (M : pxMS h) (F : pxF pxQx h h') : pxMS h' := M.fr F (fun f z => by unfold pxQx; omega)
theorem pxPE.fx {h h' : jw_H} {e most : Int} {l : List (Int × Int)} (H : pxPE h s e most l) (F : pxF pxQx h h') : pxPE h' s e most l := H.fr F (fun k f z => by unfold pxQx; omega)
theorem s_X4_load_b19 {ρ cap : Nat} {rs : List (List Int)} {x : Int} (hd : ρ + 2 < 531 ∨ 535 < ρ) (x1 : 1 ≤ x) (x2 : x ≤ rs.length) : ∀ (m N : Nat) (h : jw_H) (y : Int), y + m = pxLn rs x → m < N → 0 ≤ y → pxMS h → pxIR h ρ cap rs → pxM h 531 5 = y → (∀ j : Int, 0 ≤ j → j < y → pxM h 532 j.toNat = pxE (pxRw rs x) j ∧ jw_l h 533 j.toNat = pxBit (pxE (pxRw rs x) j)) →
    ∃ h', f_X4_load_b19 N h 531 (some ρ) (pxJ x) (pxJ (pxLn rs x)) (pxJ y) = some ((), h') ∧ pxF pxQx h h' ∧ pxMT h' (pxRw rs x) := by
  intro m
  induction m with
  | zero =>
    intro N h y em hN y0 M R m5 mr
    obtain ⟨N, rfl, hN⟩ := px_fu hN
    have ok := R.2.2.1
    have or := pxRw_or ok x
    have l30 := or.1
    have ey : y = (pxRw rs x).length := by
      have : pxLn rs x = (pxRw rs x).length := rfl
      omega
    rw [u_X4_load_b19]
    unfold g_X4_load_b19
    have eL : pxLn rs x = (pxRw rs x).length := rfl
    refine ⟨h, ?_, pxF.rfl, M, or, by rw [m5, ey], fun j j0 j1 => mr j j0 (by omega)⟩
    simp (maxSteps := 4000000) (disch := first | assumption | omega | (simp only [jw_t_I, px_cpt]; done) | (simp only [jw_t_I, px_cpt]; omega)) only [pxL0, pxL1, pxL2, pxL3, pxL4, pxL5, pxL6, pxL7, pxL8, pxL9, pxL10, pxL11, pxL12, pxL13, pxL14, pxL15, pxL16, pxL17, pxL18, pxL19, pxL20, pxL21, pxL22, pxL23, pxL24, pxL25, pxL26, pxL27, pxL28, pxL29, pxL30, pxL31, pxL32, pxL33, pxL34, pxL35, pxL36, pxL37, pxL38, pxL39, pxL40, pxL41, pxL42, pxL43, pxL44, pxL45, pxL46, pxL47, pxL48, pxL49, pxL51, pxL57, pxL58, pxL59, pxL60, pxL61, pxL62, pxL63, pxL64, pxL65, pxL66, pxL67, pxL68, pxL69, pxL70, pxL71, pxL72, pxL73, pxL74, pxL75, pxL76, pxL77, pxL78, pxL79, pxL80, pxL81, pxL82, pxL83, pxL84, pxL85, pxL86, pxL87, pxL88, pxL89, pxL90, pxL91, pxL92, pxL93, pxL94, pxL95, pxL96, pxL97, pxL98, pxL99, pxL100, pxL101, pxL102, pxL103, pxL104, pxL105, pxL106, pxL107, pxL108, pxL109, pxL110, pxL111, pxL112, pxL113, pxL114, pxL115, pxL116, pxL117, pxL118, pxL119, pxL120, pxL121, pxL122, pxL123, pxL124, pxL125, pxL126, pxL200, pxL240, pxL287, pxL388, pxL400, pxL429, pxL431, pxL440, pxL1240, pxL1600, pxL1681, pxL12028, pxL13849, pxL14880, pxL25173, pxL26908, pxL49600, pxL65535, pxL65536, ↓reduceIte, reduceCtorEq, pxJ_add, pxJ_sub, pxJ_mul, pxJ_neg, pxD_lt_t, pxD_lt_f, pxD_le_t, pxD_le_f, pxD_eq_t, pxD_eq_f, pxJ_lt, pxJ_le, pxJ_eq, px_gI, px_gR, px_pI, px_rc, px_ai, px_ar, px_si, px_ln, px_cp, pxJ_div, pxJ_b8, pxJ_byte, px_b2, px_bs, px_rb0, px_rb1, px_min, px_max, px_compare, pxW_some, jw_t_I, px_cpt, jw_r_I, px_cpr, jw_l_I, px_cpl, Option.some.injEq]
  | succ m ih =>
    intro N h y em hN y0 M R m5 mr
    obtain ⟨N, rfl, hN⟩ := px_fu hN
    have ok := R.2.2.1
    have or := pxRw_or ok x
    have l30 := or.1
    have eL : pxLn rs x = (pxRw rs x).length := rfl
    have M' := M
    obtain ⟨m0, q0, q1, q2, q3, q4, t532, t533, t534, t535⟩ := M'
    have t7 := R.1.1
    have cap100 := R.1.2.2.2.2.2
    have rl := R.2.1
    have sg := s_X7_signAt R (x := x) (y := y) (by omega) (by omega) (by omega) (by omega)
    rw [pxSgA_t ⟨x1, x2, y0, by omega⟩] at sg
    have es : pxSg rs x y = pxE (pxRw rs x) y := rfl
    rw [es] at sg
    have ch := pxE_ch or y0 (by omega)
    have ci := pxCh_in ch
    have bo := px_bitOf (h := jw_setI h 532 y.toNat (pxJ (pxE (pxRw rs x) y))) (c := pxE (pxRw rs x) y) (by omega) (by omega)
    have ln1 : jw_ln h (some 532) = some (pxJ 30) := by rw [px_ln (by rw [t532]; simp), t532]; rfl
    have ln2 : jw_ln h (some 533) = some (pxJ 30) := by rw [px_ln (by rw [t533]; simp), t533]; rfl
    have b8 : vp_nar .byte (pxJ (pxE (pxRw rs x) y)).toInt8.toInt32 = pxJ (pxE (pxRw rs x) y) := by rw [pxJ_b8 (by omega) (by omega), pxJ_byte (by omega) (by omega)]
    have si : jw_si h 21 (some 532) (pxJ y) (pxJ (pxE (pxRw rs x) y)) = some (jw_setI h 532 y.toNat (pxJ (pxE (pxRw rs x) y))) := px_si (by rw [t532]) y0 (by rw [t532]; show y < ((30 : Nat) : Int); omega) (by omega)
    have m02 : (jw_t (jw_setI h 532 y.toNat (pxJ (pxE (pxRw rs x) y))) 531).1 = 4 := m0
    have q22 : jw_r (jw_setI h 532 y.toNat (pxJ (pxE (pxRw rs x) y))) 531 2 = some 533 := q2
    have sl : jw_sl (jw_setI h 532 y.toNat (pxJ (pxE (pxRw rs x) y))) (some 533) (pxJ y) (pxBit (pxE (pxRw rs x) y)) = some (jw_setL (jw_setI h 532 y.toNat (pxJ (pxE (pxRw rs x) y))) 533 y.toNat (pxBit (pxE (pxRw rs x) y))) := px_sl (by show (jw_t h 533).1 = 23; rw [t533]) y0 (by show y < ((jw_t h 533).2 : Int); rw [t533]; show y < ((30 : Nat) : Int); omega) (by omega)
    have m03 : (jw_t (jw_setL (jw_setI h 532 y.toNat (pxJ (pxE (pxRw rs x) y))) 533 y.toNat (pxBit (pxE (pxRw rs x) y))) 531).1 = 4 := m0
    have F : pxF pxQx h (jw_setI (jw_setL (jw_setI h 532 y.toNat (pxJ (pxE (pxRw rs x) y))) 533 y.toNat (pxBit (pxE (pxRw rs x) y))) 531 5 (pxJ (y + 1))) := ((pxF.setI (by unfold pxQx; omega)).trans (pxF.setL (by unfold pxQx; omega))).trans (pxF.setI (by unfold pxQx; omega))
    obtain ⟨h2, v1, v2, v3⟩ := ih N _ (y + 1) (by omega) (by omega) (by omega) (M.fx F) (R.fr F (fun k f z1 z2 => by unfold pxQx; omega)) (pxM_eq (by omega) (by omega)) (fun j j0 j1 => by
      by_cases ej : j = y
      · subst ej
        refine ⟨?_, ?_⟩
        · rw [pxM_ne (by omega), pxM_L, pxM_eq (by omega) (by omega)]
        · show jw_u (jw_l h) 533 j.toNat (pxBit (pxE (pxRw rs x) j)) 533 j.toNat = _
          unfold jw_u; simp
      · obtain ⟨a1, a2⟩ := mr j j0 (by omega)
        refine ⟨?_, ?_⟩
        · rw [pxM_ne (by omega), pxM_L, pxM_ne (by omega)]; exact a1
        · have : jw_u (jw_l h) 533 y.toNat (pxBit (pxE (pxRw rs x) y)) 533 j.toNat = jw_l h 533 j.toNat := by
            unfold jw_u
            rw [if_pos rfl, if_neg (show ¬ j.toNat = y.toNat by omega)]
          exact this.trans a2)
    refine ⟨h2, ?_, F.trans v2, v3⟩
    rw [u_X4_load_b19]
    unfold g_X4_load_b19
    simp (maxSteps := 4000000) (disch := first | assumption | omega | (simp only [jw_t_I, px_cpt]; done) | (simp only [jw_t_I, px_cpt]; omega)) only [pxL0, pxL1, pxL2, pxL3, pxL4, pxL5, pxL6, pxL7, pxL8, pxL9, pxL10, pxL11, pxL12, pxL13, pxL14, pxL15, pxL16, pxL17, pxL18, pxL19, pxL20, pxL21, pxL22, pxL23, pxL24, pxL25, pxL26, pxL27, pxL28, pxL29, pxL30, pxL31, pxL32, pxL33, pxL34, pxL35, pxL36, pxL37, pxL38, pxL39, pxL40, pxL41, pxL42, pxL43, pxL44, pxL45, pxL46, pxL47, pxL48, pxL49, pxL51, pxL57, pxL58, pxL59, pxL60, pxL61, pxL62, pxL63, pxL64, pxL65, pxL66, pxL67, pxL68, pxL69, pxL70, pxL71, pxL72, pxL73, pxL74, pxL75, pxL76, pxL77, pxL78, pxL79, pxL80, pxL81, pxL82, pxL83, pxL84, pxL85, pxL86, pxL87, pxL88, pxL89, pxL90, pxL91, pxL92, pxL93, pxL94, pxL95, pxL96, pxL97, pxL98, pxL99, pxL100, pxL101, pxL102, pxL103, pxL104, pxL105, pxL106, pxL107, pxL108, pxL109, pxL110, pxL111, pxL112, pxL113, pxL114, pxL115, pxL116, pxL117, pxL118, pxL119, pxL120, pxL121, pxL122, pxL123, pxL124, pxL125, pxL126, pxL200, pxL240, pxL287, pxL388, pxL400, pxL429, pxL431, pxL440, pxL1240, pxL1600, pxL1681, pxL12028, pxL13849, pxL14880, pxL25173, pxL26908, pxL49600, pxL65535, pxL65536, ↓reduceIte, reduceCtorEq, pxJ_add, pxJ_sub, pxJ_mul, pxJ_neg, pxD_lt_t, pxD_lt_f, pxD_le_t, pxD_le_f, pxD_eq_t, pxD_eq_f, pxJ_lt, pxJ_le, pxJ_eq, px_gI, px_gR, px_pI, px_rc, px_ai, px_ar, px_si, px_ln, px_cp, pxJ_div, pxJ_b8, pxJ_byte, px_b2, px_bs, px_rb0, px_rb1, px_min, px_max, px_compare, pxW_some, jw_t_I, px_cpt, jw_r_I, px_cpr, jw_l_I, px_cpl, Option.some.injEq, m0, q1, q2, ln1, ln2, t7, sg, b8, si, m02, q22, bo, sl, m03, v1]
theorem s_X4_load {h : jw_H} {ρ cap : Nat} {rs : List (List Int)} {x : Int} (hd : ρ + 2 < 531 ∨ 535 < ρ) (M : pxMS h) (R : pxIR h ρ cap rs) (x1 : 1 ≤ x) (x2 : x ≤ rs.length) :
    ∃ h', f_X4_load h 531 (some ρ) (pxJ x) = some ((), h') ∧ pxF pxQx h h' ∧ pxMT h' (pxRw rs x) := by
  have m0 := M.1
  have t7 := R.1.1
  have rl := R.2.1
  have cap100 := R.1.2.2.2.2.2
  have ll := pxLn_le R.2.2.1 x
  have l0 := pxLn_0 rs x
  have F : pxF pxQx h (jw_setI h 531 5 (pxJ 0)) := pxF.setI (by unfold pxQx; omega)
  have R1 := R.fr F (fun k f z1 z2 => by unfold pxQx; omega)
  have t71 := R1.1.1
  have lo := s_X7_lengthOf R1 (x := x) (by omega) (by omega)
  rw [pxLnA_t ⟨x1, x2⟩] at lo
  have mn : min (pxLn rs x) 30 = pxLn rs x := by omega
  obtain ⟨h2, v1, v2, v3⟩ := s_X4_load_b19 hd x1 x2 (pxLn rs x).toNat jw_FU (jw_setI h 531 5 (pxJ 0)) 0 (by omega) (by unfold jw_FU; omega) (by omega) (M.fx F) R1 (pxM_eq (by omega) (by omega)) (fun j j0 j1 => by omega)
  refine ⟨h2, ?_, F.trans v2, v3⟩
  unfold f_X4_load
  simp (maxSteps := 4000000) (disch := first | assumption | omega | (simp only [jw_t_I, px_cpt]; done) | (simp only [jw_t_I, px_cpt]; omega)) only [pxL0, pxL1, pxL2, pxL3, pxL4, pxL5, pxL6, pxL7, pxL8, pxL9, pxL10, pxL11, pxL12, pxL13, pxL14, pxL15, pxL16, pxL17, pxL18, pxL19, pxL20, pxL21, pxL22, pxL23, pxL24, pxL25, pxL26, pxL27, pxL28, pxL29, pxL30, pxL31, pxL32, pxL33, pxL34, pxL35, pxL36, pxL37, pxL38, pxL39, pxL40, pxL41, pxL42, pxL43, pxL44, pxL45, pxL46, pxL47, pxL48, pxL49, pxL51, pxL57, pxL58, pxL59, pxL60, pxL61, pxL62, pxL63, pxL64, pxL65, pxL66, pxL67, pxL68, pxL69, pxL70, pxL71, pxL72, pxL73, pxL74, pxL75, pxL76, pxL77, pxL78, pxL79, pxL80, pxL81, pxL82, pxL83, pxL84, pxL85, pxL86, pxL87, pxL88, pxL89, pxL90, pxL91, pxL92, pxL93, pxL94, pxL95, pxL96, pxL97, pxL98, pxL99, pxL100, pxL101, pxL102, pxL103, pxL104, pxL105, pxL106, pxL107, pxL108, pxL109, pxL110, pxL111, pxL112, pxL113, pxL114, pxL115, pxL116, pxL117, pxL118, pxL119, pxL120, pxL121, pxL122, pxL123, pxL124, pxL125, pxL126, pxL200, pxL240, pxL287, pxL388, pxL400, pxL429, pxL431, pxL440, pxL1240, pxL1600, pxL1681, pxL12028, pxL13849, pxL14880, pxL25173, pxL26908, pxL49600, pxL65535, pxL65536, ↓reduceIte, reduceCtorEq, pxJ_add, pxJ_sub, pxJ_mul, pxJ_neg, pxD_lt_t, pxD_lt_f, pxD_le_t, pxD_le_f, pxD_eq_t, pxD_eq_f, pxJ_lt, pxJ_le, pxJ_eq, px_gI, px_gR, px_pI, px_rc, px_ai, px_ar, px_si, px_ln, px_cp, pxJ_div, pxJ_b8, pxJ_byte, px_b2, px_bs, px_rb0, px_rb1, px_min, px_max, px_compare, pxW_some, jw_t_I, px_cpt, jw_r_I, px_cpr, jw_l_I, px_cpl, Option.some.injEq, m0, t71, lo, mn, v1]
/-- whether a row holds a pattern -/
def pxHolds (s : List Int) (l : List (Int × Int)) (r : List Int) : Bool := (pxFind s r l 0 false).isSome
theorem s_X4_holds {h : jw_H} {ρ cap : Nat} {rs : List (List Int)} {x e most : Int} {l : List (Int × Int)} (hd : ρ + 2 < 531 ∨ 535 < ρ) (hl : 253 < ρ) (M : pxMS h) (R : pxIR h ρ cap rs) (x1 : 1 ≤ x) (x2 : x ≤ rs.length) (W : pxWE 0 0 0 l) (H : pxPE h s e most l) :
    ∃ h', f_X4_holds h 531 (some ρ) (pxJ x) (pxJ e) = some (pxJ (if pxHolds s l (pxRw rs x) = true then 1 else 0), h') ∧ pxF pxQx h h' ∧ (∀ a b o c, pxFind s (pxRw rs x) l 0 false = some (a, b, o, c) → pxM h' 531 6 = a ∧ pxM h' 531 7 = b) := by
  have m0 := M.1
  obtain ⟨h1, v1, v2, v3⟩ := s_X4_load hd M R x1 x2
  have m01 := v3.1.1
  obtain ⟨z1, z2⟩ := s_X4_search (on := false) W (Int.le_refl 0) (by omega) (H.fx v2) v3
  unfold f_X4_holds pxHolds
  cases hf : pxFind s (pxRw rs x) l 0 false with
  | none =>
    obtain ⟨h2, w1, w2⟩ := z1 hf
    refine ⟨h2, ?_, v2.trans (pxQs_x w2), fun a b o c z => (by cases z)⟩
    rw [show (if false = true then (1 : Int) else 0) = 0 from rfl] at w1
    simp only [Option.isSome_none, Bool.false_eq_true, ↓reduceIte]
    simp (maxSteps := 4000000) (disch := first | assumption | omega | (simp only [jw_t_I, px_cpt]; done) | (simp only [jw_t_I, px_cpt]; omega)) only [pxL0, pxL1, pxL2, pxL3, pxL4, pxL5, pxL6, pxL7, pxL8, pxL9, pxL10, pxL11, pxL12, pxL13, pxL14, pxL15, pxL16, pxL17, pxL18, pxL19, pxL20, pxL21, pxL22, pxL23, pxL24, pxL25, pxL26, pxL27, pxL28, pxL29, pxL30, pxL31, pxL32, pxL33, pxL34, pxL35, pxL36, pxL37, pxL38, pxL39, pxL40, pxL41, pxL42, pxL43, pxL44, pxL45, pxL46, pxL47, pxL48, pxL49, pxL51, pxL57, pxL58, pxL59, pxL60, pxL61, pxL62, pxL63, pxL64, pxL65, pxL66, pxL67, pxL68, pxL69, pxL70, pxL71, pxL72, pxL73, pxL74, pxL75, pxL76, pxL77, pxL78, pxL79, pxL80, pxL81, pxL82, pxL83, pxL84, pxL85, pxL86, pxL87, pxL88, pxL89, pxL90, pxL91, pxL92, pxL93, pxL94, pxL95, pxL96, pxL97, pxL98, pxL99, pxL100, pxL101, pxL102, pxL103, pxL104, pxL105, pxL106, pxL107, pxL108, pxL109, pxL110, pxL111, pxL112, pxL113, pxL114, pxL115, pxL116, pxL117, pxL118, pxL119, pxL120, pxL121, pxL122, pxL123, pxL124, pxL125, pxL126, pxL200, pxL240, pxL287, pxL388, pxL400, pxL429, pxL431, pxL440, pxL1240, pxL1600, pxL1681, pxL12028, pxL13849, pxL14880, pxL25173, pxL26908, pxL49600, pxL65535, pxL65536, ↓reduceIte, reduceCtorEq, pxJ_add, pxJ_sub, pxJ_mul, pxJ_neg, pxD_lt_t, pxD_lt_f, pxD_le_t, pxD_le_f, pxD_eq_t, pxD_eq_f, pxJ_lt, pxJ_le, pxJ_eq, px_gI, px_gR, px_pI, px_rc, px_ai, px_ar, px_si, px_ln, px_cp, pxJ_div, pxJ_b8, pxJ_byte, px_b2, px_bs, px_rb0, px_rb1, px_min, px_max, px_compare, pxW_some, jw_t_I, px_cpt, jw_r_I, px_cpr, jw_l_I, px_cpl, Option.some.injEq, m0, v1, m01, w1]
  | some v =>
    obtain ⟨x', y', o', c'⟩ := v
    obtain ⟨h2, w1, w2, w3, w4, -⟩ := z2 x' y' o' c' hf
    refine ⟨h2, ?_, v2.trans (pxQs_x w2), fun a b o c z => ?_⟩
    · rw [show (if false = true then (1 : Int) else 0) = 0 from rfl] at w1
      simp only [Option.isSome_some, ↓reduceIte]
      simp (maxSteps := 4000000) (disch := first | assumption | omega | (simp only [jw_t_I, px_cpt]; done) | (simp only [jw_t_I, px_cpt]; omega)) only [pxL0, pxL1, pxL2, pxL3, pxL4, pxL5, pxL6, pxL7, pxL8, pxL9, pxL10, pxL11, pxL12, pxL13, pxL14, pxL15, pxL16, pxL17, pxL18, pxL19, pxL20, pxL21, pxL22, pxL23, pxL24, pxL25, pxL26, pxL27, pxL28, pxL29, pxL30, pxL31, pxL32, pxL33, pxL34, pxL35, pxL36, pxL37, pxL38, pxL39, pxL40, pxL41, pxL42, pxL43, pxL44, pxL45, pxL46, pxL47, pxL48, pxL49, pxL51, pxL57, pxL58, pxL59, pxL60, pxL61, pxL62, pxL63, pxL64, pxL65, pxL66, pxL67, pxL68, pxL69, pxL70, pxL71, pxL72, pxL73, pxL74, pxL75, pxL76, pxL77, pxL78, pxL79, pxL80, pxL81, pxL82, pxL83, pxL84, pxL85, pxL86, pxL87, pxL88, pxL89, pxL90, pxL91, pxL92, pxL93, pxL94, pxL95, pxL96, pxL97, pxL98, pxL99, pxL100, pxL101, pxL102, pxL103, pxL104, pxL105, pxL106, pxL107, pxL108, pxL109, pxL110, pxL111, pxL112, pxL113, pxL114, pxL115, pxL116, pxL117, pxL118, pxL119, pxL120, pxL121, pxL122, pxL123, pxL124, pxL125, pxL126, pxL200, pxL240, pxL287, pxL388, pxL400, pxL429, pxL431, pxL440, pxL1240, pxL1600, pxL1681, pxL12028, pxL13849, pxL14880, pxL25173, pxL26908, pxL49600, pxL65535, pxL65536, ↓reduceIte, reduceCtorEq, pxJ_add, pxJ_sub, pxJ_mul, pxJ_neg, pxD_lt_t, pxD_lt_f, pxD_le_t, pxD_le_f, pxD_eq_t, pxD_eq_f, pxJ_lt, pxJ_le, pxJ_eq, px_gI, px_gR, px_pI, px_rc, px_ai, px_ar, px_si, px_ln, px_cp, pxJ_div, pxJ_b8, pxJ_byte, px_b2, px_bs, px_rb0, px_rb1, px_min, px_max, px_compare, pxW_some, jw_t_I, px_cpt, jw_r_I, px_cpr, jw_l_I, px_cpl, Option.some.injEq, m0, v1, m01, w1]
    · have z' : (x', y', o', c') = (a, b, o, c) := Option.some.inj z
      obtain ⟨rfl, rfl, rfl, rfl⟩ : x' = a ∧ y' = b ∧ o' = o ∧ c' = c := by
        simp only [Prod.mk.injEq] at z'; exact z'
      exact ⟨w3, w4⟩
/-- the next line that is looked at -/
def pxNx (back : Bool) (n x : Int) : Int := if back = true then (if x - 1 < 1 then n else x - 1) else if n < x + 1 then 1 else x + 1
def pxLW (s : List Int) (l : List (Int × Int)) (rs : List (List Int)) (back : Bool) : Nat → Int → Int
  | 0, _ => -1
  | m + 1, x => if pxHolds s l (pxRw rs (pxNx back rs.length x)) = true then pxNx back rs.length x else pxLW s l rs back m (pxNx back rs.length x)
theorem s_X4_lineWith_b15 {t : Nat} {ls : pxLs} {mk : Int → Int} {now nx e most : Int} {l : List (Int × Int)} {back : Bool} (hd : t + 5 < 531 ∨ 535 < t) (hl : 253 < t) (W : pxWE 0 0 0 l) : ∀ (m N : Nat) (h : jw_H) (x : Int), m ≤ ls.length → m < N → 0 ≤ x → x ≤ ls.length → pxMS h → pxIT h t ls mk now nx → pxPE h s e most l →
    ∃ h', f_X4_lineWith_b15 N h 531 (some t) (pxJ e) (pxJ (if back = true then 1 else 0)) (pxJ x) (pxJ m) = some (pxJ (pxLW s l (pxRs ls) back m x), h') ∧ pxF pxQx h h' := by
  intro m
  induction m with
  | zero =>
    intro N h x ml hN x0 x1 M T H
    obtain ⟨N, rfl, hN⟩ := px_fu hN
    rw [u_X4_lineWith_b15]
    unfold g_X4_lineWith_b15
    refine ⟨h, ?_, pxF.rfl⟩
    have e0 : pxJ ((0 : Nat) : Int) = pxJ 0 := rfl
    rw [e0]
    simp (maxSteps := 4000000) (disch := first | assumption | omega | (simp only [jw_t_I, px_cpt]; done) | (simp only [jw_t_I, px_cpt]; omega)) only [pxL0, pxL1, pxL2, pxL3, pxL4, pxL5, pxL6, pxL7, pxL8, pxL9, pxL10, pxL11, pxL12, pxL13, pxL14, pxL15, pxL16, pxL17, pxL18, pxL19, pxL20, pxL21, pxL22, pxL23, pxL24, pxL25, pxL26, pxL27, pxL28, pxL29, pxL30, pxL31, pxL32, pxL33, pxL34, pxL35, pxL36, pxL37, pxL38, pxL39, pxL40, pxL41, pxL42, pxL43, pxL44, pxL45, pxL46, pxL47, pxL48, pxL49, pxL51, pxL57, pxL58, pxL59, pxL60, pxL61, pxL62, pxL63, pxL64, pxL65, pxL66, pxL67, pxL68, pxL69, pxL70, pxL71, pxL72, pxL73, pxL74, pxL75, pxL76, pxL77, pxL78, pxL79, pxL80, pxL81, pxL82, pxL83, pxL84, pxL85, pxL86, pxL87, pxL88, pxL89, pxL90, pxL91, pxL92, pxL93, pxL94, pxL95, pxL96, pxL97, pxL98, pxL99, pxL100, pxL101, pxL102, pxL103, pxL104, pxL105, pxL106, pxL107, pxL108, pxL109, pxL110, pxL111, pxL112, pxL113, pxL114, pxL115, pxL116, pxL117, pxL118, pxL119, pxL120, pxL121, pxL122, pxL123, pxL124, pxL125, pxL126, pxL200, pxL240, pxL287, pxL388, pxL400, pxL429, pxL431, pxL440, pxL1240, pxL1600, pxL1681, pxL12028, pxL13849, pxL14880, pxL25173, pxL26908, pxL49600, pxL65535, pxL65536, ↓reduceIte, reduceCtorEq, pxJ_add, pxJ_sub, pxJ_mul, pxJ_neg, pxD_lt_t, pxD_lt_f, pxD_le_t, pxD_le_f, pxD_eq_t, pxD_eq_f, pxJ_lt, pxJ_le, pxJ_eq, px_gI, px_gR, px_pI, px_rc, px_ai, px_ar, px_si, px_ln, px_cp, pxJ_div, pxJ_b8, pxJ_byte, px_b2, px_bs, px_rb0, px_rb1, px_min, px_max, px_compare, pxW_some, jw_t_I, px_cpt, jw_r_I, px_cpr, jw_l_I, px_cpl, Option.some.injEq]
    rfl
  | succ m ih =>
    intro N h x ml hN x0 x1 M T H
    obtain ⟨N, rfl, hN⟩ := px_fu hN
    have l40 := T.len
    have m0 := M.1
    have c2 := T.c2
    have t9 := T.1.1
    have r0 := T.1.2.1
    have t7 := T.2.1.1.1
    have nxb : 1 ≤ pxNx back ls.length x ∧ pxNx back ls.length x ≤ ls.length := by
      unfold pxNx
      cases back with
      | false =>
        rw [if_neg (by simp)]
        by_cases c : (ls.length : Int) < x + 1
        · rw [if_pos c]; omega
        · rw [if_neg c]; omega
      | true =>
        rw [if_pos rfl]
        by_cases c : x - 1 < 1
        · rw [if_pos c]; omega
        · rw [if_neg c]; omega
    have rsl : ((pxRs ls).length : Int) = ls.length := by rw [pxRs_len]
    obtain ⟨h1, v1, v2, v3⟩ := s_X4_load (ρ := t + 1) (by omega) M T.2.1 nxb.1 (by omega)
    have m01 := v3.1.1
    obtain ⟨z1, z2⟩ := s_X4_search (on := false) W (Int.le_refl 0) (by omega) (H.fx v2) v3
    rw [show (if false = true then (1 : Int) else 0) = 0 from rfl] at z1 z2
    have lw : pxLW s l (pxRs ls) back (m + 1) x = if pxHolds s l (pxRw (pxRs ls) (pxNx back ls.length x)) = true then pxNx back ls.length x else pxLW s l (pxRs ls) back m (pxNx back ls.length x) := by
      show (if pxHolds s l (pxRw (pxRs ls) (pxNx back (pxRs ls).length x)) = true then pxNx back (pxRs ls).length x else pxLW s l (pxRs ls) back m (pxNx back (pxRs ls).length x)) = _
      rw [rsl]
    have b67 : ∃ h', g_X4_lineWith_b67 (f_X4_lineWith_b15 N) h 531 (some t) (pxJ e) (pxJ (if back = true then 1 else 0)) (pxJ (pxNx back ls.length x)) (pxJ (m + 1)) = some (pxJ (pxLW s l (pxRs ls) back (m + 1) x), h') ∧ pxF pxQx h h' := by
      unfold g_X4_lineWith_b67
      rw [lw]
      unfold pxHolds
      cases hf : pxFind s (pxRw (pxRs ls) (pxNx back ls.length x)) l 0 false with
      | none =>
        obtain ⟨h2, w1, w2⟩ := z1 hf
        have F2 := v2.trans (pxQs_x w2)
        obtain ⟨h3, k1, k2⟩ := ih N h2 (pxNx back ls.length x) (by omega) (by omega) (by omega) nxb.2 (M.fx F2) (T.fr F2 (fun k f q1 q2 => by unfold pxQx; omega)) (H.fx F2)
        refine ⟨h3, ?_, F2.trans k2⟩
        simp only [Option.isSome_none, Bool.false_eq_true, ↓reduceIte]
        have em : (m : Int) + 1 + -1 = m := by omega
        simp (maxSteps := 4000000) (disch := first | assumption | omega | (simp only [jw_t_I, px_cpt]; done) | (simp only [jw_t_I, px_cpt]; omega)) only [pxL0, pxL1, pxL2, pxL3, pxL4, pxL5, pxL6, pxL7, pxL8, pxL9, pxL10, pxL11, pxL12, pxL13, pxL14, pxL15, pxL16, pxL17, pxL18, pxL19, pxL20, pxL21, pxL22, pxL23, pxL24, pxL25, pxL26, pxL27, pxL28, pxL29, pxL30, pxL31, pxL32, pxL33, pxL34, pxL35, pxL36, pxL37, pxL38, pxL39, pxL40, pxL41, pxL42, pxL43, pxL44, pxL45, pxL46, pxL47, pxL48, pxL49, pxL51, pxL57, pxL58, pxL59, pxL60, pxL61, pxL62, pxL63, pxL64, pxL65, pxL66, pxL67, pxL68, pxL69, pxL70, pxL71, pxL72, pxL73, pxL74, pxL75, pxL76, pxL77, pxL78, pxL79, pxL80, pxL81, pxL82, pxL83, pxL84, pxL85, pxL86, pxL87, pxL88, pxL89, pxL90, pxL91, pxL92, pxL93, pxL94, pxL95, pxL96, pxL97, pxL98, pxL99, pxL100, pxL101, pxL102, pxL103, pxL104, pxL105, pxL106, pxL107, pxL108, pxL109, pxL110, pxL111, pxL112, pxL113, pxL114, pxL115, pxL116, pxL117, pxL118, pxL119, pxL120, pxL121, pxL122, pxL123, pxL124, pxL125, pxL126, pxL200, pxL240, pxL287, pxL388, pxL400, pxL429, pxL431, pxL440, pxL1240, pxL1600, pxL1681, pxL12028, pxL13849, pxL14880, pxL25173, pxL26908, pxL49600, pxL65535, pxL65536, ↓reduceIte, reduceCtorEq, pxJ_add, pxJ_sub, pxJ_mul, pxJ_neg, pxD_lt_t, pxD_lt_f, pxD_le_t, pxD_le_f, pxD_eq_t, pxD_eq_f, pxJ_lt, pxJ_le, pxJ_eq, px_gI, px_gR, px_pI, px_rc, px_ai, px_ar, px_si, px_ln, px_cp, pxJ_div, pxJ_b8, pxJ_byte, px_b2, px_bs, px_rb0, px_rb1, px_min, px_max, px_compare, pxW_some, jw_t_I, px_cpt, jw_r_I, px_cpr, jw_l_I, px_cpl, Option.some.injEq, r0, t9, m0, v1, m01, w1, em, k1]
      | some v =>
        obtain ⟨x', y', o', c'⟩ := v
        obtain ⟨h2, w1, w2, -⟩ := z2 x' y' o' c' hf
        refine ⟨h2, ?_, v2.trans (pxQs_x w2)⟩
        simp only [Option.isSome_some, ↓reduceIte]
        simp (maxSteps := 4000000) (disch := first | assumption | omega | (simp only [jw_t_I, px_cpt]; done) | (simp only [jw_t_I, px_cpt]; omega)) only [pxL0, pxL1, pxL2, pxL3, pxL4, pxL5, pxL6, pxL7, pxL8, pxL9, pxL10, pxL11, pxL12, pxL13, pxL14, pxL15, pxL16, pxL17, pxL18, pxL19, pxL20, pxL21, pxL22, pxL23, pxL24, pxL25, pxL26, pxL27, pxL28, pxL29, pxL30, pxL31, pxL32, pxL33, pxL34, pxL35, pxL36, pxL37, pxL38, pxL39, pxL40, pxL41, pxL42, pxL43, pxL44, pxL45, pxL46, pxL47, pxL48, pxL49, pxL51, pxL57, pxL58, pxL59, pxL60, pxL61, pxL62, pxL63, pxL64, pxL65, pxL66, pxL67, pxL68, pxL69, pxL70, pxL71, pxL72, pxL73, pxL74, pxL75, pxL76, pxL77, pxL78, pxL79, pxL80, pxL81, pxL82, pxL83, pxL84, pxL85, pxL86, pxL87, pxL88, pxL89, pxL90, pxL91, pxL92, pxL93, pxL94, pxL95, pxL96, pxL97, pxL98, pxL99, pxL100, pxL101, pxL102, pxL103, pxL104, pxL105, pxL106, pxL107, pxL108, pxL109, pxL110, pxL111, pxL112, pxL113, pxL114, pxL115, pxL116, pxL117, pxL118, pxL119, pxL120, pxL121, pxL122, pxL123, pxL124, pxL125, pxL126, pxL200, pxL240, pxL287, pxL388, pxL400, pxL429, pxL431, pxL440, pxL1240, pxL1600, pxL1681, pxL12028, pxL13849, pxL14880, pxL25173, pxL26908, pxL49600, pxL65535, pxL65536, ↓reduceIte, reduceCtorEq, pxJ_add, pxJ_sub, pxJ_mul, pxJ_neg, pxD_lt_t, pxD_lt_f, pxD_le_t, pxD_le_f, pxD_eq_t, pxD_eq_f, pxJ_lt, pxJ_le, pxJ_eq, px_gI, px_gR, px_pI, px_rc, px_ai, px_ar, px_si, px_ln, px_cp, pxJ_div, pxJ_b8, pxJ_byte, px_b2, px_bs, px_rb0, px_rb1, px_min, px_max, px_compare, pxW_some, jw_t_I, px_cpt, jw_r_I, px_cpr, jw_l_I, px_cpl, Option.some.injEq, r0, t9, m0, v1, m01, w1]
    obtain ⟨h3, k1, k2⟩ := b67
    refine ⟨h3, ?_, k2⟩
    rw [← k1, u_X4_lineWith_b15]
    unfold g_X4_lineWith_b15 g_X4_lineWith_b31
    have ec : pxJ ((m + 1 : Nat) : Int) = pxJ (m + 1) := by rw [show ((m + 1 : Nat) : Int) = (m : Int) + 1 by omega]
    rw [ec]
    unfold pxNx
    cases back with
    | false =>
      simp only [Bool.false_eq_true, ↓reduceIte]
      by_cases c : (ls.length : Int) < x + 1
      · rw [if_pos c]
        simp (maxSteps := 4000000) (disch := first | assumption | omega | (simp only [jw_t_I, px_cpt]; done) | (simp only [jw_t_I, px_cpt]; omega)) only [pxL0, pxL1, pxL2, pxL3, pxL4, pxL5, pxL6, pxL7, pxL8, pxL9, pxL10, pxL11, pxL12, pxL13, pxL14, pxL15, pxL16, pxL17, pxL18, pxL19, pxL20, pxL21, pxL22, pxL23, pxL24, pxL25, pxL26, pxL27, pxL28, pxL29, pxL30, pxL31, pxL32, pxL33, pxL34, pxL35, pxL36, pxL37, pxL38, pxL39, pxL40, pxL41, pxL42, pxL43, pxL44, pxL45, pxL46, pxL47, pxL48, pxL49, pxL51, pxL57, pxL58, pxL59, pxL60, pxL61, pxL62, pxL63, pxL64, pxL65, pxL66, pxL67, pxL68, pxL69, pxL70, pxL71, pxL72, pxL73, pxL74, pxL75, pxL76, pxL77, pxL78, pxL79, pxL80, pxL81, pxL82, pxL83, pxL84, pxL85, pxL86, pxL87, pxL88, pxL89, pxL90, pxL91, pxL92, pxL93, pxL94, pxL95, pxL96, pxL97, pxL98, pxL99, pxL100, pxL101, pxL102, pxL103, pxL104, pxL105, pxL106, pxL107, pxL108, pxL109, pxL110, pxL111, pxL112, pxL113, pxL114, pxL115, pxL116, pxL117, pxL118, pxL119, pxL120, pxL121, pxL122, pxL123, pxL124, pxL125, pxL126, pxL200, pxL240, pxL287, pxL388, pxL400, pxL429, pxL431, pxL440, pxL1240, pxL1600, pxL1681, pxL12028, pxL13849, pxL14880, pxL25173, pxL26908, pxL49600, pxL65535, pxL65536, ↓reduceIte, reduceCtorEq, pxJ_add, pxJ_sub, pxJ_mul, pxJ_neg, pxD_lt_t, pxD_lt_f, pxD_le_t, pxD_le_f, pxD_eq_t, pxD_eq_f, pxJ_lt, pxJ_le, pxJ_eq, px_gI, px_gR, px_pI, px_rc, px_ai, px_ar, px_si, px_ln, px_cp, pxJ_div, pxJ_b8, pxJ_byte, px_b2, px_bs, px_rb0, px_rb1, px_min, px_max, px_compare, pxW_some, jw_t_I, px_cpt, jw_r_I, px_cpr, jw_l_I, px_cpl, Option.some.injEq, t9, r0, t7, c2]
      · rw [if_neg c]
        simp (maxSteps := 4000000) (disch := first | assumption | omega | (simp only [jw_t_I, px_cpt]; done) | (simp only [jw_t_I, px_cpt]; omega)) only [pxL0, pxL1, pxL2, pxL3, pxL4, pxL5, pxL6, pxL7, pxL8, pxL9, pxL10, pxL11, pxL12, pxL13, pxL14, pxL15, pxL16, pxL17, pxL18, pxL19, pxL20, pxL21, pxL22, pxL23, pxL24, pxL25, pxL26, pxL27, pxL28, pxL29, pxL30, pxL31, pxL32, pxL33, pxL34, pxL35, pxL36, pxL37, pxL38, pxL39, pxL40, pxL41, pxL42, pxL43, pxL44, pxL45, pxL46, pxL47, pxL48, pxL49, pxL51, pxL57, pxL58, pxL59, pxL60, pxL61, pxL62, pxL63, pxL64, pxL65, pxL66, pxL67, pxL68, pxL69, pxL70, pxL71, pxL72, pxL73, pxL74, pxL75, pxL76, pxL77, pxL78, pxL79, pxL80, pxL81, pxL82, pxL83, pxL84, pxL85, pxL86, pxL87, pxL88, pxL89, pxL90, pxL91, pxL92, pxL93, pxL94, pxL95, pxL96, pxL97, pxL98, pxL99, pxL100, pxL101, pxL102, pxL103, pxL104, pxL105, pxL106, pxL107, pxL108, pxL109, pxL110, pxL111, pxL112, pxL113, pxL114, pxL115, pxL116, pxL117, pxL118, pxL119, pxL120, pxL121, pxL122, pxL123, pxL124, pxL125, pxL126, pxL200, pxL240, pxL287, pxL388, pxL400, pxL429, pxL431, pxL440, pxL1240, pxL1600, pxL1681, pxL12028, pxL13849, pxL14880, pxL25173, pxL26908, pxL49600, pxL65535, pxL65536, ↓reduceIte, reduceCtorEq, pxJ_add, pxJ_sub, pxJ_mul, pxJ_neg, pxD_lt_t, pxD_lt_f, pxD_le_t, pxD_le_f, pxD_eq_t, pxD_eq_f, pxJ_lt, pxJ_le, pxJ_eq, px_gI, px_gR, px_pI, px_rc, px_ai, px_ar, px_si, px_ln, px_cp, pxJ_div, pxJ_b8, pxJ_byte, px_b2, px_bs, px_rb0, px_rb1, px_min, px_max, px_compare, pxW_some, jw_t_I, px_cpt, jw_r_I, px_cpr, jw_l_I, px_cpl, Option.some.injEq, t9, r0, t7, c2]
    | true =>
      simp only [↓reduceIte]
      have ex : x + -1 = x - 1 := by omega
      by_cases c : x - 1 < 1
      · rw [if_pos c]
        simp (maxSteps := 4000000) (disch := first | assumption | omega | (simp only [jw_t_I, px_cpt]; done) | (simp only [jw_t_I, px_cpt]; omega)) only [pxL0, pxL1, pxL2, pxL3, pxL4, pxL5, pxL6, pxL7, pxL8, pxL9, pxL10, pxL11, pxL12, pxL13, pxL14, pxL15, pxL16, pxL17, pxL18, pxL19, pxL20, pxL21, pxL22, pxL23, pxL24, pxL25, pxL26, pxL27, pxL28, pxL29, pxL30, pxL31, pxL32, pxL33, pxL34, pxL35, pxL36, pxL37, pxL38, pxL39, pxL40, pxL41, pxL42, pxL43, pxL44, pxL45, pxL46, pxL47, pxL48, pxL49, pxL51, pxL57, pxL58, pxL59, pxL60, pxL61, pxL62, pxL63, pxL64, pxL65, pxL66, pxL67, pxL68, pxL69, pxL70, pxL71, pxL72, pxL73, pxL74, pxL75, pxL76, pxL77, pxL78, pxL79, pxL80, pxL81, pxL82, pxL83, pxL84, pxL85, pxL86, pxL87, pxL88, pxL89, pxL90, pxL91, pxL92, pxL93, pxL94, pxL95, pxL96, pxL97, pxL98, pxL99, pxL100, pxL101, pxL102, pxL103, pxL104, pxL105, pxL106, pxL107, pxL108, pxL109, pxL110, pxL111, pxL112, pxL113, pxL114, pxL115, pxL116, pxL117, pxL118, pxL119, pxL120, pxL121, pxL122, pxL123, pxL124, pxL125, pxL126, pxL200, pxL240, pxL287, pxL388, pxL400, pxL429, pxL431, pxL440, pxL1240, pxL1600, pxL1681, pxL12028, pxL13849, pxL14880, pxL25173, pxL26908, pxL49600, pxL65535, pxL65536, ↓reduceIte, reduceCtorEq, pxJ_add, pxJ_sub, pxJ_mul, pxJ_neg, pxD_lt_t, pxD_lt_f, pxD_le_t, pxD_le_f, pxD_eq_t, pxD_eq_f, pxJ_lt, pxJ_le, pxJ_eq, px_gI, px_gR, px_pI, px_rc, px_ai, px_ar, px_si, px_ln, px_cp, pxJ_div, pxJ_b8, pxJ_byte, px_b2, px_bs, px_rb0, px_rb1, px_min, px_max, px_compare, pxW_some, jw_t_I, px_cpt, jw_r_I, px_cpr, jw_l_I, px_cpl, Option.some.injEq, t9, r0, t7, c2, ex]
      · rw [if_neg c]
        simp (maxSteps := 4000000) (disch := first | assumption | omega | (simp only [jw_t_I, px_cpt]; done) | (simp only [jw_t_I, px_cpt]; omega)) only [pxL0, pxL1, pxL2, pxL3, pxL4, pxL5, pxL6, pxL7, pxL8, pxL9, pxL10, pxL11, pxL12, pxL13, pxL14, pxL15, pxL16, pxL17, pxL18, pxL19, pxL20, pxL21, pxL22, pxL23, pxL24, pxL25, pxL26, pxL27, pxL28, pxL29, pxL30, pxL31, pxL32, pxL33, pxL34, pxL35, pxL36, pxL37, pxL38, pxL39, pxL40, pxL41, pxL42, pxL43, pxL44, pxL45, pxL46, pxL47, pxL48, pxL49, pxL51, pxL57, pxL58, pxL59, pxL60, pxL61, pxL62, pxL63, pxL64, pxL65, pxL66, pxL67, pxL68, pxL69, pxL70, pxL71, pxL72, pxL73, pxL74, pxL75, pxL76, pxL77, pxL78, pxL79, pxL80, pxL81, pxL82, pxL83, pxL84, pxL85, pxL86, pxL87, pxL88, pxL89, pxL90, pxL91, pxL92, pxL93, pxL94, pxL95, pxL96, pxL97, pxL98, pxL99, pxL100, pxL101, pxL102, pxL103, pxL104, pxL105, pxL106, pxL107, pxL108, pxL109, pxL110, pxL111, pxL112, pxL113, pxL114, pxL115, pxL116, pxL117, pxL118, pxL119, pxL120, pxL121, pxL122, pxL123, pxL124, pxL125, pxL126, pxL200, pxL240, pxL287, pxL388, pxL400, pxL429, pxL431, pxL440, pxL1240, pxL1600, pxL1681, pxL12028, pxL13849, pxL14880, pxL25173, pxL26908, pxL49600, pxL65535, pxL65536, ↓reduceIte, reduceCtorEq, pxJ_add, pxJ_sub, pxJ_mul, pxJ_neg, pxD_lt_t, pxD_lt_f, pxD_le_t, pxD_le_f, pxD_eq_t, pxD_eq_f, pxJ_lt, pxJ_le, pxJ_eq, px_gI, px_gR, px_pI, px_rc, px_ai, px_ar, px_si, px_ln, px_cp, pxJ_div, pxJ_b8, pxJ_byte, px_b2, px_bs, px_rb0, px_rb1, px_min, px_max, px_compare, pxW_some, jw_t_I, px_cpt, jw_r_I, px_cpr, jw_l_I, px_cpl, Option.some.injEq, t9, r0, t7, c2, ex]
theorem s_X4_lineWith {h : jw_H} {t : Nat} {ls : pxLs} {mk : Int → Int} {now nx e most : Int} {l : List (Int × Int)} {back : Bool} (hd : t + 5 < 531 ∨ 535 < t) (hl : 253 < t) (W : pxWE 0 0 0 l) (M : pxMS h) (T : pxIT h t ls mk now nx) (n0 : 0 ≤ now) (n1 : now ≤ ls.length) (H : pxPE h s e most l) :
    ∃ h', f_X4_lineWith h 531 (some t) (pxJ e) (pxJ (if back = true then 1 else 0)) = some (pxJ (pxLW s l (pxRs ls) back ls.length now), h') ∧ pxF pxQx h h' := by
  have l40 := T.len
  have c2 := T.c2
  have t9 := T.1.1
  have r0 := T.1.2.1
  have t7 := T.2.1.1.1
  have m3 : pxM h t 3 = now := T.2.2.2.2.1
  obtain ⟨h1, k1, k2⟩ := s_X4_lineWith_b15 (back := back) hd hl W ls.length jw_FU h now (by omega) (by unfold jw_FU; omega) n0 n1 M T H
  refine ⟨h1, ?_, k2⟩
  rw [← k1]
  unfold f_X4_lineWith
  simp (maxSteps := 4000000) (disch := first | assumption | omega | (simp only [jw_t_I, px_cpt]; done) | (simp only [jw_t_I, px_cpt]; omega)) only [pxL0, pxL1, pxL2, pxL3, pxL4, pxL5, pxL6, pxL7, pxL8, pxL9, pxL10, pxL11, pxL12, pxL13, pxL14, pxL15, pxL16, pxL17, pxL18, pxL19, pxL20, pxL21, pxL22, pxL23, pxL24, pxL25, pxL26, pxL27, pxL28, pxL29, pxL30, pxL31, pxL32, pxL33, pxL34, pxL35, pxL36, pxL37, pxL38, pxL39, pxL40, pxL41, pxL42, pxL43, pxL44, pxL45, pxL46, pxL47, pxL48, pxL49, pxL51, pxL57, pxL58, pxL59, pxL60, pxL61, pxL62, pxL63, pxL64, pxL65, pxL66, pxL67, pxL68, pxL69, pxL70, pxL71, pxL72, pxL73, pxL74, pxL75, pxL76, pxL77, pxL78, pxL79, pxL80, pxL81, pxL82, pxL83, pxL84, pxL85, pxL86, pxL87, pxL88, pxL89, pxL90, pxL91, pxL92, pxL93, pxL94, pxL95, pxL96, pxL97, pxL98, pxL99, pxL100, pxL101, pxL102, pxL103, pxL104, pxL105, pxL106, pxL107, pxL108, pxL109, pxL110, pxL111, pxL112, pxL113, pxL114, pxL115, pxL116, pxL117, pxL118, pxL119, pxL120, pxL121, pxL122, pxL123, pxL124, pxL125, pxL126, pxL200, pxL240, pxL287, pxL388, pxL400, pxL429, pxL431, pxL440, pxL1240, pxL1600, pxL1681, pxL12028, pxL13849, pxL14880, pxL25173, pxL26908, pxL49600, pxL65535, pxL65536, ↓reduceIte, reduceCtorEq, pxJ_add, pxJ_sub, pxJ_mul, pxJ_neg, pxD_lt_t, pxD_lt_f, pxD_le_t, pxD_le_f, pxD_eq_t, pxD_eq_f, pxJ_lt, pxJ_le, pxJ_eq, px_gI, px_gR, px_pI, px_rc, px_ai, px_ar, px_si, px_ln, px_cp, pxJ_div, pxJ_b8, pxJ_byte, px_b2, px_bs, px_rb0, px_rb1, px_min, px_max, px_compare, pxW_some, jw_t_I, px_cpt, jw_r_I, px_cpr, jw_l_I, px_cpl, Option.some.injEq, t9, r0, t7, c2, m3]
end
