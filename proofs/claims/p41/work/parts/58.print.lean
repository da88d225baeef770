/-! stores: printing -/
/-- rows put into the out, with something ahead of each; none if one is too long or there is no room -/
def pxPrint (pre : Int → List Int) (rs : List (List Int)) : Nat → Int → List (List Int) → Option (List (List Int))
  | 0, _, out => some out
  | m + 1, x, out => if (pre x ++ pxRw rs x).length ≤ 30 ∧ out.length < 100 then pxPrint pre rs m (x + 1) (out ++ [pre x ++ pxRw rs x]) else none
section
variable {h : jw_H} {s : Nat} {hl ou : List (List Int)} {fl : Int → List (List Int)}
theorem s_X8_print_b53 {ρ cap : Nat} {rs : List (List Int)} (hd : ρ + 2 < s ∨ s + 20 < ρ) {k12 : jw_H → Nat → Option Nat → Int32 → Int32 → Int32 → Int32 → Int32 → Option (Int32 × jw_H)} {p : List Int} (hp : p.length ≤ 10) {x : Int} (x1 : 1 ≤ x) (x2 : x ≤ rs.length) {q2 q3 q4 q5 : Int32} :
    ∀ (m N : Nat) (h : jw_H) (z : Int), z + m = pxLn rs x → 0 ≤ z → m < N → pxIR h ρ cap rs → pxSS h s → (∀ y : Int, 0 ≤ y → y < p.length + z → y < 30 → pxM h (s + 20) y.toNat = pxE (p ++ pxRw rs x) y) →
      ∃ h', f_X8_print_b53 k12 N h s (some ρ) q2 q3 q4 q5 (pxJ x) (pxJ (p.length : Int)) (pxJ (pxLn rs x)) (pxJ z) = g_X8_print_b98 k12 h' s (some ρ) q2 q3 q4 q5 (pxJ x) (pxJ (p.length : Int)) (pxJ (pxLn rs x)) ∧ pxF (pxC (s + 20) (s + 20)) h h' ∧ (∀ y : Int, 0 ≤ y → y < p.length + pxLn rs x → y < 30 → pxM h' (s + 20) y.toNat = pxE (p ++ pxRw rs x) y) := by
  intro m
  induction m with
  | zero =>
    intro N h z hz z0 hN R S B
    obtain ⟨N, rfl, -⟩ := px_fu hN
    have l1 := pxLn_le R.2.2.1 x
    refine ⟨h, ?_, pxF.rfl, fun y y1 y2 y3 => B y y1 (by omega) y3⟩
    rw [u_X8_print_b53]
    unfold g_X8_print_b53
    simp (disch := first | assumption | omega | (simp only [jw_t_I, px_cpt]; done) | (simp only [jw_t_I, px_cpt]; omega)) only [pxL0, pxL1, pxL2, pxL3, pxL4, pxL5, pxL6, pxL7, pxL8, pxL9, pxL10, pxL11, pxL12, pxL13, pxL14, pxL15, pxL16, pxL17, pxL18, pxL19, pxL20, pxL21, pxL22, pxL23, pxL24, pxL25, pxL26, pxL27, pxL28, pxL29, pxL30, pxL31, pxL32, pxL33, pxL34, pxL35, pxL36, pxL37, pxL38, pxL39, pxL40, pxL41, pxL42, pxL43, pxL44, pxL45, pxL46, pxL47, pxL48, pxL49, pxL51, pxL57, pxL58, pxL59, pxL60, pxL61, pxL62, pxL63, pxL64, pxL65, pxL66, pxL67, pxL68, pxL69, pxL70, pxL71, pxL72, pxL73, pxL74, pxL75, pxL76, pxL77, pxL78, pxL79, pxL80, pxL81, pxL82, pxL83, pxL84, pxL85, pxL86, pxL87, pxL88, pxL89, pxL90, pxL91, pxL92, pxL93, pxL94, pxL95, pxL96, pxL97, pxL98, pxL99, pxL100, pxL101, pxL102, pxL103, pxL104, pxL105, pxL106, pxL107, pxL108, pxL109, pxL110, pxL111, pxL112, pxL113, pxL114, pxL115, pxL116, pxL117, pxL118, pxL119, pxL120, pxL121, pxL122, pxL123, pxL124, pxL125, pxL126, pxL200, pxL240, pxL287, pxL388, pxL400, pxL429, pxL431, pxL440, pxL1240, pxL1600, pxL1681, pxL12028, pxL13849, pxL14880, pxL25173, pxL26908, pxL49600, pxL65535, pxL65536, ↓reduceIte, pxJ_add, pxJ_sub, pxJ_mul, pxJ_neg, pxD_lt_t, pxD_lt_f, pxD_le_t, pxD_le_f, pxD_eq_t, pxD_eq_f, pxJ_lt, pxJ_le, pxJ_eq, px_gI, px_gR, px_pI, px_rc, px_ai, px_ar, px_si, px_ln, px_cp, pxJ_div, pxJ_b8, pxJ_byte, px_b2, px_bs, px_rb0, px_rb1, px_min, px_max, px_compare, pxW_some, jw_t_I, px_cpt, jw_r_I, px_cpr, jw_l_I, px_cpl, Option.some.injEq]
  | succ m ih =>
    intro N h z hz z0 hN R S B
    obtain ⟨N, rfl, hN⟩ := px_fu hN
    have l1 := pxLn_le R.2.2.1 x
    have rn := R.2.1
    have rc := R.1.2.2.2.2.2
    have t7 := R.1.1
    obtain ⟨t0, r0, r1, r2, r3, t7', r7, t20⟩ := id S
    rw [u_X8_print_b53]
    unfold g_X8_print_b53
    by_cases hc : (p.length : Int) + z < 30
    · have sg := s_X7_signAt R (x := x) (y := z) (by omega) (by omega) (by omega) (by omega)
      rw [pxSgA_t (by omega)] at sg
      have ch := pxCh_in (pxE_ch (pxRw_or R.2.2.1 x) z0 (show z < (pxRw rs x).length by unfold pxLn at hz; omega))
      unfold pxSg at sg
      simp (disch := first | assumption | omega | (simp only [jw_t_I, px_cpt, t20]; done) | (simp only [jw_t_I, px_cpt, t20]; omega)) only [pxL0, pxL1, pxL2, pxL3, pxL4, pxL5, pxL6, pxL7, pxL8, pxL9, pxL10, pxL11, pxL12, pxL13, pxL14, pxL15, pxL16, pxL17, pxL18, pxL19, pxL20, pxL21, pxL22, pxL23, pxL24, pxL25, pxL26, pxL27, pxL28, pxL29, pxL30, pxL31, pxL32, pxL33, pxL34, pxL35, pxL36, pxL37, pxL38, pxL39, pxL40, pxL41, pxL42, pxL43, pxL44, pxL45, pxL46, pxL47, pxL48, pxL49, pxL51, pxL57, pxL58, pxL59, pxL60, pxL61, pxL62, pxL63, pxL64, pxL65, pxL66, pxL67, pxL68, pxL69, pxL70, pxL71, pxL72, pxL73, pxL74, pxL75, pxL76, pxL77, pxL78, pxL79, pxL80, pxL81, pxL82, pxL83, pxL84, pxL85, pxL86, pxL87, pxL88, pxL89, pxL90, pxL91, pxL92, pxL93, pxL94, pxL95, pxL96, pxL97, pxL98, pxL99, pxL100, pxL101, pxL102, pxL103, pxL104, pxL105, pxL106, pxL107, pxL108, pxL109, pxL110, pxL111, pxL112, pxL113, pxL114, pxL115, pxL116, pxL117, pxL118, pxL119, pxL120, pxL121, pxL122, pxL123, pxL124, pxL125, pxL126, pxL200, pxL240, pxL287, pxL388, pxL400, pxL429, pxL431, pxL440, pxL1240, pxL1600, pxL1681, pxL12028, pxL13849, pxL14880, pxL25173, pxL26908, pxL49600, pxL65535, pxL65536, ↓reduceIte, pxJ_add, pxJ_sub, pxJ_mul, pxJ_neg, pxD_lt_t, pxD_lt_f, pxD_le_t, pxD_le_f, pxD_eq_t, pxD_eq_f, pxJ_lt, pxJ_le, pxJ_eq, px_gI, px_gR, px_pI, px_rc, px_ai, px_ar, px_si, px_ln, px_cp, pxJ_div, pxJ_b8, pxJ_byte, px_b2, px_bs, px_rb0, px_rb1, px_min, px_max, px_compare, pxW_some, jw_t_I, px_cpt, jw_r_I, px_cpr, jw_l_I, px_cpl, Option.some.injEq, t20, r3, sg]
      have F : pxF (pxC (s + 20) (s + 20)) h (jw_setI h (s + 20) ((p.length : Int) + z).toNat (pxJ (pxE (pxRw rs x) z))) := pxF.setI (by unfold pxC; omega)
      obtain ⟨h', e1, e2, e3⟩ := ih N _ (z + 1) (by omega) (by omega) (by omega) (R.fr F (fun k f _ _ => by unfold pxC; omega)) (S.fr F (fun k f _ => by unfold pxC; omega)) (fun y y1 y2 y3 => by
        by_cases hy : y = p.length + z
        · rw [hy, pxM_eq (by omega) (by omega), pxE_app2 (by omega)]
          congr 1; omega
        · rw [pxM_ne (by omega)]
          exact B y y1 (by omega) y3)
      exact ⟨h', e1, F.trans e2, e3⟩
    · refine ⟨h, ?_, pxF.rfl, fun y y1 y2 y3 => B y y1 (by omega) y3⟩
      simp (disch := first | assumption | omega | (simp only [jw_t_I, px_cpt, t20]; done) | (simp only [jw_t_I, px_cpt, t20]; omega)) only [pxL0, pxL1, pxL2, pxL3, pxL4, pxL5, pxL6, pxL7, pxL8, pxL9, pxL10, pxL11, pxL12, pxL13, pxL14, pxL15, pxL16, pxL17, pxL18, pxL19, pxL20, pxL21, pxL22, pxL23, pxL24, pxL25, pxL26, pxL27, pxL28, pxL29, pxL30, pxL31, pxL32, pxL33, pxL34, pxL35, pxL36, pxL37, pxL38, pxL39, pxL40, pxL41, pxL42, pxL43, pxL44, pxL45, pxL46, pxL47, pxL48, pxL49, pxL51, pxL57, pxL58, pxL59, pxL60, pxL61, pxL62, pxL63, pxL64, pxL65, pxL66, pxL67, pxL68, pxL69, pxL70, pxL71, pxL72, pxL73, pxL74, pxL75, pxL76, pxL77, pxL78, pxL79, pxL80, pxL81, pxL82, pxL83, pxL84, pxL85, pxL86, pxL87, pxL88, pxL89, pxL90, pxL91, pxL92, pxL93, pxL94, pxL95, pxL96, pxL97, pxL98, pxL99, pxL100, pxL101, pxL102, pxL103, pxL104, pxL105, pxL106, pxL107, pxL108, pxL109, pxL110, pxL111, pxL112, pxL113, pxL114, pxL115, pxL116, pxL117, pxL118, pxL119, pxL120, pxL121, pxL122, pxL123, pxL124, pxL125, pxL126, pxL200, pxL240, pxL287, pxL388, pxL400, pxL429, pxL431, pxL440, pxL1240, pxL1600, pxL1681, pxL12028, pxL13849, pxL14880, pxL25173, pxL26908, pxL49600, pxL65535, pxL65536, ↓reduceIte, pxJ_add, pxJ_sub, pxJ_mul, pxJ_neg, pxD_lt_t, pxD_lt_f, pxD_le_t, pxD_le_f, pxD_eq_t, pxD_eq_f, pxJ_lt, pxJ_le, pxJ_eq, px_gI, px_gR, px_pI, px_rc, px_ai, px_ar, px_si, px_ln, px_cp, pxJ_div, pxJ_b8, pxJ_byte, px_b2, px_bs, px_rb0, px_rb1, px_min, px_max, px_compare, pxW_some, jw_t_I, px_cpt, jw_r_I, px_cpr, jw_l_I, px_cpl, Option.some.injEq, t20, r3]
theorem s_X8_print_b12 {ρ cap : Nat} {rs : List (List Int)} (hd : ρ + 2 < s ∨ s + 20 < ρ) {x0 y num : Int} (hx0 : 1 ≤ x0) (hy : y ≤ rs.length) (hn : num = -1 ∨ (0 ≤ num ∧ num + (y - x0) ≤ 99)) :
    ∀ (m N : Nat) (h : jw_H) (x : Int) (o : List (List Int)), x + m = y + 1 → x0 ≤ x → m < N → pxIR h ρ cap rs → pxIS h s hl o fl → ou.length ≤ o.length → o.take ou.length = ou →
      pxW (f_X8_print_b12 N h s (some ρ) (pxJ x0) (pxJ y) (pxJ num) (pxJ (ou.length : Int)) (pxJ x)) fun q h' => pxF (pxC (s + 4) (s + 20)) h h' ∧ q = pxJ (if (pxPrint (fun r => if num = -1 then [] else pxDig (num + r - x0) ++ [32]) rs m x o).isSome then 0 else 4) ∧ pxIS h' s hl ((pxPrint (fun r => if num = -1 then [] else pxDig (num + r - x0) ++ [32]) rs m x o).getD ou) fl := by
  intro m
  induction m with
  | zero =>
    intro N h x o hx h1 hN R K hou htk
    obtain ⟨N, rfl, -⟩ := px_fu hN
    have c1 := R.2.1
    have c2 := R.1.2.2.2.2.2
    rw [u_X8_print_b12]
    unfold g_X8_print_b12 pxPrint
    simp (disch := first | assumption | omega | (simp only [jw_t_I, px_cpt]; done) | (simp only [jw_t_I, px_cpt]; omega)) only [pxL0, pxL1, pxL2, pxL3, pxL4, pxL5, pxL6, pxL7, pxL8, pxL9, pxL10, pxL11, pxL12, pxL13, pxL14, pxL15, pxL16, pxL17, pxL18, pxL19, pxL20, pxL21, pxL22, pxL23, pxL24, pxL25, pxL26, pxL27, pxL28, pxL29, pxL30, pxL31, pxL32, pxL33, pxL34, pxL35, pxL36, pxL37, pxL38, pxL39, pxL40, pxL41, pxL42, pxL43, pxL44, pxL45, pxL46, pxL47, pxL48, pxL49, pxL51, pxL57, pxL58, pxL59, pxL60, pxL61, pxL62, pxL63, pxL64, pxL65, pxL66, pxL67, pxL68, pxL69, pxL70, pxL71, pxL72, pxL73, pxL74, pxL75, pxL76, pxL77, pxL78, pxL79, pxL80, pxL81, pxL82, pxL83, pxL84, pxL85, pxL86, pxL87, pxL88, pxL89, pxL90, pxL91, pxL92, pxL93, pxL94, pxL95, pxL96, pxL97, pxL98, pxL99, pxL100, pxL101, pxL102, pxL103, pxL104, pxL105, pxL106, pxL107, pxL108, pxL109, pxL110, pxL111, pxL112, pxL113, pxL114, pxL115, pxL116, pxL117, pxL118, pxL119, pxL120, pxL121, pxL122, pxL123, pxL124, pxL125, pxL126, pxL200, pxL240, pxL287, pxL388, pxL400, pxL429, pxL431, pxL440, pxL1240, pxL1600, pxL1681, pxL12028, pxL13849, pxL14880, pxL25173, pxL26908, pxL49600, pxL65535, pxL65536, ↓reduceIte, pxJ_add, pxJ_sub, pxJ_mul, pxJ_neg, pxD_lt_t, pxD_lt_f, pxD_le_t, pxD_le_f, pxD_eq_t, pxD_eq_f, pxJ_lt, pxJ_le, pxJ_eq, px_gI, px_gR, px_pI, px_rc, px_ai, px_ar, px_si, px_ln, px_cp, pxJ_div, pxJ_b8, pxJ_byte, px_b2, px_bs, px_rb0, px_rb1, px_min, px_max, px_compare, pxW_some, jw_t_I, px_cpt, jw_r_I, px_cpr, jw_l_I, px_cpl, Option.some.injEq]
    exact ⟨pxF.rfl, rfl, K⟩
  | succ m ih =>
    intro N h x o hx h1 hN R K hou htk
    obtain ⟨N, rfl, hN⟩ := px_fu hN
    have c1 := R.2.1
    have c2 := R.1.2.2.2.2.2
    have t7 := R.1.1
    have s0 := K.1.1
    have ok2 : K.2.2.1.2.1 = K.2.2.1.2.1 := rfl
    have oc := K.2.2.1.2.1
    rw [u_X8_print_b12]
    unfold g_X8_print_b12 g_X8_print_b40
    have l1 := pxLn_le R.2.2.1 x
    have l0 := pxLn_0 rs x
    have lE : pxLn rs x = (pxRw rs x).length := rfl
    -- what is ahead of the row lies there
    have key : ∀ (h1 : jw_H) (p : List Int), p = (if num = -1 then [] else pxDig (num + x - x0) ++ [32]) → pxF (pxC (s + 20) (s + 20)) h h1 → (∀ y : Int, 0 ≤ y → y < p.length → pxM h1 (s + 20) y.toNat = pxE p y) → p.length ≤ 3 → (∀ c ∈ p, pxCh c) →
        pxW (f_X8_print_b53 (f_X8_print_b12 N) jw_FU h1 s (some ρ) (pxJ x0) (pxJ y) (pxJ num) (pxJ (ou.length : Int)) (pxJ x) (pxJ (p.length : Int)) (pxJ (pxLn rs x)) (pxJ 0)) fun q h' => pxF (pxC (s + 4) (s + 20)) h h' ∧ q = pxJ (if (pxPrint (fun r => if num = -1 then [] else pxDig (num + r - x0) ++ [32]) rs (m + 1) x o).isSome then 0 else 4) ∧ pxIS h' s hl ((pxPrint (fun r => if num = -1 then [] else pxDig (num + r - x0) ++ [32]) rs (m + 1) x o).getD ou) fl := by
      intro h1' p hp F1 hB hp3 hpc
      have R1 := R.fr F1 (fun k f _ _ => by unfold pxC; omega)
      have K1 := K.fr F1 (fun k f _ _ => by unfold pxC; omega)
      obtain ⟨h2, e2, F2, B2⟩ := s_X8_print_b53 hd (k12 := f_X8_print_b12 N) (p := p) (by omega) (x := x) (by omega) (by omega) (q2 := pxJ x0) (q3 := pxJ y) (q4 := pxJ num) (q5 := pxJ (ou.length : Int)) (pxLn rs x).toNat jw_FU h1' 0 (by omega) (by omega) (by unfold jw_FU; omega) R1 K1.1 (fun y y1 y2 y3 => by rw [pxE_app1 y1 (by omega)]; exact hB y y1 (by omega))
      rw [e2]
      have R2 := R1.fr F2 (fun k f _ _ => by unfold pxC; omega)
      have K2 := K1.fr F2 (fun k f _ _ => by unfold pxC; omega)
      have FF := F1.trans F2
      obtain ⟨t0, r0, r1, r2, r3, t7', r7, t20⟩ := id K2.1
      have k4 := K2.2.2.1.1.1
      unfold g_X8_print_b98 g_X8_print_b128
      have el : ((p ++ pxRw rs x).length : Int) = p.length + pxLn rs x := by rw [List.length_append]; omega
      -- refused: the out is as it was
      have back : ∀ h3, pxF (pxC (s + 4) (s + 20)) h h3 → pxIS h3 s hl o fl → pxPrint (fun r => if num = -1 then [] else pxDig (num + r - x0) ++ [32]) rs (m + 1) x o = none → pxW ((jw_gR h3 8 (some s) 1).bind fun v1 => (jw_rc h3 7 v1).bind fun a2 => jw_b2 (f_X7_shrink h3 a2 (pxJ (ou.length : Int))) fun w4 h4 => some ((4 : Int32), h4)) fun q h' => pxF (pxC (s + 4) (s + 20)) h h' ∧ q = pxJ (if (pxPrint (fun r => if num = -1 then [] else pxDig (num + r - x0) ++ [32]) rs (m + 1) x o).isSome then 0 else 4) ∧ pxIS h' s hl ((pxPrint (fun r => if num = -1 then [] else pxDig (num + r - x0) ++ [32]) rs (m + 1) x o).getD ou) fl := by
        intro h3 F3 K3 hnone
        obtain ⟨t0, r0, r1, r2, r3, t7', r7, t20⟩ := id K3.1
        have k4 := K3.2.2.1.1.1
        simp (disch := first | assumption | omega | (simp only [jw_t_I, px_cpt]; done) | (simp only [jw_t_I, px_cpt]; omega)) only [pxL0, pxL1, pxL2, pxL3, pxL4, pxL5, pxL6, pxL7, pxL8, pxL9, pxL10, pxL11, pxL12, pxL13, pxL14, pxL15, pxL16, pxL17, pxL18, pxL19, pxL20, pxL21, pxL22, pxL23, pxL24, pxL25, pxL26, pxL27, pxL28, pxL29, pxL30, pxL31, pxL32, pxL33, pxL34, pxL35, pxL36, pxL37, pxL38, pxL39, pxL40, pxL41, pxL42, pxL43, pxL44, pxL45, pxL46, pxL47, pxL48, pxL49, pxL51, pxL57, pxL58, pxL59, pxL60, pxL61, pxL62, pxL63, pxL64, pxL65, pxL66, pxL67, pxL68, pxL69, pxL70, pxL71, pxL72, pxL73, pxL74, pxL75, pxL76, pxL77, pxL78, pxL79, pxL80, pxL81, pxL82, pxL83, pxL84, pxL85, pxL86, pxL87, pxL88, pxL89, pxL90, pxL91, pxL92, pxL93, pxL94, pxL95, pxL96, pxL97, pxL98, pxL99, pxL100, pxL101, pxL102, pxL103, pxL104, pxL105, pxL106, pxL107, pxL108, pxL109, pxL110, pxL111, pxL112, pxL113, pxL114, pxL115, pxL116, pxL117, pxL118, pxL119, pxL120, pxL121, pxL122, pxL123, pxL124, pxL125, pxL126, pxL200, pxL240, pxL287, pxL388, pxL400, pxL429, pxL431, pxL440, pxL1240, pxL1600, pxL1681, pxL12028, pxL13849, pxL14880, pxL25173, pxL26908, pxL49600, pxL65535, pxL65536, ↓reduceIte, pxJ_add, pxJ_sub, pxJ_mul, pxJ_neg, pxD_lt_t, pxD_lt_f, pxD_le_t, pxD_le_f, pxD_eq_t, pxD_eq_f, pxJ_lt, pxJ_le, pxJ_eq, px_gI, px_gR, px_pI, px_rc, px_ai, px_ar, px_si, px_ln, px_cp, pxJ_div, pxJ_b8, pxJ_byte, px_b2, px_bs, px_rb0, px_rb1, px_min, px_max, px_compare, pxW_some, jw_t_I, px_cpt, jw_r_I, px_cpr, jw_l_I, px_cpl, Option.some.injEq, r1]
        refine pxW_b2 (s_X7_shrink K3.2.2.1 (x := (ou.length : Int)) (by omega) (by omega)) fun _ h4 q => ?_
        obtain ⟨F4, K4⟩ := q
        rw [pxW_some, hnone]
        have e0 : (if 0 ≤ (ou.length : Int) ∧ (ou.length : Int) < o.length then o.take (ou.length : Int).toNat else o) = ou := by
          by_cases hq : ou.length < o.length
          · rw [if_pos (by omega), show (ou.length : Int).toNat = ou.length by omega]; exact htk
          · rw [if_neg (by omega), ← htk, List.take_of_length_le (by omega)]
        rw [e0] at K4
        exact ⟨F3.trans (F4.mono (fun k f e => by unfold pxC at *; omega)), rfl, K3.1.fr F4 (fun k f _ => by unfold pxC; omega), K3.2.1.fr F4 (fun k f _ _ => by unfold pxC; omega), K4, fun k k1 k2 => (K3.2.2.2 k k1 k2).fr F4 (fun k f _ _ => by unfold pxC; omega)⟩
      by_cases hlen : (p ++ pxRw rs x).length ≤ 30
      · have B : pxBy h2 (s + 20) 0 (p ++ pxRw rs x) := ⟨30, t20, by omega, by omega, by omega, ⟨hlen, fun c hc => (List.mem_append.mp hc).elim (hpc c) ((pxRw_or R.2.2.1 x).2 c)⟩, fun y y1 y2 => by rw [Int.zero_add]; exact B2 y y1 (by omega) (by omega)⟩
        simp (disch := first | assumption | omega | (simp only [jw_t_I, px_cpt]; done) | (simp only [jw_t_I, px_cpt]; omega)) only [pxL0, pxL1, pxL2, pxL3, pxL4, pxL5, pxL6, pxL7, pxL8, pxL9, pxL10, pxL11, pxL12, pxL13, pxL14, pxL15, pxL16, pxL17, pxL18, pxL19, pxL20, pxL21, pxL22, pxL23, pxL24, pxL25, pxL26, pxL27, pxL28, pxL29, pxL30, pxL31, pxL32, pxL33, pxL34, pxL35, pxL36, pxL37, pxL38, pxL39, pxL40, pxL41, pxL42, pxL43, pxL44, pxL45, pxL46, pxL47, pxL48, pxL49, pxL51, pxL57, pxL58, pxL59, pxL60, pxL61, pxL62, pxL63, pxL64, pxL65, pxL66, pxL67, pxL68, pxL69, pxL70, pxL71, pxL72, pxL73, pxL74, pxL75, pxL76, pxL77, pxL78, pxL79, pxL80, pxL81, pxL82, pxL83, pxL84, pxL85, pxL86, pxL87, pxL88, pxL89, pxL90, pxL91, pxL92, pxL93, pxL94, pxL95, pxL96, pxL97, pxL98, pxL99, pxL100, pxL101, pxL102, pxL103, pxL104, pxL105, pxL106, pxL107, pxL108, pxL109, pxL110, pxL111, pxL112, pxL113, pxL114, pxL115, pxL116, pxL117, pxL118, pxL119, pxL120, pxL121, pxL122, pxL123, pxL124, pxL125, pxL126, pxL200, pxL240, pxL287, pxL388, pxL400, pxL429, pxL431, pxL440, pxL1240, pxL1600, pxL1681, pxL12028, pxL13849, pxL14880, pxL25173, pxL26908, pxL49600, pxL65535, pxL65536, ↓reduceIte, pxJ_add, pxJ_sub, pxJ_mul, pxJ_neg, pxD_lt_t, pxD_lt_f, pxD_le_t, pxD_le_f, pxD_eq_t, pxD_eq_f, pxJ_lt, pxJ_le, pxJ_eq, px_gI, px_gR, px_pI, px_rc, px_ai, px_ar, px_si, px_ln, px_cp, pxJ_div, pxJ_b8, pxJ_byte, px_b2, px_bs, px_rb0, px_rb1, px_min, px_max, px_compare, pxW_some, jw_t_I, px_cpt, jw_r_I, px_cpr, jw_l_I, px_cpl, Option.some.injEq, r1, r3]
        rw [← el]
        refine pxW_b2 (s_X7_add K2.2.2.1 B) fun q h3 k => ?_
        obtain ⟨F3, rfl, K3⟩ := k
        have F3' : pxF (pxC (s + 4) (s + 20)) h h3 := (FF.mono (fun k f e => by unfold pxC at *; omega)).trans (F3.mono (fun k f e => by unfold pxC at *; omega))
        by_cases hof : o.length < 100
        · rw [if_pos hof] at K3
          simp only [if_pos hof]
          simp (disch := first | assumption | omega | (simp only [jw_t_I, px_cpt]; done) | (simp only [jw_t_I, px_cpt]; omega)) only [pxL0, pxL1, pxL2, pxL3, pxL4, pxL5, pxL6, pxL7, pxL8, pxL9, pxL10, pxL11, pxL12, pxL13, pxL14, pxL15, pxL16, pxL17, pxL18, pxL19, pxL20, pxL21, pxL22, pxL23, pxL24, pxL25, pxL26, pxL27, pxL28, pxL29, pxL30, pxL31, pxL32, pxL33, pxL34, pxL35, pxL36, pxL37, pxL38, pxL39, pxL40, pxL41, pxL42, pxL43, pxL44, pxL45, pxL46, pxL47, pxL48, pxL49, pxL51, pxL57, pxL58, pxL59, pxL60, pxL61, pxL62, pxL63, pxL64, pxL65, pxL66, pxL67, pxL68, pxL69, pxL70, pxL71, pxL72, pxL73, pxL74, pxL75, pxL76, pxL77, pxL78, pxL79, pxL80, pxL81, pxL82, pxL83, pxL84, pxL85, pxL86, pxL87, pxL88, pxL89, pxL90, pxL91, pxL92, pxL93, pxL94, pxL95, pxL96, pxL97, pxL98, pxL99, pxL100, pxL101, pxL102, pxL103, pxL104, pxL105, pxL106, pxL107, pxL108, pxL109, pxL110, pxL111, pxL112, pxL113, pxL114, pxL115, pxL116, pxL117, pxL118, pxL119, pxL120, pxL121, pxL122, pxL123, pxL124, pxL125, pxL126, pxL200, pxL240, pxL287, pxL388, pxL400, pxL429, pxL431, pxL440, pxL1240, pxL1600, pxL1681, pxL12028, pxL13849, pxL14880, pxL25173, pxL26908, pxL49600, pxL65535, pxL65536, ↓reduceIte, pxJ_add, pxJ_sub, pxJ_mul, pxJ_neg, pxD_lt_t, pxD_lt_f, pxD_le_t, pxD_le_f, pxD_eq_t, pxD_eq_f, pxJ_lt, pxJ_le, pxJ_eq, px_gI, px_gR, px_pI, px_rc, px_ai, px_ar, px_si, px_ln, px_cp, pxJ_div, pxJ_b8, pxJ_byte, px_b2, px_bs, px_rb0, px_rb1, px_min, px_max, px_compare, pxW_some, jw_t_I, px_cpt, jw_r_I, px_cpr, jw_l_I, px_cpl, Option.some.injEq]
          have KS : pxIS h3 s hl (o ++ [p ++ pxRw rs x]) fl := ⟨K2.1.fr F3 (fun k f _ => by unfold pxC; omega), K2.2.1.fr F3 (fun k f _ _ => by unfold pxC; omega), K3, fun k k1 k2 => (K2.2.2.2 k k1 k2).fr F3 (fun k f _ _ => by unfold pxC; omega)⟩
          have es : pxPrint (fun r => if num = -1 then [] else pxDig (num + r - x0) ++ [32]) rs (m + 1) x o = pxPrint (fun r => if num = -1 then [] else pxDig (num + r - x0) ++ [32]) rs m (x + 1) (o ++ [p ++ pxRw rs x]) := by
            subst hp
            exact if_pos ⟨hlen, hof⟩
          rw [es]
          refine (ih N h3 (x + 1) (o ++ [p ++ pxRw rs x]) (by omega) (by omega) (by omega) (R2.fr F3 (fun k f _ _ => by unfold pxC; omega)) KS (by rw [List.length_append]; omega) (by rw [List.take_append_of_le_length hou]; exact htk)).mono fun q h4 k => ⟨F3'.trans k.1, k.2⟩
        · rw [if_neg hof] at K3
          simp only [if_neg hof]
          have KS : pxIS h3 s hl o fl := ⟨K2.1.fr F3 (fun k f _ => by unfold pxC; omega), K2.2.1.fr F3 (fun k f _ _ => by unfold pxC; omega), K3, fun k k1 k2 => (K2.2.2.2 k k1 k2).fr F3 (fun k f _ _ => by unfold pxC; omega)⟩
          have := back h3 F3' KS (by
            subst hp
            exact if_neg (fun q => hof q.2))
          simp only [↓reduceIte, pxL0]
          exact this
      · have := back h2 (FF.mono (fun k f e => by unfold pxC at *; omega)) K2 (by
            subst hp
            exact if_neg (fun q => hlen q.1))
        have e30 : ((30 : Int32) < pxJ (p.length : Int) + pxJ (pxLn rs x)) = True := by
          simp (disch := first | assumption | omega | (simp only [jw_t_I, px_cpt]; done) | (simp only [jw_t_I, px_cpt]; omega)) only [pxL0, pxL1, pxL2, pxL3, pxL4, pxL5, pxL6, pxL7, pxL8, pxL9, pxL10, pxL11, pxL12, pxL13, pxL14, pxL15, pxL16, pxL17, pxL18, pxL19, pxL20, pxL21, pxL22, pxL23, pxL24, pxL25, pxL26, pxL27, pxL28, pxL29, pxL30, pxL31, pxL32, pxL33, pxL34, pxL35, pxL36, pxL37, pxL38, pxL39, pxL40, pxL41, pxL42, pxL43, pxL44, pxL45, pxL46, pxL47, pxL48, pxL49, pxL51, pxL57, pxL58, pxL59, pxL60, pxL61, pxL62, pxL63, pxL64, pxL65, pxL66, pxL67, pxL68, pxL69, pxL70, pxL71, pxL72, pxL73, pxL74, pxL75, pxL76, pxL77, pxL78, pxL79, pxL80, pxL81, pxL82, pxL83, pxL84, pxL85, pxL86, pxL87, pxL88, pxL89, pxL90, pxL91, pxL92, pxL93, pxL94, pxL95, pxL96, pxL97, pxL98, pxL99, pxL100, pxL101, pxL102, pxL103, pxL104, pxL105, pxL106, pxL107, pxL108, pxL109, pxL110, pxL111, pxL112, pxL113, pxL114, pxL115, pxL116, pxL117, pxL118, pxL119, pxL120, pxL121, pxL122, pxL123, pxL124, pxL125, pxL126, pxL200, pxL240, pxL287, pxL388, pxL400, pxL429, pxL431, pxL440, pxL1240, pxL1600, pxL1681, pxL12028, pxL13849, pxL14880, pxL25173, pxL26908, pxL49600, pxL65535, pxL65536, ↓reduceIte, pxJ_add, pxJ_sub, pxJ_mul, pxJ_neg, pxD_lt_t, pxD_lt_f, pxD_le_t, pxD_le_f, pxD_eq_t, pxD_eq_f, pxJ_lt, pxJ_le, pxJ_eq, px_gI, px_gR, px_pI, px_rc, px_ai, px_ar, px_si, px_ln, px_cp, pxJ_div, pxJ_b8, pxJ_byte, px_b2, px_bs, px_rb0, px_rb1, px_min, px_max, px_compare, pxW_some, jw_t_I, px_cpt, jw_r_I, px_cpr, jw_l_I, px_cpl, Option.some.injEq]
        simp only [e30, ↓reduceIte]
        exact this
    have ll := s_X7_lengthOf R (x := x) (by omega) (by omega)
    rw [pxLnA_t ⟨by omega, by omega⟩] at ll
    rcases hn with hn | hn
    · simp (disch := first | assumption | omega | (simp only [jw_t_I, px_cpt]; done) | (simp only [jw_t_I, px_cpt]; omega)) only [pxL0, pxL1, pxL2, pxL3, pxL4, pxL5, pxL6, pxL7, pxL8, pxL9, pxL10, pxL11, pxL12, pxL13, pxL14, pxL15, pxL16, pxL17, pxL18, pxL19, pxL20, pxL21, pxL22, pxL23, pxL24, pxL25, pxL26, pxL27, pxL28, pxL29, pxL30, pxL31, pxL32, pxL33, pxL34, pxL35, pxL36, pxL37, pxL38, pxL39, pxL40, pxL41, pxL42, pxL43, pxL44, pxL45, pxL46, pxL47, pxL48, pxL49, pxL51, pxL57, pxL58, pxL59, pxL60, pxL61, pxL62, pxL63, pxL64, pxL65, pxL66, pxL67, pxL68, pxL69, pxL70, pxL71, pxL72, pxL73, pxL74, pxL75, pxL76, pxL77, pxL78, pxL79, pxL80, pxL81, pxL82, pxL83, pxL84, pxL85, pxL86, pxL87, pxL88, pxL89, pxL90, pxL91, pxL92, pxL93, pxL94, pxL95, pxL96, pxL97, pxL98, pxL99, pxL100, pxL101, pxL102, pxL103, pxL104, pxL105, pxL106, pxL107, pxL108, pxL109, pxL110, pxL111, pxL112, pxL113, pxL114, pxL115, pxL116, pxL117, pxL118, pxL119, pxL120, pxL121, pxL122, pxL123, pxL124, pxL125, pxL126, pxL200, pxL240, pxL287, pxL388, pxL400, pxL429, pxL431, pxL440, pxL1240, pxL1600, pxL1681, pxL12028, pxL13849, pxL14880, pxL25173, pxL26908, pxL49600, pxL65535, pxL65536, ↓reduceIte, pxJ_add, pxJ_sub, pxJ_mul, pxJ_neg, pxD_lt_t, pxD_lt_f, pxD_le_t, pxD_le_f, pxD_eq_t, pxD_eq_f, pxJ_lt, pxJ_le, pxJ_eq, px_gI, px_gR, px_pI, px_rc, px_ai, px_ar, px_si, px_ln, px_cp, pxJ_div, pxJ_b8, pxJ_byte, px_b2, px_bs, px_rb0, px_rb1, px_min, px_max, px_compare, pxW_some, jw_t_I, px_cpt, jw_r_I, px_cpr, jw_l_I, px_cpl, Option.some.injEq, hn, ll]
      have := key h [] (by rw [if_pos hn]) pxF.rfl (fun y y1 y2 => by simp at y2; omega) (by simp) (by simp)
      rw [hn] at this
      exact this
    · have hne : num ≠ -1 := by omega
      simp (disch := first | assumption | omega | (simp only [jw_t_I, px_cpt]; done) | (simp only [jw_t_I, px_cpt]; omega)) only [pxL0, pxL1, pxL2, pxL3, pxL4, pxL5, pxL6, pxL7, pxL8, pxL9, pxL10, pxL11, pxL12, pxL13, pxL14, pxL15, pxL16, pxL17, pxL18, pxL19, pxL20, pxL21, pxL22, pxL23, pxL24, pxL25, pxL26, pxL27, pxL28, pxL29, pxL30, pxL31, pxL32, pxL33, pxL34, pxL35, pxL36, pxL37, pxL38, pxL39, pxL40, pxL41, pxL42, pxL43, pxL44, pxL45, pxL46, pxL47, pxL48, pxL49, pxL51, pxL57, pxL58, pxL59, pxL60, pxL61, pxL62, pxL63, pxL64, pxL65, pxL66, pxL67, pxL68, pxL69, pxL70, pxL71, pxL72, pxL73, pxL74, pxL75, pxL76, pxL77, pxL78, pxL79, pxL80, pxL81, pxL82, pxL83, pxL84, pxL85, pxL86, pxL87, pxL88, pxL89, pxL90, pxL91, pxL92, pxL93, pxL94, pxL95, pxL96, pxL97, pxL98, pxL99, pxL100, pxL101, pxL102, pxL103, pxL104, pxL105, pxL106, pxL107, pxL108, pxL109, pxL110, pxL111, pxL112, pxL113, pxL114, pxL115, pxL116, pxL117, pxL118, pxL119, pxL120, pxL121, pxL122, pxL123, pxL124, pxL125, pxL126, pxL200, pxL240, pxL287, pxL388, pxL400, pxL429, pxL431, pxL440, pxL1240, pxL1600, pxL1681, pxL12028, pxL13849, pxL14880, pxL25173, pxL26908, pxL49600, pxL65535, pxL65536, ↓reduceIte, pxJ_add, pxJ_sub, pxJ_mul, pxJ_neg, pxD_lt_t, pxD_lt_f, pxD_le_t, pxD_le_f, pxD_eq_t, pxD_eq_f, pxJ_lt, pxJ_le, pxJ_eq, px_gI, px_gR, px_pI, px_rc, px_ai, px_ar, px_si, px_ln, px_cp, pxJ_div, pxJ_b8, pxJ_byte, px_b2, px_bs, px_rb0, px_rb1, px_min, px_max, px_compare, pxW_some, jw_t_I, px_cpt, jw_r_I, px_cpr, jw_l_I, px_cpl, Option.some.injEq, ll]
      refine pxW_b2 (s_X8_writeNumber K.1 (n := num + x - x0) (by omega) (by omega) (b := 1) (Or.inr rfl)) fun q h1' k => ?_
      obtain ⟨F1, rfl, B1⟩ := k
      rw [if_pos rfl] at B1
      rw [if_pos rfl]
      have ll' := s_X7_lengthOf (R.fr F1 (fun k f _ _ => by unfold pxC; omega)) (x := x) (by omega) (by omega)
      rw [pxLnA_t ⟨by omega, by omega⟩] at ll'
      have t7' := (R.fr F1 (fun k f _ _ => by unfold pxC; omega)).1.1
      simp (disch := first | assumption | omega | (simp only [jw_t_I, px_cpt]; done) | (simp only [jw_t_I, px_cpt]; omega)) only [pxL0, pxL1, pxL2, pxL3, pxL4, pxL5, pxL6, pxL7, pxL8, pxL9, pxL10, pxL11, pxL12, pxL13, pxL14, pxL15, pxL16, pxL17, pxL18, pxL19, pxL20, pxL21, pxL22, pxL23, pxL24, pxL25, pxL26, pxL27, pxL28, pxL29, pxL30, pxL31, pxL32, pxL33, pxL34, pxL35, pxL36, pxL37, pxL38, pxL39, pxL40, pxL41, pxL42, pxL43, pxL44, pxL45, pxL46, pxL47, pxL48, pxL49, pxL51, pxL57, pxL58, pxL59, pxL60, pxL61, pxL62, pxL63, pxL64, pxL65, pxL66, pxL67, pxL68, pxL69, pxL70, pxL71, pxL72, pxL73, pxL74, pxL75, pxL76, pxL77, pxL78, pxL79, pxL80, pxL81, pxL82, pxL83, pxL84, pxL85, pxL86, pxL87, pxL88, pxL89, pxL90, pxL91, pxL92, pxL93, pxL94, pxL95, pxL96, pxL97, pxL98, pxL99, pxL100, pxL101, pxL102, pxL103, pxL104, pxL105, pxL106, pxL107, pxL108, pxL109, pxL110, pxL111, pxL112, pxL113, pxL114, pxL115, pxL116, pxL117, pxL118, pxL119, pxL120, pxL121, pxL122, pxL123, pxL124, pxL125, pxL126, pxL200, pxL240, pxL287, pxL388, pxL400, pxL429, pxL431, pxL440, pxL1240, pxL1600, pxL1681, pxL12028, pxL13849, pxL14880, pxL25173, pxL26908, pxL49600, pxL65535, pxL65536, ↓reduceIte, pxJ_add, pxJ_sub, pxJ_mul, pxJ_neg, pxD_lt_t, pxD_lt_f, pxD_le_t, pxD_le_f, pxD_eq_t, pxD_eq_f, pxJ_lt, pxJ_le, pxJ_eq, px_gI, px_gR, px_pI, px_rc, px_ai, px_ar, px_si, px_ln, px_cp, pxJ_div, pxJ_b8, pxJ_byte, px_b2, px_bs, px_rb0, px_rb1, px_min, px_max, px_compare, pxW_some, jw_t_I, px_cpt, jw_r_I, px_cpr, jw_l_I, px_cpl, Option.some.injEq, ll']
      have hd3 : (pxDig (num + x - x0) ++ [32]).length ≤ 3 := by unfold pxDig; split <;> simp
      exact key h1' (pxDig (num + x - x0) ++ [32]) (by rw [if_neg hne]) F1 B1 hd3 (fun c hc => (List.mem_append.mp hc).elim (pxDig_ch (by omega) c) (fun e => by rw [List.mem_singleton] at e; subst e; right; right; rfl))
theorem s_X8_print (H : pxIS h s hl ou fl) {ρ cap : Nat} {rs : List (List Int)} (R : pxIR h ρ cap rs) (hd : ρ + 2 < s ∨ s + 20 < ρ) {x y num : Int} (hx : 1 ≤ x) (hxy : x ≤ y + 1) (hy : y ≤ rs.length) (hn : num = -1 ∨ (0 ≤ num ∧ num + (y - x) ≤ 99)) :
    pxW (f_X8_print h s (some ρ) (pxJ x) (pxJ y) (pxJ num)) fun q h' => pxF (pxC s (s + 20)) h h' ∧ q = pxJ (if (pxPrint (fun r => if num = -1 then [] else pxDig (num + r - x) ++ [32]) rs (y - x + 1).toNat x ou).isSome then 0 else 4) ∧ pxIS h' s hl ((pxPrint (fun r => if num = -1 then [] else pxDig (num + r - x) ++ [32]) rs (y - x + 1).toNat x ou).getD ou) fl := by
  obtain ⟨t0, r0, r1, r2, r3, t7', r7, t20⟩ := id H.1
  have k4 := H.2.2.1.1.1
  have c1 := R.2.1
  have c2 := R.1.2.2.2.2.2
  unfold f_X8_print
  simp (disch := first | assumption | omega | (simp only [jw_t_I, px_cpt]; done) | (simp only [jw_t_I, px_cpt]; omega)) only [pxL0, pxL1, pxL2, pxL3, pxL4, pxL5, pxL6, pxL7, pxL8, pxL9, pxL10, pxL11, pxL12, pxL13, pxL14, pxL15, pxL16, pxL17, pxL18, pxL19, pxL20, pxL21, pxL22, pxL23, pxL24, pxL25, pxL26, pxL27, pxL28, pxL29, pxL30, pxL31, pxL32, pxL33, pxL34, pxL35, pxL36, pxL37, pxL38, pxL39, pxL40, pxL41, pxL42, pxL43, pxL44, pxL45, pxL46, pxL47, pxL48, pxL49, pxL51, pxL57, pxL58, pxL59, pxL60, pxL61, pxL62, pxL63, pxL64, pxL65, pxL66, pxL67, pxL68, pxL69, pxL70, pxL71, pxL72, pxL73, pxL74, pxL75, pxL76, pxL77, pxL78, pxL79, pxL80, pxL81, pxL82, pxL83, pxL84, pxL85, pxL86, pxL87, pxL88, pxL89, pxL90, pxL91, pxL92, pxL93, pxL94, pxL95, pxL96, pxL97, pxL98, pxL99, pxL100, pxL101, pxL102, pxL103, pxL104, pxL105, pxL106, pxL107, pxL108, pxL109, pxL110, pxL111, pxL112, pxL113, pxL114, pxL115, pxL116, pxL117, pxL118, pxL119, pxL120, pxL121, pxL122, pxL123, pxL124, pxL125, pxL126, pxL200, pxL240, pxL287, pxL388, pxL400, pxL429, pxL431, pxL440, pxL1240, pxL1600, pxL1681, pxL12028, pxL13849, pxL14880, pxL25173, pxL26908, pxL49600, pxL65535, pxL65536, ↓reduceIte, pxJ_add, pxJ_sub, pxJ_mul, pxJ_neg, pxD_lt_t, pxD_lt_f, pxD_le_t, pxD_le_f, pxD_eq_t, pxD_eq_f, pxJ_lt, pxJ_le, pxJ_eq, px_gI, px_gR, px_pI, px_rc, px_ai, px_ar, px_si, px_ln, px_cp, pxJ_div, pxJ_b8, pxJ_byte, px_b2, px_bs, px_rb0, px_rb1, px_min, px_max, px_compare, pxW_some, jw_t_I, px_cpt, jw_r_I, px_cpr, jw_l_I, px_cpl, Option.some.injEq, r1, H.2.2.1.2.2.2.1]
  exact (s_X8_print_b12 hd hx hy hn (y - x + 1).toNat jw_FU h x ou (by omega) (by omega) (by unfold jw_FU; omega) R H (Nat.le_refl _) (List.take_length)).mono fun q h' k => ⟨k.1.mono (fun k f e => by unfold pxC at *; omega), k.2⟩
theorem s_X8_printNumber (H : pxIS h s hl ou fl) {n : Int} (h1 : 0 ≤ n) (h2 : n ≤ 99) :
    pxW (f_X8_printNumber h s (pxJ n)) fun q h' => pxF (pxC s (s + 20)) h h' ∧ q = pxJ (if ou.length < 100 then 0 else 4) ∧ pxIS h' s hl (if ou.length < 100 then ou ++ [pxDig n] else ou) fl := by
  obtain ⟨t0, r0, r1, r2, r3, t7', r7, t20⟩ := id H.1
  unfold f_X8_printNumber g_X8_printNumber_b26
  simp (disch := first | assumption | omega | (simp only [jw_t_I, px_cpt]; done) | (simp only [jw_t_I, px_cpt]; omega)) only [pxL0, pxL1, pxL2, pxL3, pxL4, pxL5, pxL6, pxL7, pxL8, pxL9, pxL10, pxL11, pxL12, pxL13, pxL14, pxL15, pxL16, pxL17, pxL18, pxL19, pxL20, pxL21, pxL22, pxL23, pxL24, pxL25, pxL26, pxL27, pxL28, pxL29, pxL30, pxL31, pxL32, pxL33, pxL34, pxL35, pxL36, pxL37, pxL38, pxL39, pxL40, pxL41, pxL42, pxL43, pxL44, pxL45, pxL46, pxL47, pxL48, pxL49, pxL51, pxL57, pxL58, pxL59, pxL60, pxL61, pxL62, pxL63, pxL64, pxL65, pxL66, pxL67, pxL68, pxL69, pxL70, pxL71, pxL72, pxL73, pxL74, pxL75, pxL76, pxL77, pxL78, pxL79, pxL80, pxL81, pxL82, pxL83, pxL84, pxL85, pxL86, pxL87, pxL88, pxL89, pxL90, pxL91, pxL92, pxL93, pxL94, pxL95, pxL96, pxL97, pxL98, pxL99, pxL100, pxL101, pxL102, pxL103, pxL104, pxL105, pxL106, pxL107, pxL108, pxL109, pxL110, pxL111, pxL112, pxL113, pxL114, pxL115, pxL116, pxL117, pxL118, pxL119, pxL120, pxL121, pxL122, pxL123, pxL124, pxL125, pxL126, pxL200, pxL240, pxL287, pxL388, pxL400, pxL429, pxL431, pxL440, pxL1240, pxL1600, pxL1681, pxL12028, pxL13849, pxL14880, pxL25173, pxL26908, pxL49600, pxL65535, pxL65536, ↓reduceIte, pxJ_add, pxJ_sub, pxJ_mul, pxJ_neg, pxD_lt_t, pxD_lt_f, pxD_le_t, pxD_le_f, pxD_eq_t, pxD_eq_f, pxJ_lt, pxJ_le, pxJ_eq, px_gI, px_gR, px_pI, px_rc, px_ai, px_ar, px_si, px_ln, px_cp, pxJ_div, pxJ_b8, pxJ_byte, px_b2, px_bs, px_rb0, px_rb1, px_min, px_max, px_compare, pxW_some, jw_t_I, px_cpt, jw_r_I, px_cpr, jw_l_I, px_cpl, Option.some.injEq, r1, r3]
  refine pxW_b2 (s_X8_writeNumber H.1 h1 h2 (b := 0) (Or.inl rfl)) fun q h1' k => ?_
  obtain ⟨F1, rfl, B1⟩ := k
  rw [if_neg (by omega), List.append_nil] at B1
  rw [if_neg (by omega), List.append_nil]
  have K1 := H.fr F1 (fun k f _ _ => by unfold pxC; omega)
  obtain ⟨t0, r0, r1, r2, r3, t7', r7, t20⟩ := id K1.1
  have hd3 : (pxDig n).length ≤ 2 := by unfold pxDig; split <;> simp
  have B : pxBy h1' (s + 20) 0 (pxDig n) := ⟨30, t20, by omega, by omega, by omega, ⟨by omega, pxDig_ch h1⟩, fun y y1 y2 => by rw [Int.zero_add]; exact B1 y y1 y2⟩
  have k4 := K1.2.2.1.1.1
  simp (disch := first | assumption | omega | (simp only [jw_t_I, px_cpt]; done) | (simp only [jw_t_I, px_cpt]; omega)) only [pxL0, pxL1, pxL2, pxL3, pxL4, pxL5, pxL6, pxL7, pxL8, pxL9, pxL10, pxL11, pxL12, pxL13, pxL14, pxL15, pxL16, pxL17, pxL18, pxL19, pxL20, pxL21, pxL22, pxL23, pxL24, pxL25, pxL26, pxL27, pxL28, pxL29, pxL30, pxL31, pxL32, pxL33, pxL34, pxL35, pxL36, pxL37, pxL38, pxL39, pxL40, pxL41, pxL42, pxL43, pxL44, pxL45, pxL46, pxL47, pxL48, pxL49, pxL51, pxL57, pxL58, pxL59, pxL60, pxL61, pxL62, pxL63, pxL64, pxL65, pxL66, pxL67, pxL68, pxL69, pxL70, pxL71, pxL72, pxL73, pxL74, pxL75, pxL76, pxL77, pxL78, pxL79, pxL80, pxL81, pxL82, pxL83, pxL84, pxL85, pxL86, pxL87, pxL88, pxL89, pxL90, pxL91, pxL92, pxL93, pxL94, pxL95, pxL96, pxL97, pxL98, pxL99, pxL100, pxL101, pxL102, pxL103, pxL104, pxL105, pxL106, pxL107, pxL108, pxL109, pxL110, pxL111, pxL112, pxL113, pxL114, pxL115, pxL116, pxL117, pxL118, pxL119, pxL120, pxL121, pxL122, pxL123, pxL124, pxL125, pxL126, pxL200, pxL240, pxL287, pxL388, pxL400, pxL429, pxL431, pxL440, pxL1240, pxL1600, pxL1681, pxL12028, pxL13849, pxL14880, pxL25173, pxL26908, pxL49600, pxL65535, pxL65536, ↓reduceIte, pxJ_add, pxJ_sub, pxJ_mul, pxJ_neg, pxD_lt_t, pxD_lt_f, pxD_le_t, pxD_le_f, pxD_eq_t, pxD_eq_f, pxJ_lt, pxJ_le, pxJ_eq, px_gI, px_gR, px_pI, px_rc, px_ai, px_ar, px_si, px_ln, px_cp, pxJ_div, pxJ_b8, pxJ_byte, px_b2, px_bs, px_rb0, px_rb1, px_min, px_max, px_compare, pxW_some, jw_t_I, px_cpt, jw_r_I, px_cpr, jw_l_I, px_cpl, Option.some.injEq]
  refine pxW_b2 (s_X7_add K1.2.2.1 B) fun q h3 k => ?_
  obtain ⟨F3, rfl, K3⟩ := k
  have KK : ∀ o, pxIR h3 (s + 4) 100 o → pxIS h3 s hl o fl := fun o K3 => ⟨K1.1.fr F3 (fun k f _ => by unfold pxC; omega), K1.2.1.fr F3 (fun k f _ _ => by unfold pxC; omega), K3, fun k k1 k2 => (K1.2.2.2 k k1 k2).fr F3 (fun k f _ _ => by unfold pxC; omega)⟩
  have FF : pxF (pxC s (s + 20)) h h3 := (F1.mono (fun k f e => by unfold pxC at *; omega)).trans (F3.mono (fun k f e => by unfold pxC at *; omega))
  by_cases hc : ou.length < 100
  · simp only [if_pos hc] at K3 ⊢
    simp (disch := first | assumption | omega | (simp only [jw_t_I, px_cpt]; done) | (simp only [jw_t_I, px_cpt]; omega)) only [pxL0, pxL1, pxL2, pxL3, pxL4, pxL5, pxL6, pxL7, pxL8, pxL9, pxL10, pxL11, pxL12, pxL13, pxL14, pxL15, pxL16, pxL17, pxL18, pxL19, pxL20, pxL21, pxL22, pxL23, pxL24, pxL25, pxL26, pxL27, pxL28, pxL29, pxL30, pxL31, pxL32, pxL33, pxL34, pxL35, pxL36, pxL37, pxL38, pxL39, pxL40, pxL41, pxL42, pxL43, pxL44, pxL45, pxL46, pxL47, pxL48, pxL49, pxL51, pxL57, pxL58, pxL59, pxL60, pxL61, pxL62, pxL63, pxL64, pxL65, pxL66, pxL67, pxL68, pxL69, pxL70, pxL71, pxL72, pxL73, pxL74, pxL75, pxL76, pxL77, pxL78, pxL79, pxL80, pxL81, pxL82, pxL83, pxL84, pxL85, pxL86, pxL87, pxL88, pxL89, pxL90, pxL91, pxL92, pxL93, pxL94, pxL95, pxL96, pxL97, pxL98, pxL99, pxL100, pxL101, pxL102, pxL103, pxL104, pxL105, pxL106, pxL107, pxL108, pxL109, pxL110, pxL111, pxL112, pxL113, pxL114, pxL115, pxL116, pxL117, pxL118, pxL119, pxL120, pxL121, pxL122, pxL123, pxL124, pxL125, pxL126, pxL200, pxL240, pxL287, pxL388, pxL400, pxL429, pxL431, pxL440, pxL1240, pxL1600, pxL1681, pxL12028, pxL13849, pxL14880, pxL25173, pxL26908, pxL49600, pxL65535, pxL65536, ↓reduceIte, pxJ_add, pxJ_sub, pxJ_mul, pxJ_neg, pxD_lt_t, pxD_lt_f, pxD_le_t, pxD_le_f, pxD_eq_t, pxD_eq_f, pxJ_lt, pxJ_le, pxJ_eq, px_gI, px_gR, px_pI, px_rc, px_ai, px_ar, px_si, px_ln, px_cp, pxJ_div, pxJ_b8, pxJ_byte, px_b2, px_bs, px_rb0, px_rb1, px_min, px_max, px_compare, pxW_some, jw_t_I, px_cpt, jw_r_I, px_cpr, jw_l_I, px_cpl, Option.some.injEq]
    exact ⟨FF, trivial, KK _ K3⟩
  · simp only [if_neg hc] at K3 ⊢
    simp (disch := first | assumption | omega | (simp only [jw_t_I, px_cpt]; done) | (simp only [jw_t_I, px_cpt]; omega)) only [pxL0, pxL1, pxL2, pxL3, pxL4, pxL5, pxL6, pxL7, pxL8, pxL9, pxL10, pxL11, pxL12, pxL13, pxL14, pxL15, pxL16, pxL17, pxL18, pxL19, pxL20, pxL21, pxL22, pxL23, pxL24, pxL25, pxL26, pxL27, pxL28, pxL29, pxL30, pxL31, pxL32, pxL33, pxL34, pxL35, pxL36, pxL37, pxL38, pxL39, pxL40, pxL41, pxL42, pxL43, pxL44, pxL45, pxL46, pxL47, pxL48, pxL49, pxL51, pxL57, pxL58, pxL59, pxL60, pxL61, pxL62, pxL63, pxL64, pxL65, pxL66, pxL67, pxL68, pxL69, pxL70, pxL71, pxL72, pxL73, pxL74, pxL75, pxL76, pxL77, pxL78, pxL79, pxL80, pxL81, pxL82, pxL83, pxL84, pxL85, pxL86, pxL87, pxL88, pxL89, pxL90, pxL91, pxL92, pxL93, pxL94, pxL95, pxL96, pxL97, pxL98, pxL99, pxL100, pxL101, pxL102, pxL103, pxL104, pxL105, pxL106, pxL107, pxL108, pxL109, pxL110, pxL111, pxL112, pxL113, pxL114, pxL115, pxL116, pxL117, pxL118, pxL119, pxL120, pxL121, pxL122, pxL123, pxL124, pxL125, pxL126, pxL200, pxL240, pxL287, pxL388, pxL400, pxL429, pxL431, pxL440, pxL1240, pxL1600, pxL1681, pxL12028, pxL13849, pxL14880, pxL25173, pxL26908, pxL49600, pxL65535, pxL65536, ↓reduceIte, pxJ_add, pxJ_sub, pxJ_mul, pxJ_neg, pxD_lt_t, pxD_lt_f, pxD_le_t, pxD_le_f, pxD_eq_t, pxD_eq_f, pxJ_lt, pxJ_le, pxJ_eq, px_gI, px_gR, px_pI, px_rc, px_ai, px_ar, px_si, px_ln, px_cp, pxJ_div, pxJ_b8, pxJ_byte, px_b2, px_bs, px_rb0, px_rb1, px_min, px_max, px_compare, pxW_some, jw_t_I, px_cpt, jw_r_I, px_cpr, jw_l_I, px_cpl, Option.some.injEq]
    exact ⟨FF, trivial, KK _ K3⟩
theorem s_X8_isWell_b28 (H : pxIS h s hl ou fl) : ∀ (m N : Nat) (k : Int), k + m = 4 → 0 ≤ k → m < N → f_X8_isWell_b28 N h s (pxJ k) = some (pxJ 1, h) := by
  intro m
  induction m with
  | zero =>
    intro N k hk h0 hN
    obtain ⟨N, rfl, -⟩ := px_fu hN
    rw [u_X8_isWell_b28]
    unfold g_X8_isWell_b28
    simp (disch := first | assumption | omega | (simp only [jw_t_I, px_cpt]; done) | (simp only [jw_t_I, px_cpt]; omega)) only [pxL0, pxL1, pxL2, pxL3, pxL4, pxL5, pxL6, pxL7, pxL8, pxL9, pxL10, pxL11, pxL12, pxL13, pxL14, pxL15, pxL16, pxL17, pxL18, pxL19, pxL20, pxL21, pxL22, pxL23, pxL24, pxL25, pxL26, pxL27, pxL28, pxL29, pxL30, pxL31, pxL32, pxL33, pxL34, pxL35, pxL36, pxL37, pxL38, pxL39, pxL40, pxL41, pxL42, pxL43, pxL44, pxL45, pxL46, pxL47, pxL48, pxL49, pxL51, pxL57, pxL58, pxL59, pxL60, pxL61, pxL62, pxL63, pxL64, pxL65, pxL66, pxL67, pxL68, pxL69, pxL70, pxL71, pxL72, pxL73, pxL74, pxL75, pxL76, pxL77, pxL78, pxL79, pxL80, pxL81, pxL82, pxL83, pxL84, pxL85, pxL86, pxL87, pxL88, pxL89, pxL90, pxL91, pxL92, pxL93, pxL94, pxL95, pxL96, pxL97, pxL98, pxL99, pxL100, pxL101, pxL102, pxL103, pxL104, pxL105, pxL106, pxL107, pxL108, pxL109, pxL110, pxL111, pxL112, pxL113, pxL114, pxL115, pxL116, pxL117, pxL118, pxL119, pxL120, pxL121, pxL122, pxL123, pxL124, pxL125, pxL126, pxL200, pxL240, pxL287, pxL388, pxL400, pxL429, pxL431, pxL440, pxL1240, pxL1600, pxL1681, pxL12028, pxL13849, pxL14880, pxL25173, pxL26908, pxL49600, pxL65535, pxL65536, ↓reduceIte, pxJ_add, pxJ_sub, pxJ_mul, pxJ_neg, pxD_lt_t, pxD_lt_f, pxD_le_t, pxD_le_f, pxD_eq_t, pxD_eq_f, pxJ_lt, pxJ_le, pxJ_eq, px_gI, px_gR, px_pI, px_rc, px_ai, px_ar, px_si, px_ln, px_cp, pxJ_div, pxJ_b8, pxJ_byte, px_b2, px_bs, px_rb0, px_rb1, px_min, px_max, px_compare, pxW_some, jw_t_I, px_cpt, jw_r_I, px_cpr, jw_l_I, px_cpl, Option.some.injEq]
  | succ m ih =>
    intro N k hk h0 hN
    obtain ⟨N, rfl, hN⟩ := px_fu hN
    rw [u_X8_isWell_b28]
    unfold g_X8_isWell_b28
    have e1 := s_X8_file H.1 (k := k) (by omega) (by omega)
    rw [if_pos (by omega)] at e1
    have s0 := H.1.1
    have K := H.2.2.2 k h0 (by omega)
    have k0 := K.1.1
    have kl := K.2.1
    simp (disch := first | assumption | omega | (simp only [jw_t_I, px_cpt]; done) | (simp only [jw_t_I, px_cpt]; omega)) only [pxL0, pxL1, pxL2, pxL3, pxL4, pxL5, pxL6, pxL7, pxL8, pxL9, pxL10, pxL11, pxL12, pxL13, pxL14, pxL15, pxL16, pxL17, pxL18, pxL19, pxL20, pxL21, pxL22, pxL23, pxL24, pxL25, pxL26, pxL27, pxL28, pxL29, pxL30, pxL31, pxL32, pxL33, pxL34, pxL35, pxL36, pxL37, pxL38, pxL39, pxL40, pxL41, pxL42, pxL43, pxL44, pxL45, pxL46, pxL47, pxL48, pxL49, pxL51, pxL57, pxL58, pxL59, pxL60, pxL61, pxL62, pxL63, pxL64, pxL65, pxL66, pxL67, pxL68, pxL69, pxL70, pxL71, pxL72, pxL73, pxL74, pxL75, pxL76, pxL77, pxL78, pxL79, pxL80, pxL81, pxL82, pxL83, pxL84, pxL85, pxL86, pxL87, pxL88, pxL89, pxL90, pxL91, pxL92, pxL93, pxL94, pxL95, pxL96, pxL97, pxL98, pxL99, pxL100, pxL101, pxL102, pxL103, pxL104, pxL105, pxL106, pxL107, pxL108, pxL109, pxL110, pxL111, pxL112, pxL113, pxL114, pxL115, pxL116, pxL117, pxL118, pxL119, pxL120, pxL121, pxL122, pxL123, pxL124, pxL125, pxL126, pxL200, pxL240, pxL287, pxL388, pxL400, pxL429, pxL431, pxL440, pxL1240, pxL1600, pxL1681, pxL12028, pxL13849, pxL14880, pxL25173, pxL26908, pxL49600, pxL65535, pxL65536, ↓reduceIte, pxJ_add, pxJ_sub, pxJ_mul, pxJ_neg, pxD_lt_t, pxD_lt_f, pxD_le_t, pxD_le_f, pxD_eq_t, pxD_eq_f, pxJ_lt, pxJ_le, pxJ_eq, px_gI, px_gR, px_pI, px_rc, px_ai, px_ar, px_si, px_ln, px_cp, pxJ_div, pxJ_b8, pxJ_byte, px_b2, px_bs, px_rb0, px_rb1, px_min, px_max, px_compare, pxW_some, jw_t_I, px_cpt, jw_r_I, px_cpr, jw_l_I, px_cpl, Option.some.injEq, e1, reduceCtorEq, K.2.2.2.1, ih N (k + 1) (by omega) (by omega) (by omega)]
theorem s_X8_isWell (H : pxIS h s hl ou fl) : f_X8_isWell h s = some (pxJ 1, h) := by
  obtain ⟨t0, r0, r1, r2, r3, t7', r7, t20⟩ := id H.1
  have k1 := H.2.1.1.1
  have k4 := H.2.2.1.1.1
  have l1 := H.2.1.2.1
  have l4 := H.2.2.1.2.1
  unfold f_X8_isWell
  simp (disch := first | assumption | omega | (simp only [jw_t_I, px_cpt]; done) | (simp only [jw_t_I, px_cpt]; omega)) only [pxL0, pxL1, pxL2, pxL3, pxL4, pxL5, pxL6, pxL7, pxL8, pxL9, pxL10, pxL11, pxL12, pxL13, pxL14, pxL15, pxL16, pxL17, pxL18, pxL19, pxL20, pxL21, pxL22, pxL23, pxL24, pxL25, pxL26, pxL27, pxL28, pxL29, pxL30, pxL31, pxL32, pxL33, pxL34, pxL35, pxL36, pxL37, pxL38, pxL39, pxL40, pxL41, pxL42, pxL43, pxL44, pxL45, pxL46, pxL47, pxL48, pxL49, pxL51, pxL57, pxL58, pxL59, pxL60, pxL61, pxL62, pxL63, pxL64, pxL65, pxL66, pxL67, pxL68, pxL69, pxL70, pxL71, pxL72, pxL73, pxL74, pxL75, pxL76, pxL77, pxL78, pxL79, pxL80, pxL81, pxL82, pxL83, pxL84, pxL85, pxL86, pxL87, pxL88, pxL89, pxL90, pxL91, pxL92, pxL93, pxL94, pxL95, pxL96, pxL97, pxL98, pxL99, pxL100, pxL101, pxL102, pxL103, pxL104, pxL105, pxL106, pxL107, pxL108, pxL109, pxL110, pxL111, pxL112, pxL113, pxL114, pxL115, pxL116, pxL117, pxL118, pxL119, pxL120, pxL121, pxL122, pxL123, pxL124, pxL125, pxL126, pxL200, pxL240, pxL287, pxL388, pxL400, pxL429, pxL431, pxL440, pxL1240, pxL1600, pxL1681, pxL12028, pxL13849, pxL14880, pxL25173, pxL26908, pxL49600, pxL65535, pxL65536, ↓reduceIte, pxJ_add, pxJ_sub, pxJ_mul, pxJ_neg, pxD_lt_t, pxD_lt_f, pxD_le_t, pxD_le_f, pxD_eq_t, pxD_eq_f, pxJ_lt, pxJ_le, pxJ_eq, px_gI, px_gR, px_pI, px_rc, px_ai, px_ar, px_si, px_ln, px_cp, pxJ_div, pxJ_b8, pxJ_byte, px_b2, px_bs, px_rb0, px_rb1, px_min, px_max, px_compare, pxW_some, jw_t_I, px_cpt, jw_r_I, px_cpr, jw_l_I, px_cpl, Option.some.injEq, r0, r1, H.2.1.2.2.2.1, H.2.2.1.2.2.2.1, s_X8_isWell_b28 H 4 jw_FU 0 (by omega) (by omega) (by unfold jw_FU; omega)]
end
