/-! orders over the whole: lines moved, copied, sorted -/
def pxUp : Int → Nat → List Int
  | _, 0 => []
  | a, m + 1 => a :: pxUp (a + 1) m
theorem pxUp_len : ∀ (m : Nat) (a : Int), (pxUp a m).length = m
  | 0, _ => rfl
  | m + 1, a => by show (pxUp (a + 1) m).length + 1 = m + 1; rw [pxUp_len m]
theorem pxUp_at : ∀ (m : Nat) (a y : Int), 1 ≤ y → y ≤ m → pxG 0 (pxUp a m) y = a + y - 1
  | 0, _, y, h1, h2 => by omega
  | m + 1, a, y, h1, h2 => by
    by_cases e : y = 1
    · subst e
      show a = a + 1 - 1
      omega
    · have := pxUp_at m (a + 1) (y - 1) (by omega) (by omega)
      unfold pxG at this ⊢
      show (a :: pxUp (a + 1) m).getD (y - 1).toNat 0 = a + y - 1
      rw [show (y - 1).toNat = (y - 1 - 1).toNat + 1 by omega, List.getD_cons_succ, this]
      omega
/-- the numbers that are noted -/
def pxNumA (h : jw_H) (num : List Int) : Prop := num.length ≤ 40 ∧ ∀ y : Int, 1 ≤ y → y ≤ num.length → pxM h 569 (y - 1).toNat = pxG 0 num y
theorem pxNumA.fr {P : Nat → Nat → Prop} {h h' : jw_H} {num : List Int} (H : pxNumA h num) (F : pxF P h h') (hP : ∀ f, ¬ P 569 f) : pxNumA h' num := ⟨H.1, fun y y1 y2 => by rw [F.m (hP _)]; exact H.2 y y1 y2⟩
def pxQ9 : Nat → Nat → Prop := fun k _ => k = 569
theorem s_X10_lineUp_b6 {b : Int} (b1 : b ≤ 1000) : ∀ (m N : Nat) (h : jw_H) (a : Int) (num : List Int), a + m = b + 1 → m < N → 0 ≤ a → num.length + m ≤ 40 → pxWF h → pxNumA h num →
    ∃ h', f_X10_lineUp_b6 N h 559 (pxJ b) (pxJ num.length) (pxJ a) = some (pxJ ((num ++ pxUp a m).length : Int), h') ∧ pxF pxQ9 h h' ∧ pxNumA h' (num ++ pxUp a m) := by
  intro m
  induction m with
  | zero =>
    intro N h a num em hN a0 nl W A
    obtain ⟨N, rfl, hN⟩ := px_fu hN
    rw [u_X10_lineUp_b6]
    unfold g_X10_lineUp_b6
    have e : num ++ pxUp a 0 = num := List.append_nil _
    rw [e]
    refine ⟨h, ?_, pxF.rfl, A⟩
    simp (maxSteps := 4000000) (disch := first | assumption | omega | (simp only [jw_t_I, px_cpt]; done) | (simp only [jw_t_I, px_cpt]; omega)) only [pxL0, pxL1, pxL2, pxL3, pxL4, pxL5, pxL6, pxL7, pxL8, pxL9, pxL10, pxL11, pxL12, pxL13, pxL14, pxL15, pxL16, pxL17, pxL18, pxL19, pxL20, pxL21, pxL22, pxL23, pxL24, pxL25, pxL26, pxL27, pxL28, pxL29, pxL30, pxL31, pxL32, pxL33, pxL34, pxL35, pxL36, pxL37, pxL38, pxL39, pxL40, pxL41, pxL42, pxL43, pxL44, pxL45, pxL46, pxL47, pxL48, pxL49, pxL51, pxL57, pxL58, pxL59, pxL60, pxL61, pxL62, pxL63, pxL64, pxL65, pxL66, pxL67, pxL68, pxL69, pxL70, pxL71, pxL72, pxL73, pxL74, pxL75, pxL76, pxL77, pxL78, pxL79, pxL80, pxL81, pxL82, pxL83, pxL84, pxL85, pxL86, pxL87, pxL88, pxL89, pxL90, pxL91, pxL92, pxL93, pxL94, pxL95, pxL96, pxL97, pxL98, pxL99, pxL100, pxL101, pxL102, pxL103, pxL104, pxL105, pxL106, pxL107, pxL108, pxL109, pxL110, pxL111, pxL112, pxL113, pxL114, pxL115, pxL116, pxL117, pxL118, pxL119, pxL120, pxL121, pxL122, pxL123, pxL124, pxL125, pxL126, pxL200, pxL240, pxL287, pxL388, pxL400, pxL429, pxL431, pxL440, pxL1240, pxL1600, pxL1681, pxL12028, pxL13849, pxL14880, pxL25173, pxL26908, pxL49600, pxL65535, pxL65536, ↓reduceIte, reduceCtorEq, pxJ_add, pxJ_sub, pxJ_mul, pxJ_neg, pxD_lt_t, pxD_lt_f, pxD_le_t, pxD_le_f, pxD_eq_t, pxD_eq_f, pxJ_lt, pxJ_le, pxJ_eq, px_gI, px_gR, px_pI, px_rc, px_ai, px_ar, px_si, px_ln, px_cp, pxJ_div, pxJ_b8, pxJ_byte, px_b2, px_bs, px_rb0, px_rb1, px_min, px_max, px_compare, pxW_some, jw_t_I, px_cpt, jw_r_I, px_cpr, jw_l_I, px_cpl, Option.some.injEq]
  | succ m ih =>
    intro N h a num em hN a0 nl W A
    obtain ⟨N, rfl, hN⟩ := px_fu hN
    have w0 := W.1
    have w9 := W.2.2.2.2.2.2.2.2.2.2.1
    have t9 := W.2.2.2.2.2.2.2.2.2.2.2.2.1
    have ln : jw_ln h (some 569) = some (pxJ 40) := by rw [px_ln (by rw [t9]; simp), t9]; rfl
    have si : jw_si h 20 (some 569) (pxJ num.length) (pxJ a) = some (jw_setI h 569 ((num.length : Int)).toNat (pxJ a)) := px_si (by rw [t9]) (by omega) (by rw [t9]; show (num.length : Int) < ((40 : Nat) : Int); omega) (by omega)
    have F : pxF pxQ9 h (jw_setI h 569 ((num.length : Int)).toNat (pxJ a)) := pxF.setI rfl
    have A1 : pxNumA (jw_setI h 569 ((num.length : Int)).toNat (pxJ a)) (num ++ [a]) := by
      refine ⟨by rw [List.length_append, List.length_singleton]; omega, fun y y1 y2 => ?_⟩
      rw [List.length_append, List.length_singleton] at y2
      by_cases e : y = num.length + 1
      · rw [pxG_app1 e, e, show ((num.length : Int) + 1 - 1).toNat = ((num.length : Int)).toNat by omega, pxM_eq (by omega) (by omega)]
      · rw [pxM_ne (by omega), pxG_appL y1 (by omega)]
        exact A.2 y y1 (by omega)
    obtain ⟨h2, v1, v2, v3⟩ := ih N _ (a + 1) (num ++ [a]) (by omega) (by omega) (by omega) (by rw [List.length_append, List.length_singleton]; omega) (W.f9 F (fun f => by unfold pxQ9; omega)) A1
    rw [List.length_append, List.length_singleton, show ((num.length + 1 : Nat) : Int) = (num.length : Int) + 1 by omega] at v1
    have eu : num ++ pxUp a (m + 1) = num ++ [a] ++ pxUp (a + 1) m := by rw [List.append_assoc]; rfl
    rw [eu]
    refine ⟨h2, ?_, F.trans v2, v3⟩
    rw [u_X10_lineUp_b6]
    unfold g_X10_lineUp_b6
    simp (maxSteps := 4000000) (disch := first | assumption | omega | (simp only [jw_t_I, px_cpt]; done) | (simp only [jw_t_I, px_cpt]; omega)) only [pxL0, pxL1, pxL2, pxL3, pxL4, pxL5, pxL6, pxL7, pxL8, pxL9, pxL10, pxL11, pxL12, pxL13, pxL14, pxL15, pxL16, pxL17, pxL18, pxL19, pxL20, pxL21, pxL22, pxL23, pxL24, pxL25, pxL26, pxL27, pxL28, pxL29, pxL30, pxL31, pxL32, pxL33, pxL34, pxL35, pxL36, pxL37, pxL38, pxL39, pxL40, pxL41, pxL42, pxL43, pxL44, pxL45, pxL46, pxL47, pxL48, pxL49, pxL51, pxL57, pxL58, pxL59, pxL60, pxL61, pxL62, pxL63, pxL64, pxL65, pxL66, pxL67, pxL68, pxL69, pxL70, pxL71, pxL72, pxL73, pxL74, pxL75, pxL76, pxL77, pxL78, pxL79, pxL80, pxL81, pxL82, pxL83, pxL84, pxL85, pxL86, pxL87, pxL88, pxL89, pxL90, pxL91, pxL92, pxL93, pxL94, pxL95, pxL96, pxL97, pxL98, pxL99, pxL100, pxL101, pxL102, pxL103, pxL104, pxL105, pxL106, pxL107, pxL108, pxL109, pxL110, pxL111, pxL112, pxL113, pxL114, pxL115, pxL116, pxL117, pxL118, pxL119, pxL120, pxL121, pxL122, pxL123, pxL124, pxL125, pxL126, pxL200, pxL240, pxL287, pxL388, pxL400, pxL429, pxL431, pxL440, pxL1240, pxL1600, pxL1681, pxL12028, pxL13849, pxL14880, pxL25173, pxL26908, pxL49600, pxL65535, pxL65536, ↓reduceIte, reduceCtorEq, pxJ_add, pxJ_sub, pxJ_mul, pxJ_neg, pxD_lt_t, pxD_lt_f, pxD_le_t, pxD_le_f, pxD_eq_t, pxD_eq_f, pxJ_lt, pxJ_le, pxJ_eq, px_gI, px_gR, px_pI, px_rc, px_ai, px_ar, px_si, px_ln, px_cp, pxJ_div, pxJ_b8, pxJ_byte, px_b2, px_bs, px_rb0, px_rb1, px_min, px_max, px_compare, pxW_some, jw_t_I, px_cpt, jw_r_I, px_cpr, jw_l_I, px_cpl, Option.some.injEq, w0, w9, ln, si, v1]
theorem s_X10_lineUp {h : jw_H} {a b : Int} {num : List Int} (b1 : b ≤ 1000) (a0 : 0 ≤ a) (ab : a ≤ b + 1) (nl : num.length + (b - a + 1) ≤ 40) (W : pxWF h) (A : pxNumA h num) :
    ∃ h', f_X10_lineUp h 559 (pxJ num.length) (pxJ a) (pxJ b) = some (pxJ ((num ++ pxUp a (b - a + 1).toNat).length : Int), h') ∧ pxF pxQ9 h h' ∧ pxNumA h' (num ++ pxUp a (b - a + 1).toNat) :=
  s_X10_lineUp_b6 b1 (b - a + 1).toNat jw_FU h a num (by omega) (by unfold jw_FU; omega) a0 (by omega) W A
section
variable {ls : pxLs} {mk : Int → Int} {now nx : Int}
theorem s_X9_arrange {h : jw_H} {t sp ν : Nat} {num : List Int} (hd : sp + 5 < t ∨ t + 5 < sp) (hv : ν < t ∨ t + 5 < ν) (hv2 : ν < sp ∨ sp + 5 < ν) (nl : num.length = ls.length) (nb : ∀ x : Int, 1 ≤ x → x ≤ ls.length → 1 ≤ pxG 0 num x ∧ pxG 0 num x ≤ ls.length) (H : pxIT h t ls mk now nx) (X : pxSX h sp) (tv : jw_t h ν = (20, 40)) (mv : ∀ y : Int, 1 ≤ y → y ≤ ls.length → pxM h ν (y - 1).toNat = pxG 0 num y) :
    pxW (f_X9_arrange h t (some ν) (some sp)) fun _ h' => pxF (fun k f => pxC t (t + 5) k f ∨ pxC sp (sp + 5) k f) h h' ∧ pxIT h' t (num.map (pxAt ls)) mk now nx ∧ pxSX h' sp := by
  have l40 := H.len
  have t9s := X.1.1
  unfold f_X9_arrange
  simp (maxSteps := 4000000) (disch := first | assumption | omega | (simp only [jw_t_I, px_cpt]; done) | (simp only [jw_t_I, px_cpt]; omega)) only [pxL0, pxL1, pxL2, pxL3, pxL4, pxL5, pxL6, pxL7, pxL8, pxL9, pxL10, pxL11, pxL12, pxL13, pxL14, pxL15, pxL16, pxL17, pxL18, pxL19, pxL20, pxL21, pxL22, pxL23, pxL24, pxL25, pxL26, pxL27, pxL28, pxL29, pxL30, pxL31, pxL32, pxL33, pxL34, pxL35, pxL36, pxL37, pxL38, pxL39, pxL40, pxL41, pxL42, pxL43, pxL44, pxL45, pxL46, pxL47, pxL48, pxL49, pxL51, pxL57, pxL58, pxL59, pxL60, pxL61, pxL62, pxL63, pxL64, pxL65, pxL66, pxL67, pxL68, pxL69, pxL70, pxL71, pxL72, pxL73, pxL74, pxL75, pxL76, pxL77, pxL78, pxL79, pxL80, pxL81, pxL82, pxL83, pxL84, pxL85, pxL86, pxL87, pxL88, pxL89, pxL90, pxL91, pxL92, pxL93, pxL94, pxL95, pxL96, pxL97, pxL98, pxL99, pxL100, pxL101, pxL102, pxL103, pxL104, pxL105, pxL106, pxL107, pxL108, pxL109, pxL110, pxL111, pxL112, pxL113, pxL114, pxL115, pxL116, pxL117, pxL118, pxL119, pxL120, pxL121, pxL122, pxL123, pxL124, pxL125, pxL126, pxL200, pxL240, pxL287, pxL388, pxL400, pxL429, pxL431, pxL440, pxL1240, pxL1600, pxL1681, pxL12028, pxL13849, pxL14880, pxL25173, pxL26908, pxL49600, pxL65535, pxL65536, ↓reduceIte, reduceCtorEq, pxJ_add, pxJ_sub, pxJ_mul, pxJ_neg, pxD_lt_t, pxD_lt_f, pxD_le_t, pxD_le_f, pxD_eq_t, pxD_eq_f, pxJ_lt, pxJ_le, pxJ_eq, px_gI, px_gR, px_pI, px_rc, px_ai, px_ar, px_si, px_ln, px_cp, pxJ_div, pxJ_b8, pxJ_byte, px_b2, px_bs, px_rb0, px_rb1, px_min, px_max, px_compare, pxW_some, jw_t_I, px_cpt, jw_r_I, px_cpr, jw_l_I, px_cpl, Option.some.injEq, t9s]
  refine pxW_b2 (s_X9_copy X H (by omega)) fun _ h1 k => ?_
  obtain ⟨F1, H1⟩ := k
  have Ha := H.fr F1 (fun k f _ _ => by unfold pxC; omega)
  refine (s_X9_arrange_b7 (by omega) hv nl nb ls.length jw_FU h1 1 (by omega) (by unfold jw_FU; omega) (by omega) (by simpa using Ha) H1 (by rw [F1.t]; exact tv) (fun y y1 y2 => by rw [F1.m (by unfold pxC; omega)]; exact mv y y1 y2)).mono fun _ h' k => ⟨(F1.mono (fun k f z => Or.inr z)).trans (k.1.mono (fun k f z => Or.inl z)), k.2, H1.sx.fr k.1 (fun k f _ _ => by unfold pxC; omega)⟩
theorem pxUp_map {a : Int} {m : Nat} (a1 : 1 ≤ a) (am : a + m ≤ ls.length + 1) : (pxUp a m).map (pxAt ls) = pxSub ls a (a + m - 1) := by
  have sl := pxSub_len (l := ls) (x := a) (y := a + m - 1) a1 (by omega) (by omega)
  refine pxG_ext (d := (0, [])) (by rw [List.length_map, pxUp_len]; omega) (fun y y1 y2 => ?_)
  rw [List.length_map, pxUp_len] at y2
  rw [pxG_mapi (d := (0 : Int)) y1 (by rw [pxUp_len]; exact y2), pxUp_at m a y y1 y2, pxSub_at a1 y1 (by omega)]
  rfl
/-- a block of lines in another place -/
theorem pxMove_e {α : Type} {d : α} {ls : List α} {f l t : Int} (f1 : 1 ≤ f) (fl : f ≤ l) (l1 : l ≤ ls.length) (t0 : 0 ≤ t) (t1 : t ≤ ls.length) (ht : t < f ∨ l ≤ t) :
    pxIns (pxDel ls f (l - f + 1)) (pxMoA f l t) (pxSub ls f l) = if t < f then pxSub ls 1 t ++ (pxSub ls f l ++ (pxSub ls (t + 1) (f - 1) ++ pxSub ls (l + 1) ls.length)) else pxSub ls 1 (f - 1) ++ (pxSub ls (l + 1) t ++ (pxSub ls f l ++ pxSub ls (t + 1) ls.length)) := by
  have dl := pxDel_len (l := ls) (x := f) (n := l - f + 1) f1 (by omega) (by omega)
  have s1 := pxSub_len (l := ls) (x := f) (y := l) f1 (by omega) l1
  unfold pxMoA
  by_cases c : t < f
  · rw [if_pos c, if_pos c]
    have s2 := pxSub_len (l := ls) (x := 1) (y := t) (by omega) (by omega) t1
    have s3 := pxSub_len (l := ls) (x := t + 1) (y := f - 1) (by omega) (by omega) (by omega)
    have s4 := pxSub_len (l := ls) (x := l + 1) (y := ls.length) (by omega) (by omega) (by omega)
    refine pxG_ext (d := d) (by rw [pxIns_len, List.length_append, List.length_append, List.length_append]; omega) (fun y y1 y2 => ?_)
    rw [pxIns_len] at y2
    by_cases c1 : y < t + 1
    · rw [pxIns_lo y1 c1 (by omega), pxDel_lo y1 (by omega) (by omega), pxG_appL y1 (by omega), pxSub_at (by omega) y1 (by omega)]
      congr 1; omega
    · rw [pxG_appR (by omega), s2]
      by_cases c2 : y < t + 1 + (pxSub ls f l).length
      · rw [pxIns_in (by omega) c2 (by omega) (by omega), pxG_appL (by omega) (by omega)]
        congr 1; omega
      · rw [pxIns_hi (by omega) (by omega) (by omega), pxG_appR (by omega)]
        by_cases c3 : y - (pxSub ls f l).length < f
        · rw [pxDel_lo (by omega) c3 (by omega), pxG_appL (by omega) (by omega), pxSub_at (by omega) (by omega) (by omega)]
          congr 1; omega
        · rw [pxDel_hi (by omega) (by omega) (by omega) f1, pxG_appR (by omega), pxSub_at (by omega) (by omega) (by omega)]
          congr 1; omega
  · rw [if_neg c, if_neg c]
    have s2 := pxSub_len (l := ls) (x := 1) (y := f - 1) (by omega) (by omega) (by omega)
    have s3 := pxSub_len (l := ls) (x := l + 1) (y := t) (by omega) (by omega) (by omega)
    have s4 := pxSub_len (l := ls) (x := t + 1) (y := ls.length) (by omega) (by omega) (by omega)
    refine pxG_ext (d := d) (by rw [pxIns_len, List.length_append, List.length_append, List.length_append]; omega) (fun y y1 y2 => ?_)
    rw [pxIns_len] at y2
    by_cases c1 : y < t - (l - f + 1) + 1
    · rw [pxIns_lo y1 c1 (by omega)]
      by_cases c0 : y < f
      · rw [pxDel_lo y1 c0 (by omega), pxG_appL y1 (by omega), pxSub_at (by omega) y1 (by omega)]
        congr 1; omega
      · rw [pxDel_hi (by omega) (by omega) (by omega) f1, pxG_appR (by omega), s2, pxG_appL (by omega) (by omega), pxSub_at (by omega) (by omega) (by omega)]
        congr 1; omega
    · rw [pxG_appR (by omega), s2, pxG_appR (by omega), s3]
      by_cases c2 : y < t - (l - f + 1) + 1 + (pxSub ls f l).length
      · rw [pxIns_in (by omega) c2 (by omega) (by omega), pxG_appL (by omega) (by omega)]
        congr 1; omega
      · rw [pxIns_hi (by omega) (by omega) (by omega), pxDel_hi (by omega) (by omega) (by omega) f1, pxG_appR (by omega), s1, pxSub_at (by omega) (by omega) (by omega)]
        congr 1; omega
/-- what a doer with numbers and a spare text may change -/
def pxQn9 : Nat → Nat → Prop := fun k _ => (255 ≤ k ∧ k ≤ 260) ∨ (563 ≤ k ∧ k ≤ 569)
theorem s_X10_move_b150 {h : jw_H} {f l t : Int} {x2 x3 : Int} {num : List Int} (W : pxWF h) (Rn : pxRn h f l) (H : pxIT h 255 ls mk now nx) (X : pxSX h 563) (A : pxNumA h num) (l0 : 0 ≤ l) (l1 : l ≤ ls.length) (t0 : 0 ≤ t) (t1 : t ≤ ls.length) (nl : (num.length : Int) = max t l) (x20 : 0 ≤ x2) (x21 : x2 ≤ 100) (x30 : -100 ≤ x3) (x31 : x3 ≤ 100) (nb : ∀ x : Int, 1 ≤ x → x ≤ num.length → 1 ≤ pxG 0 num x ∧ pxG 0 num x ≤ ls.length) :
    pxW (g_X10_move_b150 h 559 (pxJ t) (pxJ x2) (pxJ x3) (pxJ num.length)) fun q h' => pxF pxQn9 h h' ∧ q = pxJ 0 ∧ pxIT h' 255 ((num ++ pxUp (max t l + 1) (ls.length - (max t l + 1) + 1 : Int).toNat).map (pxAt ls)) mk (x3 + x2 - 1) nx ∧ pxSX h' 563 := by
  have l40 := H.len
  have w0 := W.1
  have w1 := W.2.2.1
  have t9 := H.1.1
  have r0 := H.1.2.1
  have t7 := H.2.1.1.1
  have c2 := H.c2
  obtain ⟨rf, rl⟩ := Rn
  obtain ⟨h1, v1, v2, v3⟩ := s_X10_lineUp (a := max t l + 1) (b := ls.length) (num := num) (by omega) (by omega) (by omega) (by omega) W A
  have W1 := W.f9 v2 (fun f => by unfold pxQ9; omega)
  have H1 := H.fr v2 (fun k f _ _ => by unfold pxQ9; omega)
  have X1 := X.fr v2 (fun k f _ _ => by unfold pxQ9; omega)
  have w01 := W1.1
  have w11 := W1.2.2.1
  have w81 := W1.2.2.2.2.2.2.2.2.2.1
  have w91 := W1.2.2.2.2.2.2.2.2.2.2.1
  have tv := W1.2.2.2.2.2.2.2.2.2.2.2.2.1
  have t91 := H1.1.1
  have ul : (num ++ pxUp (max t l + 1) (ls.length - (max t l + 1) + 1 : Int).toNat).length = ls.length := by rw [List.length_append, pxUp_len]; omega
  unfold g_X10_move_b150
  simp (maxSteps := 4000000) (disch := first | assumption | omega | (simp only [jw_t_I, px_cpt]; done) | (simp only [jw_t_I, px_cpt]; omega)) only [pxL0, pxL1, pxL2, pxL3, pxL4, pxL5, pxL6, pxL7, pxL8, pxL9, pxL10, pxL11, pxL12, pxL13, pxL14, pxL15, pxL16, pxL17, pxL18, pxL19, pxL20, pxL21, pxL22, pxL23, pxL24, pxL25, pxL26, pxL27, pxL28, pxL29, pxL30, pxL31, pxL32, pxL33, pxL34, pxL35, pxL36, pxL37, pxL38, pxL39, pxL40, pxL41, pxL42, pxL43, pxL44, pxL45, pxL46, pxL47, pxL48, pxL49, pxL51, pxL57, pxL58, pxL59, pxL60, pxL61, pxL62, pxL63, pxL64, pxL65, pxL66, pxL67, pxL68, pxL69, pxL70, pxL71, pxL72, pxL73, pxL74, pxL75, pxL76, pxL77, pxL78, pxL79, pxL80, pxL81, pxL82, pxL83, pxL84, pxL85, pxL86, pxL87, pxL88, pxL89, pxL90, pxL91, pxL92, pxL93, pxL94, pxL95, pxL96, pxL97, pxL98, pxL99, pxL100, pxL101, pxL102, pxL103, pxL104, pxL105, pxL106, pxL107, pxL108, pxL109, pxL110, pxL111, pxL112, pxL113, pxL114, pxL115, pxL116, pxL117, pxL118, pxL119, pxL120, pxL121, pxL122, pxL123, pxL124, pxL125, pxL126, pxL200, pxL240, pxL287, pxL388, pxL400, pxL429, pxL431, pxL440, pxL1240, pxL1600, pxL1681, pxL12028, pxL13849, pxL14880, pxL25173, pxL26908, pxL49600, pxL65535, pxL65536, ↓reduceIte, reduceCtorEq, pxJ_add, pxJ_sub, pxJ_mul, pxJ_neg, pxD_lt_t, pxD_lt_f, pxD_le_t, pxD_le_f, pxD_eq_t, pxD_eq_f, pxJ_lt, pxJ_le, pxJ_eq, px_gI, px_gR, px_pI, px_rc, px_ai, px_ar, px_si, px_ln, px_cp, pxJ_div, pxJ_b8, pxJ_byte, px_b2, px_bs, px_rb0, px_rb1, px_min, px_max, px_compare, pxW_some, jw_t_I, px_cpt, jw_r_I, px_cpr, jw_l_I, px_cpl, Option.some.injEq, w0, rl, w1, t9, r0, t7, c2, v1, w01, w11, w91, w81, t91]
  have nb2 : ∀ x : Int, 1 ≤ x → x ≤ ls.length → 1 ≤ pxG 0 (num ++ pxUp (max t l + 1) (ls.length - (max t l + 1) + 1 : Int).toNat) x ∧ pxG 0 (num ++ pxUp (max t l + 1) (ls.length - (max t l + 1) + 1 : Int).toNat) x ≤ ls.length := by
    intro x x1 x2
    by_cases c : x ≤ num.length
    · rw [pxG_appL x1 c]; exact nb x x1 c
    · rw [pxG_appR (by omega), pxUp_at _ _ _ (by omega) (by omega)]
      omega
  refine pxW_b2 (s_X9_arrange (ν := 569) (sp := 563) (by omega) (by omega) (by omega) ul nb2 H1 X1 tv (fun y y1 y2 => v3.2 y y1 (by omega))) fun _ h2 k => ?_
  obtain ⟨F2, H2, X2⟩ := k
  have W2 := W1.f9 F2 (fun f => by unfold pxC; omega)
  have w02 := W2.1
  have w12 := W2.2.2.1
  have t92 := H2.1.1
  have F3 : pxF (fun k f => k = 255 ∧ f = 3) h2 (jw_setI h2 255 3 (pxJ (x3 + x2 - 1))) := pxF.setI ⟨rfl, rfl⟩
  simp (maxSteps := 4000000) (disch := first | assumption | omega | (simp only [jw_t_I, px_cpt]; done) | (simp only [jw_t_I, px_cpt]; omega)) only [pxL0, pxL1, pxL2, pxL3, pxL4, pxL5, pxL6, pxL7, pxL8, pxL9, pxL10, pxL11, pxL12, pxL13, pxL14, pxL15, pxL16, pxL17, pxL18, pxL19, pxL20, pxL21, pxL22, pxL23, pxL24, pxL25, pxL26, pxL27, pxL28, pxL29, pxL30, pxL31, pxL32, pxL33, pxL34, pxL35, pxL36, pxL37, pxL38, pxL39, pxL40, pxL41, pxL42, pxL43, pxL44, pxL45, pxL46, pxL47, pxL48, pxL49, pxL51, pxL57, pxL58, pxL59, pxL60, pxL61, pxL62, pxL63, pxL64, pxL65, pxL66, pxL67, pxL68, pxL69, pxL70, pxL71, pxL72, pxL73, pxL74, pxL75, pxL76, pxL77, pxL78, pxL79, pxL80, pxL81, pxL82, pxL83, pxL84, pxL85, pxL86, pxL87, pxL88, pxL89, pxL90, pxL91, pxL92, pxL93, pxL94, pxL95, pxL96, pxL97, pxL98, pxL99, pxL100, pxL101, pxL102, pxL103, pxL104, pxL105, pxL106, pxL107, pxL108, pxL109, pxL110, pxL111, pxL112, pxL113, pxL114, pxL115, pxL116, pxL117, pxL118, pxL119, pxL120, pxL121, pxL122, pxL123, pxL124, pxL125, pxL126, pxL200, pxL240, pxL287, pxL388, pxL400, pxL429, pxL431, pxL440, pxL1240, pxL1600, pxL1681, pxL12028, pxL13849, pxL14880, pxL25173, pxL26908, pxL49600, pxL65535, pxL65536, ↓reduceIte, reduceCtorEq, pxJ_add, pxJ_sub, pxJ_mul, pxJ_neg, pxD_lt_t, pxD_lt_f, pxD_le_t, pxD_le_f, pxD_eq_t, pxD_eq_f, pxJ_lt, pxJ_le, pxJ_eq, px_gI, px_gR, px_pI, px_rc, px_ai, px_ar, px_si, px_ln, px_cp, pxJ_div, pxJ_b8, pxJ_byte, px_b2, px_bs, px_rb0, px_rb1, px_min, px_max, px_compare, pxW_some, jw_t_I, px_cpt, jw_r_I, px_cpr, jw_l_I, px_cpl, Option.some.injEq, w02, w12, t92]
  exact ⟨(v2.mono (fun k f z => by unfold pxQ9 at z; unfold pxQn9; omega)).trans ((F2.mono (fun k f z => by unfold pxC at z; unfold pxQn9; omega)).trans (F3.mono (fun k f z => by unfold pxQn9; omega))), trivial, H2.now3 (by omega) (by omega), X2.fr F3 (fun k f _ _ => by omega)⟩
end
