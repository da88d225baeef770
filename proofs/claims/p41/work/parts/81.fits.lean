/-! matching: elements over a row -/
section
variable {s r : List Int}
theorem pxBk_le : ∀ (m : Nat) (a x : Int), pxBk r m a x = true → x ≤ r.length → x + m ≤ r.length
  | 0, _, _, _, h => by simpa using h
  | m + 1, a, x, e, h => by
    have e' : (decide (x < r.length ∧ pxE r a = pxE r x) && pxBk r m (a + 1) (x + 1)) = true := e
    rw [Bool.and_eq_true, decide_eq_true_eq] at e'
    have := pxBk_le m (a + 1) (x + 1) e'.2 (by omega)
    omega
theorem s_X4_fits_e {n : Nat} {h : jw_H} {e x t most : Int} {l : List (Int × Int)} (H : pxPE h s e most l) (T : pxMT h r) (x0 : 0 ≤ x) (x1 : x ≤ r.length) (t0 : 0 ≤ t) (t1 : t ≤ 2) :
    f_X4_fits (n + 1) h 531 (pxJ e) (pxJ x) (pxJ t) = f_X4_fits_b77 (f_X4_fits n) jw_FU h 531 (pxJ t) (pxJ x) (pxJ most) (pxJ e) := by
  obtain ⟨S, a2, a3, a4, a5, a6⟩ := H
  obtain ⟨⟨m0, q0, q1, q2, q3, q4, t532, t533, t534, t535⟩, ok, m5, mr⟩ := T
  have t6 := S.1
  have r1 := S.2.2.1
  have r2 := S.2.2.2.1
  have t252 := S.2.2.2.2.2.1
  have t253 := S.2.2.2.2.2.2.1
  have l30 := ok.1
  have ln1 : jw_ln h (some 532) = some (pxJ 30) := by rw [px_ln (by rw [t532]; simp), t532]; rfl
  have ln2 : jw_ln h (some 533) = some (pxJ 30) := by rw [px_ln (by rw [t533]; simp), t533]; rfl
  have ln3 : jw_ln h (some 252) = some (pxJ 120) := by rw [px_ln (by rw [t252]; simp), t252]; rfl
  have ln4 : jw_ln h (some 253) = some (pxJ 120) := by rw [px_ln (by rw [t253]; simp), t253]; rfl
  have mn : min most (min 120 120 : Int) = most := by omega
  rw [u_X4_fits]
  unfold g_X4_fits
  simp (maxSteps := 4000000) (disch := first | assumption | omega | (simp only [jw_t_I, px_cpt]; done) | (simp only [jw_t_I, px_cpt]; omega)) only [pxL0, pxL1, pxL2, pxL3, pxL4, pxL5, pxL6, pxL7, pxL8, pxL9, pxL10, pxL11, pxL12, pxL13, pxL14, pxL15, pxL16, pxL17, pxL18, pxL19, pxL20, pxL21, pxL22, pxL23, pxL24, pxL25, pxL26, pxL27, pxL28, pxL29, pxL30, pxL31, pxL32, pxL33, pxL34, pxL35, pxL36, pxL37, pxL38, pxL39, pxL40, pxL41, pxL42, pxL43, pxL44, pxL45, pxL46, pxL47, pxL48, pxL49, pxL51, pxL57, pxL58, pxL59, pxL60, pxL61, pxL62, pxL63, pxL64, pxL65, pxL66, pxL67, pxL68, pxL69, pxL70, pxL71, pxL72, pxL73, pxL74, pxL75, pxL76, pxL77, pxL78, pxL79, pxL80, pxL81, pxL82, pxL83, pxL84, pxL85, pxL86, pxL87, pxL88, pxL89, pxL90, pxL91, pxL92, pxL93, pxL94, pxL95, pxL96, pxL97, pxL98, pxL99, pxL100, pxL101, pxL102, pxL103, pxL104, pxL105, pxL106, pxL107, pxL108, pxL109, pxL110, pxL111, pxL112, pxL113, pxL114, pxL115, pxL116, pxL117, pxL118, pxL119, pxL120, pxL121, pxL122, pxL123, pxL124, pxL125, pxL126, pxL200, pxL240, pxL287, pxL388, pxL400, pxL429, pxL431, pxL440, pxL1240, pxL1600, pxL1681, pxL12028, pxL13849, pxL14880, pxL25173, pxL26908, pxL49600, pxL65535, pxL65536, ↓reduceIte, reduceCtorEq, pxJ_add, pxJ_sub, pxJ_mul, pxJ_neg, pxD_lt_t, pxD_lt_f, pxD_le_t, pxD_le_f, pxD_eq_t, pxD_eq_f, pxJ_lt, pxJ_le, pxJ_eq, px_gI, px_gR, px_pI, px_rc, px_ai, px_ar, px_si, px_ln, px_cp, pxJ_div, pxJ_b8, pxJ_byte, px_b2, px_bs, px_rb0, px_rb1, px_min, px_max, px_compare, pxW_some, jw_t_I, px_cpt, jw_r_I, px_cpr, jw_l_I, px_cpl, Option.some.injEq, m0, m5, q0, q1, q2, t6, r1, r2, a2, ln1, ln2, ln3, ln4, mn]
theorem s_X4_fits_l : ∀ (l : List (Int × Int)) (N n : Nat) (h : jw_H) (e g q t x most : Int) (o c : Int → Int), l.length < N → 3 ≤ n + t → pxPE h s e most l → pxMT h r → pxWE g q t l → 0 ≤ t → t ≤ 2 → 0 ≤ q → q ≤ g → g ≤ 2 → 0 ≤ x → x ≤ r.length → pxGI h g q x o c →
    pxFO h s r l g q x o c (f_X4_fits_b77 (f_X4_fits n) N h 531 (pxJ t) (pxJ x) (pxJ most) (pxJ e)) := by
  intro l
  induction l with
  | nil => intro N n h e g q t x most o c _ _ _ _ W; exact W.elim
  | cons el l ih =>
    intro N n h e g q t x most o c hN hn H T W t0 t1 q0 q1 g1 x0 x1 I
    simp only [List.length_cons] at hN
    obtain ⟨N, rfl, hN⟩ := px_fu hN
    obtain ⟨tt, eg, et⟩ := px_grp (ks := f_X4_fits n) (k77 := f_X4_fits_b77 (f_X4_fits n) N) (x3 := pxJ t) (x4 := pxJ x) H T.1
    rw [u_X4_fits_b77, eg]
    have Ht := H.tl
    obtain ⟨S, a2, a3, a4, a5, a6⟩ := H
    simp only [List.length_cons] at a5
    have T' := T
    obtain ⟨⟨m0, r0, r1, r2, r3, r4, t532, t533, t534, t535⟩, ok, m5, mr⟩ := T'
    have t6 := S.1
    have p1 := S.2.2.1
    have t252 := S.2.2.2.2.2.1
    have l30 := ok.1
    have ak : jw_ai h 20 (some 252) (pxJ e) = some (pxJ (pxM h 252 e.toNat)) := px_ai (by rw [t252]) a4 (by rw [t252]; show e < ((120 : Nat) : Int); omega) (by omega)
    have E := a6.1
    generalize pxM h 252 e.toNat = kind at ak E
    generalize hv : jw_l h 253 e.toNat = v at E et ⊢
    have W' : (el.1 = 5 → el.2 = g + 1 ∧ g = q ∧ g + 1 ≤ 2) ∧ (el.1 = 6 → el.2 = g ∧ g = q + 1) ∧ (el.1 = 7 → 1 ≤ el.2 ∧ el.2 ≤ q) ∧ (el.1 = 3 → t + 1 ≤ 2) ∧ (el.1 ≠ 10 → pxWE (if el.1 = 5 then g + 1 else g) (if el.1 = 6 then q + 1 else q) (if el.1 = 3 then t + 1 else t) l) := by
      rcases W with W | W
      · exact ⟨fun z => by omega, fun z => by omega, fun z => by omega, fun z => by omega, fun z => absurd W z⟩
      · exact ⟨W.1, W.2.1, W.2.2.1, W.2.2.2.1, fun _ => W.2.2.2.2⟩
    clear W
    obtain ⟨w5, w6, w7, w3, wl⟩ := W'
    have next : ∀ {h1 : jw_H} {x1' : Int} {o' c' : Int → Int} {g' q' : Int}, el.1 ≠ 10 → el.1 ≠ 3 → pxF (pxQm g q) h h1 → (if el.1 = 5 then g + 1 else g) = g' → (if el.1 = 6 then q + 1 else q) = q' → g ≤ g' → q ≤ q' → q' ≤ g' → g' ≤ 2 → x ≤ x1' → x1' ≤ r.length → pxGI h1 g' q' x1' o' c' → pxFit s r (el :: l) o c x = pxFit s r l o' c' x1' → pxFO h s r (el :: l) g q x o c (f_X4_fits_b77 (f_X4_fits n) N h1 531 (pxJ t) (pxJ x1') (pxJ most) (pxJ (e + 1))) := by
      intro h1 y o' c' g' q' n10 n3 F eg eq gg qq qg g2 xy yl I' ef
      have wl' := wl n10
      rw [eg, eq, if_neg n3] at wl'
      obtain ⟨y1, y2⟩ := ih N n h1 (e + 1) g' q' t y most o' c' (by omega) hn (Ht.fr F (fun k f z => by unfold pxQm; omega)) (T.fr F (fun k f z => by unfold pxQm; omega)) wl' t0 t1 (by omega) qg g2 (by omega) yl I'
      have mono : ∀ {h2 : jw_H}, pxF (pxQm g' q') h1 h2 → pxF (pxQm g q) h h2 := fun F2 => F.trans (F2.mono (fun k f z => by unfold pxQm at z ⊢; omega))
      refine ⟨fun z => ?_, fun y3 o3 c3 z => ?_⟩
      · rw [ef] at z
        obtain ⟨h2, b1, b2⟩ := y1 z
        exact ⟨h2, b1, mono b2⟩
      · rw [ef] at z
        obtain ⟨h2, b1, b2, b3, b4, b5⟩ := y2 y3 o3 c3 z
        refine ⟨h2, b1, mono b2, by omega, b4, fun k k1 k2 => b5 k k1 ?_⟩
        have : pxGc q (el :: l) = pxGc q' l := by
          show (if el.1 = 10 then q else pxGc (if el.1 = 6 then q + 1 else q) l) = _
          rw [if_neg n10, eq]
        omega
    have fit : pxFit s r (el :: l) o c x = if el.1 = 3 then pxDesc (fun y => pxFit s r l o c y) (r.length - x + 1).toNat r.length
      else if el.1 = 5 then pxFit s r l (pxU o el.2 x) c x
      else if el.1 = 6 then pxFit s r l o (pxU c el.2 x) x
      else if el.1 = 7 then (if pxBk r (c el.2 - o el.2).toNat (o el.2) x = true then pxFit s r l o c (x + (c el.2 - o el.2)) else none)
      else if el.1 = 8 then (if x = 0 then pxFit s r l o c x else none)
      else if el.1 = 9 then (if x = r.length then pxFit s r l o c x else none)
      else if el.1 = 10 then some (x, o, c)
      else if x < r.length ∧ pxHb s el (pxE r x) = true then pxFit s r l o c (x + 1) else none := by rw [pxFit]
    have none' : ∀ {E : Option (Int32 × jw_H)}, pxFit s r (el :: l) o c x = none → E = some (pxJ (-1), h) → pxFO h s r (el :: l) g q x o c E := by
      intro E z1 z2
      refine ⟨fun _ => ⟨h, z2, pxF.rfl⟩, fun y o' c' z => ?_⟩
      rw [z1] at z; cases z
    unfold g_X4_fits_b119
    rcases E with ⟨e1, ek, ev⟩ | ⟨e1, ek⟩ | ⟨e1, ek, -, b1, b2⟩ | ⟨e1, ek, -, b1, b2⟩ | ⟨e1, ek, -, b1, b2⟩ | ⟨e1, ek⟩ | ⟨e1, ek⟩ | ⟨e1, ek⟩
    · -- a sign
      have nn : ¬ el.1 = 3 ∧ ¬ el.1 = 5 ∧ ¬ el.1 = 6 ∧ ¬ el.1 = 7 ∧ ¬ el.1 = 8 ∧ ¬ el.1 = 9 ∧ ¬ el.1 = 10 := by omega
      obtain ⟨n3, n5, n6, n7, n8, n9, n10⟩ := nn
      rw [if_neg n3, if_neg n5, if_neg n6, if_neg n7, if_neg n8, if_neg n9, if_neg n10] at fit
      by_cases cx : x < r.length
      · have chx : pxIsCh (pxE r x) = true := pxIsCh_iff.mpr (pxE_ch ok x0 cx)
        have al : jw_al h (some 533) (pxJ x) = some (pxBit (pxE r x)) := by rw [px_al (by rw [t533]) x0 (by rw [t533]; show x < ((30 : Nat) : Int); omega) (by omega), (mr x x0 cx).2]
        have ba := pxBit_and (m := v) chx
        by_cases hb : pxHb s el (pxE r x) = true
        · have bs : pxBs v (pxE r x) = true := (ev _ chx).mpr (pxHb_i.mp hb)
          rw [bs] at ba
          rw [if_pos ⟨cx, hb⟩] at fit
          have := next (h1 := h) (x1' := x + 1) (o' := o) (c' := c) (g' := g) (q' := q) n10 n3 pxF.rfl (if_neg n5) (if_neg n6) (by omega) (by omega) q1 g1 (by omega) (by omega) (I.fr pxF.rfl (by omega)) fit
          unfold g_X4_fits_b369
          simp (maxSteps := 4000000) (disch := first | assumption | omega | (simp only [jw_t_I, px_cpt]; done) | (simp only [jw_t_I, px_cpt]; omega)) only [pxL0, pxL1, pxL2, pxL3, pxL4, pxL5, pxL6, pxL7, pxL8, pxL9, pxL10, pxL11, pxL12, pxL13, pxL14, pxL15, pxL16, pxL17, pxL18, pxL19, pxL20, pxL21, pxL22, pxL23, pxL24, pxL25, pxL26, pxL27, pxL28, pxL29, pxL30, pxL31, pxL32, pxL33, pxL34, pxL35, pxL36, pxL37, pxL38, pxL39, pxL40, pxL41, pxL42, pxL43, pxL44, pxL45, pxL46, pxL47, pxL48, pxL49, pxL51, pxL57, pxL58, pxL59, pxL60, pxL61, pxL62, pxL63, pxL64, pxL65, pxL66, pxL67, pxL68, pxL69, pxL70, pxL71, pxL72, pxL73, pxL74, pxL75, pxL76, pxL77, pxL78, pxL79, pxL80, pxL81, pxL82, pxL83, pxL84, pxL85, pxL86, pxL87, pxL88, pxL89, pxL90, pxL91, pxL92, pxL93, pxL94, pxL95, pxL96, pxL97, pxL98, pxL99, pxL100, pxL101, pxL102, pxL103, pxL104, pxL105, pxL106, pxL107, pxL108, pxL109, pxL110, pxL111, pxL112, pxL113, pxL114, pxL115, pxL116, pxL117, pxL118, pxL119, pxL120, pxL121, pxL122, pxL123, pxL124, pxL125, pxL126, pxL200, pxL240, pxL287, pxL388, pxL400, pxL429, pxL431, pxL440, pxL1240, pxL1600, pxL1681, pxL12028, pxL13849, pxL14880, pxL25173, pxL26908, pxL49600, pxL65535, pxL65536, ↓reduceIte, reduceCtorEq, pxJ_add, pxJ_sub, pxJ_mul, pxJ_neg, pxD_lt_t, pxD_lt_f, pxD_le_t, pxD_le_f, pxD_eq_t, pxD_eq_f, pxJ_lt, pxJ_le, pxJ_eq, px_gI, px_gR, px_pI, px_rc, px_ai, px_ar, px_si, px_ln, px_cp, pxJ_div, pxJ_b8, pxJ_byte, px_b2, px_bs, px_rb0, px_rb1, px_min, px_max, px_compare, pxW_some, jw_t_I, px_cpt, jw_r_I, px_cpr, jw_l_I, px_cpl, Option.some.injEq, r0, m0, t6, p1, ak, ek, m5, r2, al, px_cmp0, ba, Bool.true_eq_false]
          exact this
        · have bs : pxBs v (pxE r x) = false := by
            by_cases z : pxBs v (pxE r x) = true
            · exact absurd (pxHb_i.mpr ((ev _ chx).mp z)) hb
            · simpa using z
          rw [bs] at ba
          rw [if_neg (fun z => hb z.2)] at fit
          refine none' fit ?_
          simp (maxSteps := 4000000) (disch := first | assumption | omega | (simp only [jw_t_I, px_cpt]; done) | (simp only [jw_t_I, px_cpt]; omega)) only [pxL0, pxL1, pxL2, pxL3, pxL4, pxL5, pxL6, pxL7, pxL8, pxL9, pxL10, pxL11, pxL12, pxL13, pxL14, pxL15, pxL16, pxL17, pxL18, pxL19, pxL20, pxL21, pxL22, pxL23, pxL24, pxL25, pxL26, pxL27, pxL28, pxL29, pxL30, pxL31, pxL32, pxL33, pxL34, pxL35, pxL36, pxL37, pxL38, pxL39, pxL40, pxL41, pxL42, pxL43, pxL44, pxL45, pxL46, pxL47, pxL48, pxL49, pxL51, pxL57, pxL58, pxL59, pxL60, pxL61, pxL62, pxL63, pxL64, pxL65, pxL66, pxL67, pxL68, pxL69, pxL70, pxL71, pxL72, pxL73, pxL74, pxL75, pxL76, pxL77, pxL78, pxL79, pxL80, pxL81, pxL82, pxL83, pxL84, pxL85, pxL86, pxL87, pxL88, pxL89, pxL90, pxL91, pxL92, pxL93, pxL94, pxL95, pxL96, pxL97, pxL98, pxL99, pxL100, pxL101, pxL102, pxL103, pxL104, pxL105, pxL106, pxL107, pxL108, pxL109, pxL110, pxL111, pxL112, pxL113, pxL114, pxL115, pxL116, pxL117, pxL118, pxL119, pxL120, pxL121, pxL122, pxL123, pxL124, pxL125, pxL126, pxL200, pxL240, pxL287, pxL388, pxL400, pxL429, pxL431, pxL440, pxL1240, pxL1600, pxL1681, pxL12028, pxL13849, pxL14880, pxL25173, pxL26908, pxL49600, pxL65535, pxL65536, ↓reduceIte, reduceCtorEq, pxJ_add, pxJ_sub, pxJ_mul, pxJ_neg, pxD_lt_t, pxD_lt_f, pxD_le_t, pxD_le_f, pxD_eq_t, pxD_eq_f, pxJ_lt, pxJ_le, pxJ_eq, px_gI, px_gR, px_pI, px_rc, px_ai, px_ar, px_si, px_ln, px_cp, pxJ_div, pxJ_b8, pxJ_byte, px_b2, px_bs, px_rb0, px_rb1, px_min, px_max, px_compare, pxW_some, jw_t_I, px_cpt, jw_r_I, px_cpr, jw_l_I, px_cpl, Option.some.injEq, r0, m0, t6, p1, ak, ek, m5, r2, al, px_cmp0, ba]
      · rw [if_neg (fun z => cx z.1)] at fit
        refine none' fit ?_
        simp (maxSteps := 4000000) (disch := first | assumption | omega | (simp only [jw_t_I, px_cpt]; done) | (simp only [jw_t_I, px_cpt]; omega)) only [pxL0, pxL1, pxL2, pxL3, pxL4, pxL5, pxL6, pxL7, pxL8, pxL9, pxL10, pxL11, pxL12, pxL13, pxL14, pxL15, pxL16, pxL17, pxL18, pxL19, pxL20, pxL21, pxL22, pxL23, pxL24, pxL25, pxL26, pxL27, pxL28, pxL29, pxL30, pxL31, pxL32, pxL33, pxL34, pxL35, pxL36, pxL37, pxL38, pxL39, pxL40, pxL41, pxL42, pxL43, pxL44, pxL45, pxL46, pxL47, pxL48, pxL49, pxL51, pxL57, pxL58, pxL59, pxL60, pxL61, pxL62, pxL63, pxL64, pxL65, pxL66, pxL67, pxL68, pxL69, pxL70, pxL71, pxL72, pxL73, pxL74, pxL75, pxL76, pxL77, pxL78, pxL79, pxL80, pxL81, pxL82, pxL83, pxL84, pxL85, pxL86, pxL87, pxL88, pxL89, pxL90, pxL91, pxL92, pxL93, pxL94, pxL95, pxL96, pxL97, pxL98, pxL99, pxL100, pxL101, pxL102, pxL103, pxL104, pxL105, pxL106, pxL107, pxL108, pxL109, pxL110, pxL111, pxL112, pxL113, pxL114, pxL115, pxL116, pxL117, pxL118, pxL119, pxL120, pxL121, pxL122, pxL123, pxL124, pxL125, pxL126, pxL200, pxL240, pxL287, pxL388, pxL400, pxL429, pxL431, pxL440, pxL1240, pxL1600, pxL1681, pxL12028, pxL13849, pxL14880, pxL25173, pxL26908, pxL49600, pxL65535, pxL65536, ↓reduceIte, reduceCtorEq, pxJ_add, pxJ_sub, pxJ_mul, pxJ_neg, pxD_lt_t, pxD_lt_f, pxD_le_t, pxD_le_f, pxD_eq_t, pxD_eq_f, pxJ_lt, pxJ_le, pxJ_eq, px_gI, px_gR, px_pI, px_rc, px_ai, px_ar, px_si, px_ln, px_cp, pxJ_div, pxJ_b8, pxJ_byte, px_b2, px_bs, px_rb0, px_rb1, px_min, px_max, px_compare, pxW_some, jw_t_I, px_cpt, jw_r_I, px_cpr, jw_l_I, px_cpl, Option.some.injEq, r0, m0, t6, p1, ak, ek, m5]
    · -- a star
      have n10 : ¬ el.1 = 10 := by omega
      have wl' := wl n10
      rw [if_neg (show ¬ el.1 = 5 by omega), if_neg (show ¬ el.1 = 6 by omega), if_pos e1] at wl'
      have tw := w3 e1
      rw [if_pos e1] at fit
      obtain ⟨n', rfl⟩ : ∃ k, n = k + 1 := ⟨n - 1, by omega⟩
      have loop : ∀ (m K : Nat) (h1 : jw_H) (y : Int), (m : Int) = y - x + 1 → m < K → y ≤ r.length → pxF (pxQm g q) h h1 →
          (pxDesc (fun y => pxFit s r l o c y) m y = none → ∃ h', f_X4_fits_b210 (f_X4_fits (n' + 1)) K h1 531 (pxJ t) (pxJ x) (pxJ e) (pxJ y) = some (pxJ (-1), h') ∧ pxF (pxQm g q) h h') ∧
          (∀ y' o' c', pxDesc (fun y => pxFit s r l o c y) m y = some (y', o', c') → ∃ h', f_X4_fits_b210 (f_X4_fits (n' + 1)) K h1 531 (pxJ t) (pxJ x) (pxJ e) (pxJ y) = some (pxJ y', h') ∧ pxF (pxQm g q) h h' ∧ x ≤ y' ∧ y' ≤ r.length ∧ ∀ k : Int, 1 ≤ k → k ≤ pxGc q l → pxM h' 534 k.toNat = o' k ∧ pxM h' 535 k.toNat = c' k ∧ 0 ≤ o' k ∧ o' k ≤ c' k ∧ c' k ≤ y') := by
        intro m
        induction m with
        | zero =>
          intro K h1 y em hK yl F
          obtain ⟨K, rfl, hK⟩ := px_fu hK
          rw [u_X4_fits_b210]
          unfold g_X4_fits_b210
          refine ⟨fun _ => ⟨h1, ?_, F⟩, fun y' o' c' z => by cases z⟩
          simp (maxSteps := 4000000) (disch := first | assumption | omega | (simp only [jw_t_I, px_cpt]; done) | (simp only [jw_t_I, px_cpt]; omega)) only [pxL0, pxL1, pxL2, pxL3, pxL4, pxL5, pxL6, pxL7, pxL8, pxL9, pxL10, pxL11, pxL12, pxL13, pxL14, pxL15, pxL16, pxL17, pxL18, pxL19, pxL20, pxL21, pxL22, pxL23, pxL24, pxL25, pxL26, pxL27, pxL28, pxL29, pxL30, pxL31, pxL32, pxL33, pxL34, pxL35, pxL36, pxL37, pxL38, pxL39, pxL40, pxL41, pxL42, pxL43, pxL44, pxL45, pxL46, pxL47, pxL48, pxL49, pxL51, pxL57, pxL58, pxL59, pxL60, pxL61, pxL62, pxL63, pxL64, pxL65, pxL66, pxL67, pxL68, pxL69, pxL70, pxL71, pxL72, pxL73, pxL74, pxL75, pxL76, pxL77, pxL78, pxL79, pxL80, pxL81, pxL82, pxL83, pxL84, pxL85, pxL86, pxL87, pxL88, pxL89, pxL90, pxL91, pxL92, pxL93, pxL94, pxL95, pxL96, pxL97, pxL98, pxL99, pxL100, pxL101, pxL102, pxL103, pxL104, pxL105, pxL106, pxL107, pxL108, pxL109, pxL110, pxL111, pxL112, pxL113, pxL114, pxL115, pxL116, pxL117, pxL118, pxL119, pxL120, pxL121, pxL122, pxL123, pxL124, pxL125, pxL126, pxL200, pxL240, pxL287, pxL388, pxL400, pxL429, pxL431, pxL440, pxL1240, pxL1600, pxL1681, pxL12028, pxL13849, pxL14880, pxL25173, pxL26908, pxL49600, pxL65535, pxL65536, ↓reduceIte, reduceCtorEq, pxJ_add, pxJ_sub, pxJ_mul, pxJ_neg, pxD_lt_t, pxD_lt_f, pxD_le_t, pxD_le_f, pxD_eq_t, pxD_eq_f, pxJ_lt, pxJ_le, pxJ_eq, px_gI, px_gR, px_pI, px_rc, px_ai, px_ar, px_si, px_ln, px_cp, pxJ_div, pxJ_b8, pxJ_byte, px_b2, px_bs, px_rb0, px_rb1, px_min, px_max, px_compare, pxW_some, jw_t_I, px_cpt, jw_r_I, px_cpr, jw_l_I, px_cpl, Option.some.injEq]
        | succ m ihm =>
          intro K h1 y em hK yl F
          obtain ⟨K, rfl, hK⟩ := px_fu hK
          have H1 := Ht.fr F (fun k f z => by unfold pxQm; omega)
          have T1 := T.fr F (fun k f z => by unfold pxQm; omega)
          have m01 := T1.1.1
          have ee := s_X4_fits_e (n := n') (x := y) (t := t + 1) H1 T1 (by omega) yl (by omega) tw
          obtain ⟨y1, y2⟩ := ih jw_FU n' h1 (e + 1) g q (t + 1) y most o c (by unfold jw_FU; omega) (by omega) H1 T1 wl' (by omega) tw q0 q1 g1 (by omega) yl (I.fr F (by omega))
          rw [← ee] at y1 y2
          rw [u_X4_fits_b210]
          unfold g_X4_fits_b210
          have d : pxDesc (fun y => pxFit s r l o c y) (m + 1) y = (pxFit s r l o c y).elim (pxDesc (fun y => pxFit s r l o c y) m (y - 1)) some := rfl
          rw [d]
          cases hf : pxFit s r l o c y with
          | none =>
            obtain ⟨h2, v1, v2⟩ := y1 hf
            have F2 := F.trans v2
            have := ihm K h2 (y - 1) (by omega) (by omega) (by omega) F2
            show (pxDesc (fun y => pxFit s r l o c y) m (y - 1) = none → _) ∧ (∀ y' o' c', pxDesc (fun y => pxFit s r l o c y) m (y - 1) = some (y', o', c') → _)
            simp (maxSteps := 4000000) (disch := first | assumption | omega | (simp only [jw_t_I, px_cpt]; done) | (simp only [jw_t_I, px_cpt]; omega)) only [pxL0, pxL1, pxL2, pxL3, pxL4, pxL5, pxL6, pxL7, pxL8, pxL9, pxL10, pxL11, pxL12, pxL13, pxL14, pxL15, pxL16, pxL17, pxL18, pxL19, pxL20, pxL21, pxL22, pxL23, pxL24, pxL25, pxL26, pxL27, pxL28, pxL29, pxL30, pxL31, pxL32, pxL33, pxL34, pxL35, pxL36, pxL37, pxL38, pxL39, pxL40, pxL41, pxL42, pxL43, pxL44, pxL45, pxL46, pxL47, pxL48, pxL49, pxL51, pxL57, pxL58, pxL59, pxL60, pxL61, pxL62, pxL63, pxL64, pxL65, pxL66, pxL67, pxL68, pxL69, pxL70, pxL71, pxL72, pxL73, pxL74, pxL75, pxL76, pxL77, pxL78, pxL79, pxL80, pxL81, pxL82, pxL83, pxL84, pxL85, pxL86, pxL87, pxL88, pxL89, pxL90, pxL91, pxL92, pxL93, pxL94, pxL95, pxL96, pxL97, pxL98, pxL99, pxL100, pxL101, pxL102, pxL103, pxL104, pxL105, pxL106, pxL107, pxL108, pxL109, pxL110, pxL111, pxL112, pxL113, pxL114, pxL115, pxL116, pxL117, pxL118, pxL119, pxL120, pxL121, pxL122, pxL123, pxL124, pxL125, pxL126, pxL200, pxL240, pxL287, pxL388, pxL400, pxL429, pxL431, pxL440, pxL1240, pxL1600, pxL1681, pxL12028, pxL13849, pxL14880, pxL25173, pxL26908, pxL49600, pxL65535, pxL65536, ↓reduceIte, reduceCtorEq, pxJ_add, pxJ_sub, pxJ_mul, pxJ_neg, pxD_lt_t, pxD_lt_f, pxD_le_t, pxD_le_f, pxD_eq_t, pxD_eq_f, pxJ_lt, pxJ_le, pxJ_eq, px_gI, px_gR, px_pI, px_rc, px_ai, px_ar, px_si, px_ln, px_cp, pxJ_div, pxJ_b8, pxJ_byte, px_b2, px_bs, px_rb0, px_rb1, px_min, px_max, px_compare, pxW_some, jw_t_I, px_cpt, jw_r_I, px_cpr, jw_l_I, px_cpl, Option.some.injEq, v1]
            rw [show y + -1 = y - 1 by omega]
            exact this
          | some p =>
            obtain ⟨y3, o3, c3⟩ := p
            obtain ⟨h2, v1, v2, v3, v4, v5⟩ := y2 y3 o3 c3 hf
            refine ⟨fun z => (by cases z), fun y' o' c' z => ?_⟩
            have z' : (y3, o3, c3) = (y', o', c') := Option.some.inj z
            obtain ⟨rfl, rfl, rfl⟩ : y3 = y' ∧ o3 = o' ∧ c3 = c' := by
              simp only [Prod.mk.injEq] at z'; exact z'
            refine ⟨h2, ?_, F.trans v2, by omega, v4, v5⟩
            simp (maxSteps := 4000000) (disch := first | assumption | omega | (simp only [jw_t_I, px_cpt]; done) | (simp only [jw_t_I, px_cpt]; omega)) only [pxL0, pxL1, pxL2, pxL3, pxL4, pxL5, pxL6, pxL7, pxL8, pxL9, pxL10, pxL11, pxL12, pxL13, pxL14, pxL15, pxL16, pxL17, pxL18, pxL19, pxL20, pxL21, pxL22, pxL23, pxL24, pxL25, pxL26, pxL27, pxL28, pxL29, pxL30, pxL31, pxL32, pxL33, pxL34, pxL35, pxL36, pxL37, pxL38, pxL39, pxL40, pxL41, pxL42, pxL43, pxL44, pxL45, pxL46, pxL47, pxL48, pxL49, pxL51, pxL57, pxL58, pxL59, pxL60, pxL61, pxL62, pxL63, pxL64, pxL65, pxL66, pxL67, pxL68, pxL69, pxL70, pxL71, pxL72, pxL73, pxL74, pxL75, pxL76, pxL77, pxL78, pxL79, pxL80, pxL81, pxL82, pxL83, pxL84, pxL85, pxL86, pxL87, pxL88, pxL89, pxL90, pxL91, pxL92, pxL93, pxL94, pxL95, pxL96, pxL97, pxL98, pxL99, pxL100, pxL101, pxL102, pxL103, pxL104, pxL105, pxL106, pxL107, pxL108, pxL109, pxL110, pxL111, pxL112, pxL113, pxL114, pxL115, pxL116, pxL117, pxL118, pxL119, pxL120, pxL121, pxL122, pxL123, pxL124, pxL125, pxL126, pxL200, pxL240, pxL287, pxL388, pxL400, pxL429, pxL431, pxL440, pxL1240, pxL1600, pxL1681, pxL12028, pxL13849, pxL14880, pxL25173, pxL26908, pxL49600, pxL65535, pxL65536, ↓reduceIte, reduceCtorEq, pxJ_add, pxJ_sub, pxJ_mul, pxJ_neg, pxD_lt_t, pxD_lt_f, pxD_le_t, pxD_le_f, pxD_eq_t, pxD_eq_f, pxJ_lt, pxJ_le, pxJ_eq, px_gI, px_gR, px_pI, px_rc, px_ai, px_ar, px_si, px_ln, px_cp, pxJ_div, pxJ_b8, pxJ_byte, px_b2, px_bs, px_rb0, px_rb1, px_min, px_max, px_compare, pxW_some, jw_t_I, px_cpt, jw_r_I, px_cpr, jw_l_I, px_cpl, Option.some.injEq, v1]
      obtain ⟨z1, z2⟩ := loop (r.length - x + 1).toNat jw_FU h r.length (by omega) (by unfold jw_FU; omega) (by omega) pxF.rfl
      simp (maxSteps := 4000000) (disch := first | assumption | omega | (simp only [jw_t_I, px_cpt]; done) | (simp only [jw_t_I, px_cpt]; omega)) only [pxL0, pxL1, pxL2, pxL3, pxL4, pxL5, pxL6, pxL7, pxL8, pxL9, pxL10, pxL11, pxL12, pxL13, pxL14, pxL15, pxL16, pxL17, pxL18, pxL19, pxL20, pxL21, pxL22, pxL23, pxL24, pxL25, pxL26, pxL27, pxL28, pxL29, pxL30, pxL31, pxL32, pxL33, pxL34, pxL35, pxL36, pxL37, pxL38, pxL39, pxL40, pxL41, pxL42, pxL43, pxL44, pxL45, pxL46, pxL47, pxL48, pxL49, pxL51, pxL57, pxL58, pxL59, pxL60, pxL61, pxL62, pxL63, pxL64, pxL65, pxL66, pxL67, pxL68, pxL69, pxL70, pxL71, pxL72, pxL73, pxL74, pxL75, pxL76, pxL77, pxL78, pxL79, pxL80, pxL81, pxL82, pxL83, pxL84, pxL85, pxL86, pxL87, pxL88, pxL89, pxL90, pxL91, pxL92, pxL93, pxL94, pxL95, pxL96, pxL97, pxL98, pxL99, pxL100, pxL101, pxL102, pxL103, pxL104, pxL105, pxL106, pxL107, pxL108, pxL109, pxL110, pxL111, pxL112, pxL113, pxL114, pxL115, pxL116, pxL117, pxL118, pxL119, pxL120, pxL121, pxL122, pxL123, pxL124, pxL125, pxL126, pxL200, pxL240, pxL287, pxL388, pxL400, pxL429, pxL431, pxL440, pxL1240, pxL1600, pxL1681, pxL12028, pxL13849, pxL14880, pxL25173, pxL26908, pxL49600, pxL65535, pxL65536, ↓reduceIte, reduceCtorEq, pxJ_add, pxJ_sub, pxJ_mul, pxJ_neg, pxD_lt_t, pxD_lt_f, pxD_le_t, pxD_le_f, pxD_eq_t, pxD_eq_f, pxJ_lt, pxJ_le, pxJ_eq, px_gI, px_gR, px_pI, px_rc, px_ai, px_ar, px_si, px_ln, px_cp, pxJ_div, pxJ_b8, pxJ_byte, px_b2, px_bs, px_rb0, px_rb1, px_min, px_max, px_compare, pxW_some, jw_t_I, px_cpt, jw_r_I, px_cpr, jw_l_I, px_cpl, Option.some.injEq, r0, m0, t6, p1, ak, ek, m5]
      unfold pxFO
      rw [fit]
      refine ⟨z1, fun y' o' c' z => ?_⟩
      obtain ⟨h2, v1, v2, v3, v4, v5⟩ := z2 y' o' c' z
      refine ⟨h2, v1, v2, v3, v4, fun k k1 k2 => v5 k k1 ?_⟩
      have : pxGc q (el :: l) = pxGc q l := by
        show (if el.1 = 10 then q else pxGc (if el.1 = 6 then q + 1 else q) l) = _
        rw [if_neg n10, if_neg (show ¬ el.1 = 6 by omega)]
      omega
    · -- a group begins
      have n10 : ¬ el.1 = 10 := by omega
      have n3 : ¬ el.1 = 3 := by omega
      obtain ⟨wa, wb, wc⟩ := w5 e1
      rw [if_neg n3, if_pos e1] at fit
      have tk := et (Or.inl e1)
      subst tk
      have F : pxF (pxQm g q) h (jw_setI h 534 el.2.toNat (pxJ x)) := pxF.setI (by unfold pxQm; omega)
      have I' : pxGI (jw_setI h 534 el.2.toNat (pxJ x)) (g + 1) q x (pxU o el.2 x) c := by
        refine ⟨fun k k1 k2 => ?_, fun k k1 k2 => ?_⟩
        · by_cases ke : k = el.2
          · subst ke
            rw [pxM_eq (by omega) (by omega), pxU_e]
            exact ⟨rfl, x0, Int.le_refl _⟩
          · rw [pxM_ne (by omega), pxU_n ke]
            exact I.1 k k1 (by omega)
        · rw [pxM_ne (by omega), pxU_n (by omega)]
          exact I.2 k k1 k2
      have := next (h1 := jw_setI h 534 el.2.toNat (pxJ x)) (x1' := x) (g' := g + 1) (q' := q) n10 n3 F (if_pos e1) (if_neg (by omega)) (by omega) (by omega) (by omega) wc (by omega) x1 I' fit
      have si : jw_si h 20 (some 534) (pxJ el.2) (pxJ x) = some (jw_setI h 534 el.2.toNat (pxJ x)) := px_si (by rw [t534]) (by omega) (by rw [t534]; show el.2 < ((3 : Nat) : Int); omega) (by omega)
      unfold g_X4_fits_b369
      simp (maxSteps := 4000000) (disch := first | assumption | omega | (simp only [jw_t_I, px_cpt]; done) | (simp only [jw_t_I, px_cpt]; omega)) only [pxL0, pxL1, pxL2, pxL3, pxL4, pxL5, pxL6, pxL7, pxL8, pxL9, pxL10, pxL11, pxL12, pxL13, pxL14, pxL15, pxL16, pxL17, pxL18, pxL19, pxL20, pxL21, pxL22, pxL23, pxL24, pxL25, pxL26, pxL27, pxL28, pxL29, pxL30, pxL31, pxL32, pxL33, pxL34, pxL35, pxL36, pxL37, pxL38, pxL39, pxL40, pxL41, pxL42, pxL43, pxL44, pxL45, pxL46, pxL47, pxL48, pxL49, pxL51, pxL57, pxL58, pxL59, pxL60, pxL61, pxL62, pxL63, pxL64, pxL65, pxL66, pxL67, pxL68, pxL69, pxL70, pxL71, pxL72, pxL73, pxL74, pxL75, pxL76, pxL77, pxL78, pxL79, pxL80, pxL81, pxL82, pxL83, pxL84, pxL85, pxL86, pxL87, pxL88, pxL89, pxL90, pxL91, pxL92, pxL93, pxL94, pxL95, pxL96, pxL97, pxL98, pxL99, pxL100, pxL101, pxL102, pxL103, pxL104, pxL105, pxL106, pxL107, pxL108, pxL109, pxL110, pxL111, pxL112, pxL113, pxL114, pxL115, pxL116, pxL117, pxL118, pxL119, pxL120, pxL121, pxL122, pxL123, pxL124, pxL125, pxL126, pxL200, pxL240, pxL287, pxL388, pxL400, pxL429, pxL431, pxL440, pxL1240, pxL1600, pxL1681, pxL12028, pxL13849, pxL14880, pxL25173, pxL26908, pxL49600, pxL65535, pxL65536, ↓reduceIte, reduceCtorEq, pxJ_add, pxJ_sub, pxJ_mul, pxJ_neg, pxD_lt_t, pxD_lt_f, pxD_le_t, pxD_le_f, pxD_eq_t, pxD_eq_f, pxJ_lt, pxJ_le, pxJ_eq, px_gI, px_gR, px_pI, px_rc, px_ai, px_ar, px_si, px_ln, px_cp, pxJ_div, pxJ_b8, pxJ_byte, px_b2, px_bs, px_rb0, px_rb1, px_min, px_max, px_compare, pxW_some, jw_t_I, px_cpt, jw_r_I, px_cpr, jw_l_I, px_cpl, Option.some.injEq, r0, m0, t6, p1, ak, ek, r3, si]
      exact this
    · -- a group ends
      have n10 : ¬ el.1 = 10 := by omega
      have n3 : ¬ el.1 = 3 := by omega
      obtain ⟨wa, wb⟩ := w6 e1
      rw [if_neg n3, if_neg (show ¬ el.1 = 5 by omega), if_pos e1] at fit
      have tk := et (Or.inr (Or.inl e1))
      subst tk
      have F : pxF (pxQm g q) h (jw_setI h 535 el.2.toNat (pxJ x)) := pxF.setI (by unfold pxQm; omega)
      have I' : pxGI (jw_setI h 535 el.2.toNat (pxJ x)) g (q + 1) x o (pxU c el.2 x) := by
        refine ⟨fun k k1 k2 => ?_, fun k k1 k2 => ?_⟩
        · rw [pxM_ne (by omega)]
          exact I.1 k k1 k2
        · by_cases ke : k = el.2
          · subst ke
            rw [pxM_eq (by omega) (by omega), pxU_e]
            exact ⟨rfl, (I.1 el.2 k1 (by omega)).2.2, Int.le_refl _⟩
          · rw [pxM_ne (by omega), pxU_n ke]
            exact I.2 k k1 (by omega)
      have := next (h1 := jw_setI h 535 el.2.toNat (pxJ x)) (x1' := x) (g' := g) (q' := q + 1) n10 n3 F (if_neg (by omega)) (if_pos e1) (by omega) (by omega) (by omega) g1 (by omega) x1 I' fit
      have si : jw_si h 20 (some 535) (pxJ el.2) (pxJ x) = some (jw_setI h 535 el.2.toNat (pxJ x)) := px_si (by rw [t535]) (by omega) (by rw [t535]; show el.2 < ((3 : Nat) : Int); omega) (by omega)
      unfold g_X4_fits_b369
      simp (maxSteps := 4000000) (disch := first | assumption | omega | (simp only [jw_t_I, px_cpt]; done) | (simp only [jw_t_I, px_cpt]; omega)) only [pxL0, pxL1, pxL2, pxL3, pxL4, pxL5, pxL6, pxL7, pxL8, pxL9, pxL10, pxL11, pxL12, pxL13, pxL14, pxL15, pxL16, pxL17, pxL18, pxL19, pxL20, pxL21, pxL22, pxL23, pxL24, pxL25, pxL26, pxL27, pxL28, pxL29, pxL30, pxL31, pxL32, pxL33, pxL34, pxL35, pxL36, pxL37, pxL38, pxL39, pxL40, pxL41, pxL42, pxL43, pxL44, pxL45, pxL46, pxL47, pxL48, pxL49, pxL51, pxL57, pxL58, pxL59, pxL60, pxL61, pxL62, pxL63, pxL64, pxL65, pxL66, pxL67, pxL68, pxL69, pxL70, pxL71, pxL72, pxL73, pxL74, pxL75, pxL76, pxL77, pxL78, pxL79, pxL80, pxL81, pxL82, pxL83, pxL84, pxL85, pxL86, pxL87, pxL88, pxL89, pxL90, pxL91, pxL92, pxL93, pxL94, pxL95, pxL96, pxL97, pxL98, pxL99, pxL100, pxL101, pxL102, pxL103, pxL104, pxL105, pxL106, pxL107, pxL108, pxL109, pxL110, pxL111, pxL112, pxL113, pxL114, pxL115, pxL116, pxL117, pxL118, pxL119, pxL120, pxL121, pxL122, pxL123, pxL124, pxL125, pxL126, pxL200, pxL240, pxL287, pxL388, pxL400, pxL429, pxL431, pxL440, pxL1240, pxL1600, pxL1681, pxL12028, pxL13849, pxL14880, pxL25173, pxL26908, pxL49600, pxL65535, pxL65536, ↓reduceIte, reduceCtorEq, pxJ_add, pxJ_sub, pxJ_mul, pxJ_neg, pxD_lt_t, pxD_lt_f, pxD_le_t, pxD_le_f, pxD_eq_t, pxD_eq_f, pxJ_lt, pxJ_le, pxJ_eq, px_gI, px_gR, px_pI, px_rc, px_ai, px_ar, px_si, px_ln, px_cp, pxJ_div, pxJ_b8, pxJ_byte, px_b2, px_bs, px_rb0, px_rb1, px_min, px_max, px_compare, pxW_some, jw_t_I, px_cpt, jw_r_I, px_cpr, jw_l_I, px_cpl, Option.some.injEq, r0, m0, t6, p1, ak, ek, r4, si]
      exact this
    · -- a group again
      have n10 : ¬ el.1 = 10 := by omega
      have n3 : ¬ el.1 = 3 := by omega
      obtain ⟨wa, wb⟩ := w7 e1
      rw [if_neg n3, if_neg (show ¬ el.1 = 5 by omega), if_neg (show ¬ el.1 = 6 by omega), if_pos e1] at fit
      have tk := et (Or.inr (Or.inr e1))
      subst tk
      obtain ⟨ia, ib, ic⟩ := I.1 el.2 wa (by omega)
      obtain ⟨id', ie, ig⟩ := I.2 el.2 wa wb
      have ai : jw_ai h 20 (some 534) (pxJ el.2) = some (pxJ (o el.2)) := by rw [px_ai (by rw [t534]) (by omega) (by rw [t534]; show el.2 < ((3 : Nat) : Int); omega) (by omega), ia]
      have lp := s_X4_fits_b282 (ks := f_X4_fits n) (k77 := f_X4_fits_b77 (f_X4_fits n) N) (x3 := pxJ t) (x5 := pxJ most) (x6 := pxJ e) T (k := el.2) (b := c el.2) wa b2 id' (by omega) (c el.2 - o el.2).toNat jw_FU (o el.2) x (by omega) (by unfold jw_FU; omega) ib x0 x1
      by_cases hb : pxBk r (c el.2 - o el.2).toNat (o el.2) x = true
      · rw [if_pos hb] at fit lp
        have le := pxBk_le _ _ _ hb x1
        rw [show x + (((c el.2 - o el.2).toNat : Nat) : Int) = x + (c el.2 - o el.2) by omega] at lp le
        have := next (h1 := h) (x1' := x + (c el.2 - o el.2)) (o' := o) (c' := c) (g' := g) (q' := q) n10 n3 pxF.rfl (if_neg (by omega)) (if_neg (by omega)) (by omega) (by omega) q1 g1 (by omega) le (I.fr pxF.rfl (by omega)) fit
        unfold g_X4_fits_b369 at lp
        rw [show (1 : Int32) = pxJ 1 from rfl, pxJ_add] at lp
        simp (maxSteps := 4000000) (disch := first | assumption | omega | (simp only [jw_t_I, px_cpt]; done) | (simp only [jw_t_I, px_cpt]; omega)) only [pxL0, pxL1, pxL2, pxL3, pxL4, pxL5, pxL6, pxL7, pxL8, pxL9, pxL10, pxL11, pxL12, pxL13, pxL14, pxL15, pxL16, pxL17, pxL18, pxL19, pxL20, pxL21, pxL22, pxL23, pxL24, pxL25, pxL26, pxL27, pxL28, pxL29, pxL30, pxL31, pxL32, pxL33, pxL34, pxL35, pxL36, pxL37, pxL38, pxL39, pxL40, pxL41, pxL42, pxL43, pxL44, pxL45, pxL46, pxL47, pxL48, pxL49, pxL51, pxL57, pxL58, pxL59, pxL60, pxL61, pxL62, pxL63, pxL64, pxL65, pxL66, pxL67, pxL68, pxL69, pxL70, pxL71, pxL72, pxL73, pxL74, pxL75, pxL76, pxL77, pxL78, pxL79, pxL80, pxL81, pxL82, pxL83, pxL84, pxL85, pxL86, pxL87, pxL88, pxL89, pxL90, pxL91, pxL92, pxL93, pxL94, pxL95, pxL96, pxL97, pxL98, pxL99, pxL100, pxL101, pxL102, pxL103, pxL104, pxL105, pxL106, pxL107, pxL108, pxL109, pxL110, pxL111, pxL112, pxL113, pxL114, pxL115, pxL116, pxL117, pxL118, pxL119, pxL120, pxL121, pxL122, pxL123, pxL124, pxL125, pxL126, pxL200, pxL240, pxL287, pxL388, pxL400, pxL429, pxL431, pxL440, pxL1240, pxL1600, pxL1681, pxL12028, pxL13849, pxL14880, pxL25173, pxL26908, pxL49600, pxL65535, pxL65536, ↓reduceIte, reduceCtorEq, pxJ_add, pxJ_sub, pxJ_mul, pxJ_neg, pxD_lt_t, pxD_lt_f, pxD_le_t, pxD_le_f, pxD_eq_t, pxD_eq_f, pxJ_lt, pxJ_le, pxJ_eq, px_gI, px_gR, px_pI, px_rc, px_ai, px_ar, px_si, px_ln, px_cp, pxJ_div, pxJ_b8, pxJ_byte, px_b2, px_bs, px_rb0, px_rb1, px_min, px_max, px_compare, pxW_some, jw_t_I, px_cpt, jw_r_I, px_cpr, jw_l_I, px_cpl, Option.some.injEq, r0, m0, t6, p1, ak, ek, r3, ai]
        rw [lp]
        exact this
      · rw [if_neg hb] at fit lp
        refine none' fit ?_
        simp (maxSteps := 4000000) (disch := first | assumption | omega | (simp only [jw_t_I, px_cpt]; done) | (simp only [jw_t_I, px_cpt]; omega)) only [pxL0, pxL1, pxL2, pxL3, pxL4, pxL5, pxL6, pxL7, pxL8, pxL9, pxL10, pxL11, pxL12, pxL13, pxL14, pxL15, pxL16, pxL17, pxL18, pxL19, pxL20, pxL21, pxL22, pxL23, pxL24, pxL25, pxL26, pxL27, pxL28, pxL29, pxL30, pxL31, pxL32, pxL33, pxL34, pxL35, pxL36, pxL37, pxL38, pxL39, pxL40, pxL41, pxL42, pxL43, pxL44, pxL45, pxL46, pxL47, pxL48, pxL49, pxL51, pxL57, pxL58, pxL59, pxL60, pxL61, pxL62, pxL63, pxL64, pxL65, pxL66, pxL67, pxL68, pxL69, pxL70, pxL71, pxL72, pxL73, pxL74, pxL75, pxL76, pxL77, pxL78, pxL79, pxL80, pxL81, pxL82, pxL83, pxL84, pxL85, pxL86, pxL87, pxL88, pxL89, pxL90, pxL91, pxL92, pxL93, pxL94, pxL95, pxL96, pxL97, pxL98, pxL99, pxL100, pxL101, pxL102, pxL103, pxL104, pxL105, pxL106, pxL107, pxL108, pxL109, pxL110, pxL111, pxL112, pxL113, pxL114, pxL115, pxL116, pxL117, pxL118, pxL119, pxL120, pxL121, pxL122, pxL123, pxL124, pxL125, pxL126, pxL200, pxL240, pxL287, pxL388, pxL400, pxL429, pxL431, pxL440, pxL1240, pxL1600, pxL1681, pxL12028, pxL13849, pxL14880, pxL25173, pxL26908, pxL49600, pxL65535, pxL65536, ↓reduceIte, reduceCtorEq, pxJ_add, pxJ_sub, pxJ_mul, pxJ_neg, pxD_lt_t, pxD_lt_f, pxD_le_t, pxD_le_f, pxD_eq_t, pxD_eq_f, pxJ_lt, pxJ_le, pxJ_eq, px_gI, px_gR, px_pI, px_rc, px_ai, px_ar, px_si, px_ln, px_cp, pxJ_div, pxJ_b8, pxJ_byte, px_b2, px_bs, px_rb0, px_rb1, px_min, px_max, px_compare, pxW_some, jw_t_I, px_cpt, jw_r_I, px_cpr, jw_l_I, px_cpl, Option.some.injEq, r0, m0, t6, p1, ak, ek, r3, ai]
        exact lp
    · -- the row's begin
      have n10 : ¬ el.1 = 10 := by omega
      have n3 : ¬ el.1 = 3 := by omega
      rw [if_neg n3, if_neg (show ¬ el.1 = 5 by omega), if_neg (show ¬ el.1 = 6 by omega), if_neg (show ¬ el.1 = 7 by omega), if_pos e1] at fit
      by_cases c0 : x = 0
      · rw [if_pos c0] at fit
        have := next (h1 := h) (x1' := x) (o' := o) (c' := c) (g' := g) (q' := q) n10 n3 pxF.rfl (if_neg (by omega)) (if_neg (by omega)) (by omega) (by omega) q1 g1 (by omega) x1 I fit
        unfold g_X4_fits_b369
        simp (maxSteps := 4000000) (disch := first | assumption | omega | (simp only [jw_t_I, px_cpt]; done) | (simp only [jw_t_I, px_cpt]; omega)) only [pxL0, pxL1, pxL2, pxL3, pxL4, pxL5, pxL6, pxL7, pxL8, pxL9, pxL10, pxL11, pxL12, pxL13, pxL14, pxL15, pxL16, pxL17, pxL18, pxL19, pxL20, pxL21, pxL22, pxL23, pxL24, pxL25, pxL26, pxL27, pxL28, pxL29, pxL30, pxL31, pxL32, pxL33, pxL34, pxL35, pxL36, pxL37, pxL38, pxL39, pxL40, pxL41, pxL42, pxL43, pxL44, pxL45, pxL46, pxL47, pxL48, pxL49, pxL51, pxL57, pxL58, pxL59, pxL60, pxL61, pxL62, pxL63, pxL64, pxL65, pxL66, pxL67, pxL68, pxL69, pxL70, pxL71, pxL72, pxL73, pxL74, pxL75, pxL76, pxL77, pxL78, pxL79, pxL80, pxL81, pxL82, pxL83, pxL84, pxL85, pxL86, pxL87, pxL88, pxL89, pxL90, pxL91, pxL92, pxL93, pxL94, pxL95, pxL96, pxL97, pxL98, pxL99, pxL100, pxL101, pxL102, pxL103, pxL104, pxL105, pxL106, pxL107, pxL108, pxL109, pxL110, pxL111, pxL112, pxL113, pxL114, pxL115, pxL116, pxL117, pxL118, pxL119, pxL120, pxL121, pxL122, pxL123, pxL124, pxL125, pxL126, pxL200, pxL240, pxL287, pxL388, pxL400, pxL429, pxL431, pxL440, pxL1240, pxL1600, pxL1681, pxL12028, pxL13849, pxL14880, pxL25173, pxL26908, pxL49600, pxL65535, pxL65536, ↓reduceIte, reduceCtorEq, pxJ_add, pxJ_sub, pxJ_mul, pxJ_neg, pxD_lt_t, pxD_lt_f, pxD_le_t, pxD_le_f, pxD_eq_t, pxD_eq_f, pxJ_lt, pxJ_le, pxJ_eq, px_gI, px_gR, px_pI, px_rc, px_ai, px_ar, px_si, px_ln, px_cp, pxJ_div, pxJ_b8, pxJ_byte, px_b2, px_bs, px_rb0, px_rb1, px_min, px_max, px_compare, pxW_some, jw_t_I, px_cpt, jw_r_I, px_cpr, jw_l_I, px_cpl, Option.some.injEq, r0, m0, t6, p1, ak, ek]
        exact this
      · rw [if_neg c0] at fit
        refine none' fit ?_
        simp (maxSteps := 4000000) (disch := first | assumption | omega | (simp only [jw_t_I, px_cpt]; done) | (simp only [jw_t_I, px_cpt]; omega)) only [pxL0, pxL1, pxL2, pxL3, pxL4, pxL5, pxL6, pxL7, pxL8, pxL9, pxL10, pxL11, pxL12, pxL13, pxL14, pxL15, pxL16, pxL17, pxL18, pxL19, pxL20, pxL21, pxL22, pxL23, pxL24, pxL25, pxL26, pxL27, pxL28, pxL29, pxL30, pxL31, pxL32, pxL33, pxL34, pxL35, pxL36, pxL37, pxL38, pxL39, pxL40, pxL41, pxL42, pxL43, pxL44, pxL45, pxL46, pxL47, pxL48, pxL49, pxL51, pxL57, pxL58, pxL59, pxL60, pxL61, pxL62, pxL63, pxL64, pxL65, pxL66, pxL67, pxL68, pxL69, pxL70, pxL71, pxL72, pxL73, pxL74, pxL75, pxL76, pxL77, pxL78, pxL79, pxL80, pxL81, pxL82, pxL83, pxL84, pxL85, pxL86, pxL87, pxL88, pxL89, pxL90, pxL91, pxL92, pxL93, pxL94, pxL95, pxL96, pxL97, pxL98, pxL99, pxL100, pxL101, pxL102, pxL103, pxL104, pxL105, pxL106, pxL107, pxL108, pxL109, pxL110, pxL111, pxL112, pxL113, pxL114, pxL115, pxL116, pxL117, pxL118, pxL119, pxL120, pxL121, pxL122, pxL123, pxL124, pxL125, pxL126, pxL200, pxL240, pxL287, pxL388, pxL400, pxL429, pxL431, pxL440, pxL1240, pxL1600, pxL1681, pxL12028, pxL13849, pxL14880, pxL25173, pxL26908, pxL49600, pxL65535, pxL65536, ↓reduceIte, reduceCtorEq, pxJ_add, pxJ_sub, pxJ_mul, pxJ_neg, pxD_lt_t, pxD_lt_f, pxD_le_t, pxD_le_f, pxD_eq_t, pxD_eq_f, pxJ_lt, pxJ_le, pxJ_eq, px_gI, px_gR, px_pI, px_rc, px_ai, px_ar, px_si, px_ln, px_cp, pxJ_div, pxJ_b8, pxJ_byte, px_b2, px_bs, px_rb0, px_rb1, px_min, px_max, px_compare, pxW_some, jw_t_I, px_cpt, jw_r_I, px_cpr, jw_l_I, px_cpl, Option.some.injEq, r0, m0, t6, p1, ak, ek]
    · -- the row's end
      have n10 : ¬ el.1 = 10 := by omega
      have n3 : ¬ el.1 = 3 := by omega
      rw [if_neg n3, if_neg (show ¬ el.1 = 5 by omega), if_neg (show ¬ el.1 = 6 by omega), if_neg (show ¬ el.1 = 7 by omega), if_neg (show ¬ el.1 = 8 by omega), if_pos e1] at fit
      by_cases c0 : x = r.length
      · rw [if_pos c0] at fit
        have := next (h1 := h) (x1' := x) (o' := o) (c' := c) (g' := g) (q' := q) n10 n3 pxF.rfl (if_neg (by omega)) (if_neg (by omega)) (by omega) (by omega) q1 g1 (by omega) x1 I fit
        unfold g_X4_fits_b369
        simp (maxSteps := 4000000) (disch := first | assumption | omega | (simp only [jw_t_I, px_cpt]; done) | (simp only [jw_t_I, px_cpt]; omega)) only [pxL0, pxL1, pxL2, pxL3, pxL4, pxL5, pxL6, pxL7, pxL8, pxL9, pxL10, pxL11, pxL12, pxL13, pxL14, pxL15, pxL16, pxL17, pxL18, pxL19, pxL20, pxL21, pxL22, pxL23, pxL24, pxL25, pxL26, pxL27, pxL28, pxL29, pxL30, pxL31, pxL32, pxL33, pxL34, pxL35, pxL36, pxL37, pxL38, pxL39, pxL40, pxL41, pxL42, pxL43, pxL44, pxL45, pxL46, pxL47, pxL48, pxL49, pxL51, pxL57, pxL58, pxL59, pxL60, pxL61, pxL62, pxL63, pxL64, pxL65, pxL66, pxL67, pxL68, pxL69, pxL70, pxL71, pxL72, pxL73, pxL74, pxL75, pxL76, pxL77, pxL78, pxL79, pxL80, pxL81, pxL82, pxL83, pxL84, pxL85, pxL86, pxL87, pxL88, pxL89, pxL90, pxL91, pxL92, pxL93, pxL94, pxL95, pxL96, pxL97, pxL98, pxL99, pxL100, pxL101, pxL102, pxL103, pxL104, pxL105, pxL106, pxL107, pxL108, pxL109, pxL110, pxL111, pxL112, pxL113, pxL114, pxL115, pxL116, pxL117, pxL118, pxL119, pxL120, pxL121, pxL122, pxL123, pxL124, pxL125, pxL126, pxL200, pxL240, pxL287, pxL388, pxL400, pxL429, pxL431, pxL440, pxL1240, pxL1600, pxL1681, pxL12028, pxL13849, pxL14880, pxL25173, pxL26908, pxL49600, pxL65535, pxL65536, ↓reduceIte, reduceCtorEq, pxJ_add, pxJ_sub, pxJ_mul, pxJ_neg, pxD_lt_t, pxD_lt_f, pxD_le_t, pxD_le_f, pxD_eq_t, pxD_eq_f, pxJ_lt, pxJ_le, pxJ_eq, px_gI, px_gR, px_pI, px_rc, px_ai, px_ar, px_si, px_ln, px_cp, pxJ_div, pxJ_b8, pxJ_byte, px_b2, px_bs, px_rb0, px_rb1, px_min, px_max, px_compare, pxW_some, jw_t_I, px_cpt, jw_r_I, px_cpr, jw_l_I, px_cpl, Option.some.injEq, r0, m0, t6, p1, ak, ek, m5]
        exact this
      · rw [if_neg c0] at fit
        refine none' fit ?_
        simp (maxSteps := 4000000) (disch := first | assumption | omega | (simp only [jw_t_I, px_cpt]; done) | (simp only [jw_t_I, px_cpt]; omega)) only [pxL0, pxL1, pxL2, pxL3, pxL4, pxL5, pxL6, pxL7, pxL8, pxL9, pxL10, pxL11, pxL12, pxL13, pxL14, pxL15, pxL16, pxL17, pxL18, pxL19, pxL20, pxL21, pxL22, pxL23, pxL24, pxL25, pxL26, pxL27, pxL28, pxL29, pxL30, pxL31, pxL32, pxL33, pxL34, pxL35, pxL36, pxL37, pxL38, pxL39, pxL40, pxL41, pxL42, pxL43, pxL44, pxL45, pxL46, pxL47, pxL48, pxL49, pxL51, pxL57, pxL58, pxL59, pxL60, pxL61, pxL62, pxL63, pxL64, pxL65, pxL66, pxL67, pxL68, pxL69, pxL70, pxL71, pxL72, pxL73, pxL74, pxL75, pxL76, pxL77, pxL78, pxL79, pxL80, pxL81, pxL82, pxL83, pxL84, pxL85, pxL86, pxL87, pxL88, pxL89, pxL90, pxL91, pxL92, pxL93, pxL94, pxL95, pxL96, pxL97, pxL98, pxL99, pxL100, pxL101, pxL102, pxL103, pxL104, pxL105, pxL106, pxL107, pxL108, pxL109, pxL110, pxL111, pxL112, pxL113, pxL114, pxL115, pxL116, pxL117, pxL118, pxL119, pxL120, pxL121, pxL122, pxL123, pxL124, pxL125, pxL126, pxL200, pxL240, pxL287, pxL388, pxL400, pxL429, pxL431, pxL440, pxL1240, pxL1600, pxL1681, pxL12028, pxL13849, pxL14880, pxL25173, pxL26908, pxL49600, pxL65535, pxL65536, ↓reduceIte, reduceCtorEq, pxJ_add, pxJ_sub, pxJ_mul, pxJ_neg, pxD_lt_t, pxD_lt_f, pxD_le_t, pxD_le_f, pxD_eq_t, pxD_eq_f, pxJ_lt, pxJ_le, pxJ_eq, px_gI, px_gR, px_pI, px_rc, px_ai, px_ar, px_si, px_ln, px_cp, pxJ_div, pxJ_b8, pxJ_byte, px_b2, px_bs, px_rb0, px_rb1, px_min, px_max, px_compare, pxW_some, jw_t_I, px_cpt, jw_r_I, px_cpr, jw_l_I, px_cpl, Option.some.injEq, r0, m0, t6, p1, ak, ek, m5]
    · -- the end
      rw [if_neg (show ¬ el.1 = 3 by omega), if_neg (show ¬ el.1 = 5 by omega), if_neg (show ¬ el.1 = 6 by omega), if_neg (show ¬ el.1 = 7 by omega), if_neg (show ¬ el.1 = 8 by omega), if_neg (show ¬ el.1 = 9 by omega), if_pos e1] at fit
      refine ⟨fun z => (by rw [fit] at z; cases z), fun y' o' c' z => ?_⟩
      rw [fit] at z
      have z' : (x, o, c) = (y', o', c') := Option.some.inj z
      obtain ⟨rfl, rfl, rfl⟩ : x = y' ∧ o = o' ∧ c = c' := by
        simp only [Prod.mk.injEq] at z'; exact z'
      refine ⟨h, ?_, pxF.rfl, Int.le_refl _, x1, fun k k1 k2 => ?_⟩
      · simp (maxSteps := 4000000) (disch := first | assumption | omega | (simp only [jw_t_I, px_cpt]; done) | (simp only [jw_t_I, px_cpt]; omega)) only [pxL0, pxL1, pxL2, pxL3, pxL4, pxL5, pxL6, pxL7, pxL8, pxL9, pxL10, pxL11, pxL12, pxL13, pxL14, pxL15, pxL16, pxL17, pxL18, pxL19, pxL20, pxL21, pxL22, pxL23, pxL24, pxL25, pxL26, pxL27, pxL28, pxL29, pxL30, pxL31, pxL32, pxL33, pxL34, pxL35, pxL36, pxL37, pxL38, pxL39, pxL40, pxL41, pxL42, pxL43, pxL44, pxL45, pxL46, pxL47, pxL48, pxL49, pxL51, pxL57, pxL58, pxL59, pxL60, pxL61, pxL62, pxL63, pxL64, pxL65, pxL66, pxL67, pxL68, pxL69, pxL70, pxL71, pxL72, pxL73, pxL74, pxL75, pxL76, pxL77, pxL78, pxL79, pxL80, pxL81, pxL82, pxL83, pxL84, pxL85, pxL86, pxL87, pxL88, pxL89, pxL90, pxL91, pxL92, pxL93, pxL94, pxL95, pxL96, pxL97, pxL98, pxL99, pxL100, pxL101, pxL102, pxL103, pxL104, pxL105, pxL106, pxL107, pxL108, pxL109, pxL110, pxL111, pxL112, pxL113, pxL114, pxL115, pxL116, pxL117, pxL118, pxL119, pxL120, pxL121, pxL122, pxL123, pxL124, pxL125, pxL126, pxL200, pxL240, pxL287, pxL388, pxL400, pxL429, pxL431, pxL440, pxL1240, pxL1600, pxL1681, pxL12028, pxL13849, pxL14880, pxL25173, pxL26908, pxL49600, pxL65535, pxL65536, ↓reduceIte, reduceCtorEq, pxJ_add, pxJ_sub, pxJ_mul, pxJ_neg, pxD_lt_t, pxD_lt_f, pxD_le_t, pxD_le_f, pxD_eq_t, pxD_eq_f, pxJ_lt, pxJ_le, pxJ_eq, px_gI, px_gR, px_pI, px_rc, px_ai, px_ar, px_si, px_ln, px_cp, pxJ_div, pxJ_b8, pxJ_byte, px_b2, px_bs, px_rb0, px_rb1, px_min, px_max, px_compare, pxW_some, jw_t_I, px_cpt, jw_r_I, px_cpr, jw_l_I, px_cpl, Option.some.injEq, r0, m0, t6, p1, ak, ek]
      · have : pxGc q (el :: l) = q := by
          show (if el.1 = 10 then q else pxGc (if el.1 = 6 then q + 1 else q) l) = _
          rw [if_pos e1]
        obtain ⟨ia, ib, ic⟩ := I.1 k k1 (by omega)
        obtain ⟨id', ie, ig⟩ := I.2 k k1 (by omega)
        exact ⟨ia, id', ib, ie, ig⟩
end
