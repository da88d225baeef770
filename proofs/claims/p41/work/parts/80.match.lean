/-! matching -/
def pxU (o : Int → Int) (k v : Int) : Int → Int := fun j => if j = k then v else o j
theorem pxU_e {o : Int → Int} {k v : Int} : pxU o k v k = v := if_pos rfl
theorem pxU_n {o : Int → Int} {k v j : Int} (h : j ≠ k) : pxU o k v j = o j := if_neg h
def pxBk (r : List Int) : Nat → Int → Int → Bool
  | 0, _, _ => true
  | n + 1, a, x => decide (x < r.length ∧ pxE r a = pxE r x) && pxBk r n (a + 1) (x + 1)
/-- the first of f x, f (x - 1), .. -/
def pxDesc {α : Type} (f : Int → Option α) : Nat → Int → Option α
  | 0, _ => none
  | n + 1, x => (f x).elim (pxDesc f n (x - 1)) some
def pxHb (s : List Int) (e : Int × Int) (c : Int) : Bool := decide (e.1 = 2) || decide (e.1 = 1 ∧ c = e.2) || (decide (e.1 = 4) && pxInC s e.2 c)
theorem pxHb_i {s : List Int} {e : Int × Int} {c : Int} : pxHb s e c = true ↔ pxHas s e c := by
  unfold pxHb pxHas
  simp only [Bool.or_eq_true, Bool.and_eq_true, decide_eq_true_eq, or_assoc]
/-- where elements that fit a row from x on end, and where groups begin and end -/
def pxFit (s r : List Int) : List (Int × Int) → (Int → Int) → (Int → Int) → Int → Option (Int × (Int → Int) × (Int → Int))
  | [], _, _, _ => none
  | e :: l, o, c, x =>
    if e.1 = 3 then pxDesc (fun y => pxFit s r l o c y) (r.length - x + 1).toNat r.length
    else if e.1 = 5 then pxFit s r l (pxU o e.2 x) c x
    else if e.1 = 6 then pxFit s r l o (pxU c e.2 x) x
    else if e.1 = 7 then (if pxBk r (c e.2 - o e.2).toNat (o e.2) x = true then pxFit s r l o c (x + (c e.2 - o e.2)) else none)
    else if e.1 = 8 then (if x = 0 then pxFit s r l o c x else none)
    else if e.1 = 9 then (if x = r.length then pxFit s r l o c x else none)
    else if e.1 = 10 then some (x, o, c)
    else if x < r.length ∧ pxHb s e (pxE r x) = true then pxFit s r l o c (x + 1) else none
/-- groups that were begun and ended, stars that were met: what may follow -/
def pxWE : Int → Int → Int → List (Int × Int) → Prop
  | _, _, _, [] => False
  | g, q, t, e :: l => e.1 = 10 ∨ ((e.1 = 5 → e.2 = g + 1 ∧ g = q ∧ g + 1 ≤ 2) ∧ (e.1 = 6 → e.2 = g ∧ g = q + 1) ∧ (e.1 = 7 → 1 ≤ e.2 ∧ e.2 ≤ q) ∧ (e.1 = 3 → t + 1 ≤ 2) ∧ pxWE (if e.1 = 5 then g + 1 else g) (if e.1 = 6 then q + 1 else q) (if e.1 = 3 then t + 1 else t) l)
def pxGc : Int → List (Int × Int) → Int
  | q, [] => q
  | q, e :: l => if e.1 = 10 then q else pxGc (if e.1 = 6 then q + 1 else q) l
def pxMS (h : jw_H) : Prop := (jw_t h 531).1 = 4 ∧ jw_r h 531 0 = some 10 ∧ jw_r h 531 1 = some 532 ∧ jw_r h 531 2 = some 533 ∧ jw_r h 531 3 = some 534 ∧ jw_r h 531 4 = some 535 ∧ jw_t h 532 = (21, 30) ∧ jw_t h 533 = (23, 30) ∧ jw_t h 534 = (20, 3) ∧ jw_t h 535 = (20, 3)
theorem pxMS.fr {P : Nat → Nat → Prop} {h h' : jw_H} (H : pxMS h) (F : pxF P h h') (hP : ∀ f, f < 5 → ¬ P 531 f) : pxMS h' := by
  obtain ⟨a1, a2, a3, a4, a5, a6, a7, a8, a9, a10⟩ := H
  exact ⟨by rw [F.t]; exact a1, by rw [F.r (hP _ (by omega))]; exact a2, by rw [F.r (hP _ (by omega))]; exact a3, by rw [F.r (hP _ (by omega))]; exact a4, by rw [F.r (hP _ (by omega))]; exact a5, by rw [F.r (hP _ (by omega))]; exact a6, by rw [F.t]; exact a7, by rw [F.t]; exact a8, by rw [F.t]; exact a9, by rw [F.t]; exact a10⟩
/-- the matcher has the row r -/
def pxMT (h : jw_H) (r : List Int) : Prop := pxMS h ∧ pxOr r ∧ pxM h 531 5 = r.length ∧ ∀ j : Int, 0 ≤ j → j < r.length → pxM h 532 j.toNat = pxE r j ∧ jw_l h 533 j.toNat = pxBit (pxE r j)
theorem pxMT.fr {P : Nat → Nat → Prop} {h h' : jw_H} {r : List Int} (H : pxMT h r) (F : pxF P h h') (hP : ∀ k f, (k = 531 ∧ f < 6) ∨ k = 532 ∨ k = 533 → ¬ P k f) : pxMT h' r :=
  ⟨H.1.fr F (fun f z => hP _ _ (by omega)), H.2.1, by rw [F.m (hP _ _ (by omega))]; exact H.2.2.1, fun j j0 j1 => by rw [F.m (hP _ _ (by omega)), F.l (hP _ _ (by omega))]; exact H.2.2.2 j j0 j1⟩
/-- groups behind g may begin, those behind q may end -/
def pxQm (g q : Int) : Nat → Nat → Prop := fun k f => (k = 534 ∧ g < f) ∨ (k = 535 ∧ q < f)
/-- the program's elements from e on, and how many there are -/
def pxPE (h : jw_H) (s : List Int) (e most : Int) (l : List (Int × Int)) : Prop := pxPS h ∧ pxM h 10 7 = most ∧ most ≤ 120 ∧ 0 ≤ e ∧ e + l.length ≤ most ∧ pxEls h s e l
theorem pxPE.fr {P : Nat → Nat → Prop} {h h' : jw_H} {s : List Int} {e most : Int} {l : List (Int × Int)} (H : pxPE h s e most l) (F : pxF P h h') (hP : ∀ k f, k ≤ 253 → ¬ P k f) : pxPE h' s e most l := by
  obtain ⟨a1, a2, a3, a4, a5, a6⟩ := H
  exact ⟨a1.fr F (fun k f z => hP k f (by omega)), by rw [F.m (hP _ _ (by omega))]; exact a2, a3, a4, a5, a6.fr F _ _ a4 (fun k f z _ _ => hP k f (by omega))⟩
theorem pxPE.tl {h : jw_H} {s : List Int} {e most : Int} {x : Int × Int} {l : List (Int × Int)} (H : pxPE h s e most (x :: l)) : pxPE h s (e + 1) most l := by
  obtain ⟨a1, a2, a3, a4, a5, a6⟩ := H
  simp only [List.length_cons] at a5
  exact ⟨a1, a2, a3, by omega, by omega, a6.2⟩
/-- what is known of groups -/
def pxGI (h : jw_H) (g q x : Int) (o c : Int → Int) : Prop := (∀ k : Int, 1 ≤ k → k ≤ g → pxM h 534 k.toNat = o k ∧ 0 ≤ o k ∧ o k ≤ x) ∧ ∀ k : Int, 1 ≤ k → k ≤ q → pxM h 535 k.toNat = c k ∧ o k ≤ c k ∧ c k ≤ x
theorem pxGI.fr {h h' : jw_H} {g q x y : Int} {o c : Int → Int} (H : pxGI h g q x o c) (F : pxF (pxQm g q) h h') (hy : x ≤ y) : pxGI h' g q y o c := by
  refine ⟨fun k k1 k2 => ?_, fun k k1 k2 => ?_⟩
  · obtain ⟨a, b, c⟩ := H.1 k k1 k2
    rw [F.m (by unfold pxQm; omega)]
    exact ⟨a, b, by omega⟩
  · obtain ⟨a, b, c⟩ := H.2 k k1 k2
    rw [F.m (by unfold pxQm; omega)]
    exact ⟨a, b, by omega⟩
/-- what is come to -/
def pxFO (h : jw_H) (s r : List Int) (l : List (Int × Int)) (g q x : Int) (o c : Int → Int) (E : Option (Int32 × jw_H)) : Prop :=
  (pxFit s r l o c x = none → ∃ h', E = some (pxJ (-1), h') ∧ pxF (pxQm g q) h h') ∧
  (∀ y o' c', pxFit s r l o c x = some (y, o', c') → ∃ h', E = some (pxJ y, h') ∧ pxF (pxQm g q) h h' ∧ x ≤ y ∧ y ≤ r.length ∧ ∀ k : Int, 1 ≤ k → k ≤ pxGc q l → pxM h' 534 k.toNat = o' k ∧ pxM h' 535 k.toNat = c' k ∧ 0 ≤ o' k ∧ o' k ≤ c' k ∧ c' k ≤ y)
section
variable {s r : List Int}
theorem px_grp {ks : jw_H → Nat → Int32 → Int32 → Int32 → Option (Int32 × jw_H)} {k77 : jw_H → Nat → Int32 → Int32 → Int32 → Int32 → Option (Int32 × jw_H)} {h : jw_H} {x3 x4 : Int32} {e most : Int} {x : Int × Int} {l : List (Int × Int)} (H : pxPE h s e most (x :: l)) (M : pxMS h) :
    ∃ t0 : Int32, g_X4_fits_b77 ks k77 h 531 x3 x4 (pxJ most) (pxJ e) = g_X4_fits_b119 ks k77 h 531 x3 x4 (pxJ most) (pxJ e) (jw_l h 253 e.toNat) t0 ∧ (x.1 = 5 ∨ x.1 = 6 ∨ x.1 = 7 → t0 = pxJ x.2) := by
  obtain ⟨S, a2, a3, a4, a5, a6⟩ := H
  simp only [List.length_cons] at a5
  have r0 := M.2.1
  have m0 := M.1
  have t6 := S.1
  have r2 := S.2.2.2.1
  have t253 := S.2.2.2.2.2.2.1
  have al : jw_al h (some 253) (pxJ e) = some (jw_l h 253 e.toNat) := px_al (by rw [t253]) a4 (by rw [t253]; show e < ((120 : Nat) : Int); omega) (by omega)
  have nn : ¬ most ≤ e := by omega
  have hv : x.1 = 5 ∨ x.1 = 6 ∨ x.1 = 7 → jw_l h 253 e.toNat = (pxJ x.2).toInt64 ∧ (x.2 = 1 ∨ x.2 = 2) := by
    intro z
    rcases a6.1 with q | q | q | q | q | q | q | q
    · omega
    · omega
    · exact ⟨q.2.2.1, by omega⟩
    · exact ⟨q.2.2.1, by omega⟩
    · exact ⟨q.2.2.1, by omega⟩
    · omega
    · omega
    · omega
  generalize jw_l h 253 e.toNat = v at al hv ⊢
  unfold g_X4_fits_b77 g_X4_fits_b118
  by_cases z : x.1 = 5 ∨ x.1 = 6 ∨ x.1 = 7
  · obtain ⟨ev, ek⟩ := hv z
    refine ⟨pxJ x.2, ?_, fun _ => rfl⟩
    rcases ek with ek | ek
    · rw [ek] at ev ⊢
      have ev' : v = 1 := ev
      subst ev'
      have c1 : ((lg_cmp (1 : Int64) (1 : Int64)) < pxJ 0) = False := by decide
      have c2 : (pxJ 0 < (lg_cmp (1 : Int64) (2 : Int64))) = False := by decide
      have c3 : (1 : Int64).toInt32 = pxJ 1 := by decide
      simp (disch := first | assumption | omega | (simp only [jw_t_I, px_cpt]; done) | (simp only [jw_t_I, px_cpt]; omega)) only [pxL0, pxL1, pxL2, pxL3, pxL4, pxL5, pxL6, pxL7, pxL8, pxL9, pxL10, pxL11, pxL12, pxL13, pxL14, pxL15, pxL16, pxL17, pxL18, pxL19, pxL20, pxL21, pxL22, pxL23, pxL24, pxL25, pxL26, pxL27, pxL28, pxL29, pxL30, pxL31, pxL32, pxL33, pxL34, pxL35, pxL36, pxL37, pxL38, pxL39, pxL40, pxL41, pxL42, pxL43, pxL44, pxL45, pxL46, pxL47, pxL48, pxL49, pxL51, pxL57, pxL58, pxL59, pxL60, pxL61, pxL62, pxL63, pxL64, pxL65, pxL66, pxL67, pxL68, pxL69, pxL70, pxL71, pxL72, pxL73, pxL74, pxL75, pxL76, pxL77, pxL78, pxL79, pxL80, pxL81, pxL82, pxL83, pxL84, pxL85, pxL86, pxL87, pxL88, pxL89, pxL90, pxL91, pxL92, pxL93, pxL94, pxL95, pxL96, pxL97, pxL98, pxL99, pxL100, pxL101, pxL102, pxL103, pxL104, pxL105, pxL106, pxL107, pxL108, pxL109, pxL110, pxL111, pxL112, pxL113, pxL114, pxL115, pxL116, pxL117, pxL118, pxL119, pxL120, pxL121, pxL122, pxL123, pxL124, pxL125, pxL126, pxL200, pxL240, pxL287, pxL388, pxL400, pxL429, pxL431, pxL440, pxL1240, pxL1600, pxL1681, pxL12028, pxL13849, pxL14880, pxL25173, pxL26908, pxL49600, pxL65535, pxL65536, ↓reduceIte, reduceCtorEq, pxJ_add, pxJ_sub, pxJ_mul, pxJ_neg, pxD_lt_t, pxD_lt_f, pxD_le_t, pxD_le_f, pxD_eq_t, pxD_eq_f, pxJ_lt, pxJ_le, pxJ_eq, px_gI, px_gR, px_pI, px_rc, px_ai, px_ar, px_si, px_ln, px_cp, pxJ_div, pxJ_b8, pxJ_byte, px_b2, px_bs, px_rb0, px_rb1, px_min, px_max, px_compare, pxW_some, jw_t_I, px_cpt, jw_r_I, px_cpr, jw_l_I, px_cpl, Option.some.injEq, r0, m0, t6, r2, al, c1, c2, c3]
    · rw [ek] at ev ⊢
      have ev' : v = 2 := ev
      subst ev'
      have c1 : ((lg_cmp (2 : Int64) (1 : Int64)) < pxJ 0) = False := by decide
      have c2 : (pxJ 0 < (lg_cmp (2 : Int64) (2 : Int64))) = False := by decide
      have c3 : (2 : Int64).toInt32 = pxJ 2 := by decide
      simp (disch := first | assumption | omega | (simp only [jw_t_I, px_cpt]; done) | (simp only [jw_t_I, px_cpt]; omega)) only [pxL0, pxL1, pxL2, pxL3, pxL4, pxL5, pxL6, pxL7, pxL8, pxL9, pxL10, pxL11, pxL12, pxL13, pxL14, pxL15, pxL16, pxL17, pxL18, pxL19, pxL20, pxL21, pxL22, pxL23, pxL24, pxL25, pxL26, pxL27, pxL28, pxL29, pxL30, pxL31, pxL32, pxL33, pxL34, pxL35, pxL36, pxL37, pxL38, pxL39, pxL40, pxL41, pxL42, pxL43, pxL44, pxL45, pxL46, pxL47, pxL48, pxL49, pxL51, pxL57, pxL58, pxL59, pxL60, pxL61, pxL62, pxL63, pxL64, pxL65, pxL66, pxL67, pxL68, pxL69, pxL70, pxL71, pxL72, pxL73, pxL74, pxL75, pxL76, pxL77, pxL78, pxL79, pxL80, pxL81, pxL82, pxL83, pxL84, pxL85, pxL86, pxL87, pxL88, pxL89, pxL90, pxL91, pxL92, pxL93, pxL94, pxL95, pxL96, pxL97, pxL98, pxL99, pxL100, pxL101, pxL102, pxL103, pxL104, pxL105, pxL106, pxL107, pxL108, pxL109, pxL110, pxL111, pxL112, pxL113, pxL114, pxL115, pxL116, pxL117, pxL118, pxL119, pxL120, pxL121, pxL122, pxL123, pxL124, pxL125, pxL126, pxL200, pxL240, pxL287, pxL388, pxL400, pxL429, pxL431, pxL440, pxL1240, pxL1600, pxL1681, pxL12028, pxL13849, pxL14880, pxL25173, pxL26908, pxL49600, pxL65535, pxL65536, ↓reduceIte, reduceCtorEq, pxJ_add, pxJ_sub, pxJ_mul, pxJ_neg, pxD_lt_t, pxD_lt_f, pxD_le_t, pxD_le_f, pxD_eq_t, pxD_eq_f, pxJ_lt, pxJ_le, pxJ_eq, px_gI, px_gR, px_pI, px_rc, px_ai, px_ar, px_si, px_ln, px_cp, pxJ_div, pxJ_b8, pxJ_byte, px_b2, px_bs, px_rb0, px_rb1, px_min, px_max, px_compare, pxW_some, jw_t_I, px_cpt, jw_r_I, px_cpr, jw_l_I, px_cpl, Option.some.injEq, r0, m0, t6, r2, al, c1, c2, c3]
  · by_cases c1 : (lg_cmp v (1 : Int64)) < 0
    · refine ⟨0, ?_, fun q => absurd q z⟩
      have d1 : (lg_cmp v (1 : Int64)) < pxJ 0 := c1
      simp (disch := first | assumption | omega | (simp only [jw_t_I, px_cpt]; done) | (simp only [jw_t_I, px_cpt]; omega)) only [pxL0, pxL1, pxL2, pxL3, pxL4, pxL5, pxL6, pxL7, pxL8, pxL9, pxL10, pxL11, pxL12, pxL13, pxL14, pxL15, pxL16, pxL17, pxL18, pxL19, pxL20, pxL21, pxL22, pxL23, pxL24, pxL25, pxL26, pxL27, pxL28, pxL29, pxL30, pxL31, pxL32, pxL33, pxL34, pxL35, pxL36, pxL37, pxL38, pxL39, pxL40, pxL41, pxL42, pxL43, pxL44, pxL45, pxL46, pxL47, pxL48, pxL49, pxL51, pxL57, pxL58, pxL59, pxL60, pxL61, pxL62, pxL63, pxL64, pxL65, pxL66, pxL67, pxL68, pxL69, pxL70, pxL71, pxL72, pxL73, pxL74, pxL75, pxL76, pxL77, pxL78, pxL79, pxL80, pxL81, pxL82, pxL83, pxL84, pxL85, pxL86, pxL87, pxL88, pxL89, pxL90, pxL91, pxL92, pxL93, pxL94, pxL95, pxL96, pxL97, pxL98, pxL99, pxL100, pxL101, pxL102, pxL103, pxL104, pxL105, pxL106, pxL107, pxL108, pxL109, pxL110, pxL111, pxL112, pxL113, pxL114, pxL115, pxL116, pxL117, pxL118, pxL119, pxL120, pxL121, pxL122, pxL123, pxL124, pxL125, pxL126, pxL200, pxL240, pxL287, pxL388, pxL400, pxL429, pxL431, pxL440, pxL1240, pxL1600, pxL1681, pxL12028, pxL13849, pxL14880, pxL25173, pxL26908, pxL49600, pxL65535, pxL65536, ↓reduceIte, reduceCtorEq, pxJ_add, pxJ_sub, pxJ_mul, pxJ_neg, pxD_lt_t, pxD_lt_f, pxD_le_t, pxD_le_f, pxD_eq_t, pxD_eq_f, pxJ_lt, pxJ_le, pxJ_eq, px_gI, px_gR, px_pI, px_rc, px_ai, px_ar, px_si, px_ln, px_cp, pxJ_div, pxJ_b8, pxJ_byte, px_b2, px_bs, px_rb0, px_rb1, px_min, px_max, px_compare, pxW_some, jw_t_I, px_cpt, jw_r_I, px_cpr, jw_l_I, px_cpl, Option.some.injEq, r0, m0, t6, r2, al, d1]
    · by_cases c2 : (0 : Int32) < (lg_cmp v (2 : Int64))
      · refine ⟨0, ?_, fun q => absurd q z⟩
        have d1 : ¬ (lg_cmp v (1 : Int64)) < pxJ 0 := c1
        have d2 : pxJ 0 < (lg_cmp v (2 : Int64)) := c2
        simp (disch := first | assumption | omega | (simp only [jw_t_I, px_cpt]; done) | (simp only [jw_t_I, px_cpt]; omega)) only [pxL0, pxL1, pxL2, pxL3, pxL4, pxL5, pxL6, pxL7, pxL8, pxL9, pxL10, pxL11, pxL12, pxL13, pxL14, pxL15, pxL16, pxL17, pxL18, pxL19, pxL20, pxL21, pxL22, pxL23, pxL24, pxL25, pxL26, pxL27, pxL28, pxL29, pxL30, pxL31, pxL32, pxL33, pxL34, pxL35, pxL36, pxL37, pxL38, pxL39, pxL40, pxL41, pxL42, pxL43, pxL44, pxL45, pxL46, pxL47, pxL48, pxL49, pxL51, pxL57, pxL58, pxL59, pxL60, pxL61, pxL62, pxL63, pxL64, pxL65, pxL66, pxL67, pxL68, pxL69, pxL70, pxL71, pxL72, pxL73, pxL74, pxL75, pxL76, pxL77, pxL78, pxL79, pxL80, pxL81, pxL82, pxL83, pxL84, pxL85, pxL86, pxL87, pxL88, pxL89, pxL90, pxL91, pxL92, pxL93, pxL94, pxL95, pxL96, pxL97, pxL98, pxL99, pxL100, pxL101, pxL102, pxL103, pxL104, pxL105, pxL106, pxL107, pxL108, pxL109, pxL110, pxL111, pxL112, pxL113, pxL114, pxL115, pxL116, pxL117, pxL118, pxL119, pxL120, pxL121, pxL122, pxL123, pxL124, pxL125, pxL126, pxL200, pxL240, pxL287, pxL388, pxL400, pxL429, pxL431, pxL440, pxL1240, pxL1600, pxL1681, pxL12028, pxL13849, pxL14880, pxL25173, pxL26908, pxL49600, pxL65535, pxL65536, ↓reduceIte, reduceCtorEq, pxJ_add, pxJ_sub, pxJ_mul, pxJ_neg, pxD_lt_t, pxD_lt_f, pxD_le_t, pxD_le_f, pxD_eq_t, pxD_eq_f, pxJ_lt, pxJ_le, pxJ_eq, px_gI, px_gR, px_pI, px_rc, px_ai, px_ar, px_si, px_ln, px_cp, pxJ_div, pxJ_b8, pxJ_byte, px_b2, px_bs, px_rb0, px_rb1, px_min, px_max, px_compare, pxW_some, jw_t_I, px_cpt, jw_r_I, px_cpr, jw_l_I, px_cpl, Option.some.injEq, r0, m0, t6, r2, al, d1, d2]
      · refine ⟨v.toInt32, ?_, fun q => absurd q z⟩
        have d1 : ¬ (lg_cmp v (1 : Int64)) < pxJ 0 := c1
        have d2 : ¬ pxJ 0 < (lg_cmp v (2 : Int64)) := c2
        simp (disch := first | assumption | omega | (simp only [jw_t_I, px_cpt]; done) | (simp only [jw_t_I, px_cpt]; omega)) only [pxL0, pxL1, pxL2, pxL3, pxL4, pxL5, pxL6, pxL7, pxL8, pxL9, pxL10, pxL11, pxL12, pxL13, pxL14, pxL15, pxL16, pxL17, pxL18, pxL19, pxL20, pxL21, pxL22, pxL23, pxL24, pxL25, pxL26, pxL27, pxL28, pxL29, pxL30, pxL31, pxL32, pxL33, pxL34, pxL35, pxL36, pxL37, pxL38, pxL39, pxL40, pxL41, pxL42, pxL43, pxL44, pxL45, pxL46, pxL47, pxL48, pxL49, pxL51, pxL57, pxL58, pxL59, pxL60, pxL61, pxL62, pxL63, pxL64, pxL65, pxL66, pxL67, pxL68, pxL69, pxL70, pxL71, pxL72, pxL73, pxL74, pxL75, pxL76, pxL77, pxL78, pxL79, pxL80, pxL81, pxL82, pxL83, pxL84, pxL85, pxL86, pxL87, pxL88, pxL89, pxL90, pxL91, pxL92, pxL93, pxL94, pxL95, pxL96, pxL97, pxL98, pxL99, pxL100, pxL101, pxL102, pxL103, pxL104, pxL105, pxL106, pxL107, pxL108, pxL109, pxL110, pxL111, pxL112, pxL113, pxL114, pxL115, pxL116, pxL117, pxL118, pxL119, pxL120, pxL121, pxL122, pxL123, pxL124, pxL125, pxL126, pxL200, pxL240, pxL287, pxL388, pxL400, pxL429, pxL431, pxL440, pxL1240, pxL1600, pxL1681, pxL12028, pxL13849, pxL14880, pxL25173, pxL26908, pxL49600, pxL65535, pxL65536, ↓reduceIte, reduceCtorEq, pxJ_add, pxJ_sub, pxJ_mul, pxJ_neg, pxD_lt_t, pxD_lt_f, pxD_le_t, pxD_le_f, pxD_eq_t, pxD_eq_f, pxJ_lt, pxJ_le, pxJ_eq, px_gI, px_gR, px_pI, px_rc, px_ai, px_ar, px_si, px_ln, px_cp, pxJ_div, pxJ_b8, pxJ_byte, px_b2, px_bs, px_rb0, px_rb1, px_min, px_max, px_compare, pxW_some, jw_t_I, px_cpt, jw_r_I, px_cpr, jw_l_I, px_cpl, Option.some.injEq, r0, m0, t6, r2, al, d1, d2]
/-- a group again -/
theorem s_X4_fits_b282 {ks : jw_H → Nat → Int32 → Int32 → Int32 → Option (Int32 × jw_H)} {k77 : jw_H → Nat → Int32 → Int32 → Int32 → Int32 → Option (Int32 × jw_H)} {h : jw_H} {x3 x5 x6 : Int32} {k b : Int} (T : pxMT h r) (k1 : 1 ≤ k) (k2 : k ≤ 2) (hb : pxM h 535 k.toNat = b) (b1 : b ≤ r.length) : ∀ (m N : Nat) (a x : Int), a + m = b → m < N → 0 ≤ a → 0 ≤ x → x ≤ r.length →
    f_X4_fits_b282 ks k77 N h 531 x3 (pxJ x) x5 x6 (pxJ k) (pxJ a) = if pxBk r m a x = true then g_X4_fits_b369 ks k77 h 531 x3 (pxJ (x + m)) x5 x6 else some (pxJ (-1), h) := by
  intro m
  have tm := T.1.1
  have r1 := T.1.2.2.1
  have r4 := T.1.2.2.2.2.2.1
  have t21 := T.1.2.2.2.2.2.2.1
  have t20 := T.1.2.2.2.2.2.2.2.2.2
  have m5 := T.2.2.1
  have l30 := T.2.1.1
  have ai : jw_ai h 20 (some 535) (pxJ k) = some (pxJ b) := by rw [px_ai (by rw [t20]) (by omega) (by rw [t20]; show k < ((3 : Nat) : Int); omega) (by omega), hb]
  have bl := pxM_lo h 535 k.toNat
  rw [hb] at bl
  induction m with
  | zero =>
    intro N a x e hN a0 x0 x1
    obtain ⟨N, rfl, hN⟩ := px_fu hN
    rw [u_X4_fits_b282]
    unfold g_X4_fits_b282
    have hm : pxBk r 0 a x = true := rfl
    rw [if_pos hm]
    simp only [Int.natCast_zero, Int.add_zero]
    simp (disch := first | assumption | omega | (simp only [jw_t_I, px_cpt]; done) | (simp only [jw_t_I, px_cpt]; omega)) only [pxL0, pxL1, pxL2, pxL3, pxL4, pxL5, pxL6, pxL7, pxL8, pxL9, pxL10, pxL11, pxL12, pxL13, pxL14, pxL15, pxL16, pxL17, pxL18, pxL19, pxL20, pxL21, pxL22, pxL23, pxL24, pxL25, pxL26, pxL27, pxL28, pxL29, pxL30, pxL31, pxL32, pxL33, pxL34, pxL35, pxL36, pxL37, pxL38, pxL39, pxL40, pxL41, pxL42, pxL43, pxL44, pxL45, pxL46, pxL47, pxL48, pxL49, pxL51, pxL57, pxL58, pxL59, pxL60, pxL61, pxL62, pxL63, pxL64, pxL65, pxL66, pxL67, pxL68, pxL69, pxL70, pxL71, pxL72, pxL73, pxL74, pxL75, pxL76, pxL77, pxL78, pxL79, pxL80, pxL81, pxL82, pxL83, pxL84, pxL85, pxL86, pxL87, pxL88, pxL89, pxL90, pxL91, pxL92, pxL93, pxL94, pxL95, pxL96, pxL97, pxL98, pxL99, pxL100, pxL101, pxL102, pxL103, pxL104, pxL105, pxL106, pxL107, pxL108, pxL109, pxL110, pxL111, pxL112, pxL113, pxL114, pxL115, pxL116, pxL117, pxL118, pxL119, pxL120, pxL121, pxL122, pxL123, pxL124, pxL125, pxL126, pxL200, pxL240, pxL287, pxL388, pxL400, pxL429, pxL431, pxL440, pxL1240, pxL1600, pxL1681, pxL12028, pxL13849, pxL14880, pxL25173, pxL26908, pxL49600, pxL65535, pxL65536, ↓reduceIte, reduceCtorEq, pxJ_add, pxJ_sub, pxJ_mul, pxJ_neg, pxD_lt_t, pxD_lt_f, pxD_le_t, pxD_le_f, pxD_eq_t, pxD_eq_f, pxJ_lt, pxJ_le, pxJ_eq, px_gI, px_gR, px_pI, px_rc, px_ai, px_ar, px_si, px_ln, px_cp, pxJ_div, pxJ_b8, pxJ_byte, px_b2, px_bs, px_rb0, px_rb1, px_min, px_max, px_compare, pxW_some, jw_t_I, px_cpt, jw_r_I, px_cpr, jw_l_I, px_cpl, Option.some.injEq, r4, ai]
  | succ m ih =>
    intro N a x e hN a0 x0 x1
    obtain ⟨N, rfl, hN⟩ := px_fu hN
    rw [u_X4_fits_b282]
    unfold g_X4_fits_b282
    have a1 : jw_ai h 21 (some 532) (pxJ a) = some (pxJ (pxE r a)) := by rw [px_ai (by rw [t21]) (by omega) (by rw [t21]; show a < ((30 : Nat) : Int); omega) (by omega), (T.2.2.2 a a0 (by omega)).1]
    by_cases c : x < r.length
    · have a2 : jw_ai h 21 (some 532) (pxJ x) = some (pxJ (pxE r x)) := by rw [px_ai (by rw [t21]) (by omega) (by rw [t21]; show x < ((30 : Nat) : Int); omega) (by omega), (T.2.2.2 x x0 (by omega)).1]
      have ea := pxCh_in (pxE_ch T.2.1 a0 (by omega))
      have ex := pxCh_in (pxE_ch T.2.1 x0 c)
      by_cases d : pxE r a = pxE r x
      · have hm : pxBk r (m + 1) a x = pxBk r m (a + 1) (x + 1) := by
          show (decide (x < r.length ∧ pxE r a = pxE r x) && pxBk r m (a + 1) (x + 1)) = _
          rw [decide_eq_true ⟨c, d⟩]; rfl
        rw [hm, show x + ((m + 1 : Nat) : Int) = x + 1 + m by omega, ← ih N (a + 1) (x + 1) (by omega) (by omega) (by omega) (by omega) (by omega)]
        simp (disch := first | assumption | omega | (simp only [jw_t_I, px_cpt]; done) | (simp only [jw_t_I, px_cpt]; omega)) only [pxL0, pxL1, pxL2, pxL3, pxL4, pxL5, pxL6, pxL7, pxL8, pxL9, pxL10, pxL11, pxL12, pxL13, pxL14, pxL15, pxL16, pxL17, pxL18, pxL19, pxL20, pxL21, pxL22, pxL23, pxL24, pxL25, pxL26, pxL27, pxL28, pxL29, pxL30, pxL31, pxL32, pxL33, pxL34, pxL35, pxL36, pxL37, pxL38, pxL39, pxL40, pxL41, pxL42, pxL43, pxL44, pxL45, pxL46, pxL47, pxL48, pxL49, pxL51, pxL57, pxL58, pxL59, pxL60, pxL61, pxL62, pxL63, pxL64, pxL65, pxL66, pxL67, pxL68, pxL69, pxL70, pxL71, pxL72, pxL73, pxL74, pxL75, pxL76, pxL77, pxL78, pxL79, pxL80, pxL81, pxL82, pxL83, pxL84, pxL85, pxL86, pxL87, pxL88, pxL89, pxL90, pxL91, pxL92, pxL93, pxL94, pxL95, pxL96, pxL97, pxL98, pxL99, pxL100, pxL101, pxL102, pxL103, pxL104, pxL105, pxL106, pxL107, pxL108, pxL109, pxL110, pxL111, pxL112, pxL113, pxL114, pxL115, pxL116, pxL117, pxL118, pxL119, pxL120, pxL121, pxL122, pxL123, pxL124, pxL125, pxL126, pxL200, pxL240, pxL287, pxL388, pxL400, pxL429, pxL431, pxL440, pxL1240, pxL1600, pxL1681, pxL12028, pxL13849, pxL14880, pxL25173, pxL26908, pxL49600, pxL65535, pxL65536, ↓reduceIte, reduceCtorEq, pxJ_add, pxJ_sub, pxJ_mul, pxJ_neg, pxD_lt_t, pxD_lt_f, pxD_le_t, pxD_le_f, pxD_eq_t, pxD_eq_f, pxJ_lt, pxJ_le, pxJ_eq, px_gI, px_gR, px_pI, px_rc, px_ai, px_ar, px_si, px_ln, px_cp, pxJ_div, pxJ_b8, pxJ_byte, px_b2, px_bs, px_rb0, px_rb1, px_min, px_max, px_compare, pxW_some, jw_t_I, px_cpt, jw_r_I, px_cpr, jw_l_I, px_cpl, Option.some.injEq, r4, ai, m5, r1, a1, a2, d]
      · have hm : pxBk r (m + 1) a x = false := by
          show (decide (x < r.length ∧ pxE r a = pxE r x) && pxBk r m (a + 1) (x + 1)) = _
          rw [decide_eq_false (fun z => d z.2)]; rfl
        rw [hm, if_neg (show ¬ (false = true) by simp)]
        simp (disch := first | assumption | omega | (simp only [jw_t_I, px_cpt]; done) | (simp only [jw_t_I, px_cpt]; omega)) only [pxL0, pxL1, pxL2, pxL3, pxL4, pxL5, pxL6, pxL7, pxL8, pxL9, pxL10, pxL11, pxL12, pxL13, pxL14, pxL15, pxL16, pxL17, pxL18, pxL19, pxL20, pxL21, pxL22, pxL23, pxL24, pxL25, pxL26, pxL27, pxL28, pxL29, pxL30, pxL31, pxL32, pxL33, pxL34, pxL35, pxL36, pxL37, pxL38, pxL39, pxL40, pxL41, pxL42, pxL43, pxL44, pxL45, pxL46, pxL47, pxL48, pxL49, pxL51, pxL57, pxL58, pxL59, pxL60, pxL61, pxL62, pxL63, pxL64, pxL65, pxL66, pxL67, pxL68, pxL69, pxL70, pxL71, pxL72, pxL73, pxL74, pxL75, pxL76, pxL77, pxL78, pxL79, pxL80, pxL81, pxL82, pxL83, pxL84, pxL85, pxL86, pxL87, pxL88, pxL89, pxL90, pxL91, pxL92, pxL93, pxL94, pxL95, pxL96, pxL97, pxL98, pxL99, pxL100, pxL101, pxL102, pxL103, pxL104, pxL105, pxL106, pxL107, pxL108, pxL109, pxL110, pxL111, pxL112, pxL113, pxL114, pxL115, pxL116, pxL117, pxL118, pxL119, pxL120, pxL121, pxL122, pxL123, pxL124, pxL125, pxL126, pxL200, pxL240, pxL287, pxL388, pxL400, pxL429, pxL431, pxL440, pxL1240, pxL1600, pxL1681, pxL12028, pxL13849, pxL14880, pxL25173, pxL26908, pxL49600, pxL65535, pxL65536, ↓reduceIte, reduceCtorEq, pxJ_add, pxJ_sub, pxJ_mul, pxJ_neg, pxD_lt_t, pxD_lt_f, pxD_le_t, pxD_le_f, pxD_eq_t, pxD_eq_f, pxJ_lt, pxJ_le, pxJ_eq, px_gI, px_gR, px_pI, px_rc, px_ai, px_ar, px_si, px_ln, px_cp, pxJ_div, pxJ_b8, pxJ_byte, px_b2, px_bs, px_rb0, px_rb1, px_min, px_max, px_compare, pxW_some, jw_t_I, px_cpt, jw_r_I, px_cpr, jw_l_I, px_cpl, Option.some.injEq, r4, ai, m5, r1, a1, a2, d]
    · have hm : pxBk r (m + 1) a x = false := by
        show (decide (x < r.length ∧ pxE r a = pxE r x) && pxBk r m (a + 1) (x + 1)) = _
        rw [decide_eq_false (fun z => c z.1)]; rfl
      rw [hm, if_neg (show ¬ (false = true) by simp)]
      simp (disch := first | assumption | omega | (simp only [jw_t_I, px_cpt]; done) | (simp only [jw_t_I, px_cpt]; omega)) only [pxL0, pxL1, pxL2, pxL3, pxL4, pxL5, pxL6, pxL7, pxL8, pxL9, pxL10, pxL11, pxL12, pxL13, pxL14, pxL15, pxL16, pxL17, pxL18, pxL19, pxL20, pxL21, pxL22, pxL23, pxL24, pxL25, pxL26, pxL27, pxL28, pxL29, pxL30, pxL31, pxL32, pxL33, pxL34, pxL35, pxL36, pxL37, pxL38, pxL39, pxL40, pxL41, pxL42, pxL43, pxL44, pxL45, pxL46, pxL47, pxL48, pxL49, pxL51, pxL57, pxL58, pxL59, pxL60, pxL61, pxL62, pxL63, pxL64, pxL65, pxL66, pxL67, pxL68, pxL69, pxL70, pxL71, pxL72, pxL73, pxL74, pxL75, pxL76, pxL77, pxL78, pxL79, pxL80, pxL81, pxL82, pxL83, pxL84, pxL85, pxL86, pxL87, pxL88, pxL89, pxL90, pxL91, pxL92, pxL93, pxL94, pxL95, pxL96, pxL97, pxL98, pxL99, pxL100, pxL101, pxL102, pxL103, pxL104, pxL105, pxL106, pxL107, pxL108, pxL109, pxL110, pxL111, pxL112, pxL113, pxL114, pxL115, pxL116, pxL117, pxL118, pxL119, pxL120, pxL121, pxL122, pxL123, pxL124, pxL125, pxL126, pxL200, pxL240, pxL287, pxL388, pxL400, pxL429, pxL431, pxL440, pxL1240, pxL1600, pxL1681, pxL12028, pxL13849, pxL14880, pxL25173, pxL26908, pxL49600, pxL65535, pxL65536, ↓reduceIte, reduceCtorEq, pxJ_add, pxJ_sub, pxJ_mul, pxJ_neg, pxD_lt_t, pxD_lt_f, pxD_le_t, pxD_le_f, pxD_eq_t, pxD_eq_f, pxJ_lt, pxJ_le, pxJ_eq, px_gI, px_gR, px_pI, px_rc, px_ai, px_ar, px_si, px_ln, px_cp, pxJ_div, pxJ_b8, pxJ_byte, px_b2, px_bs, px_rb0, px_rb1, px_min, px_max, px_compare, pxW_some, jw_t_I, px_cpt, jw_r_I, px_cpr, jw_l_I, px_cpl, Option.some.injEq, r4, ai, m5]
end
