/-! orders: one is read, and where it is kept -/
def pxOz (h : jw_H) (i : Nat) : Prop := ∀ f, 10 ≤ f → f ≤ 13 → pxM h (12 + 4 * i) f = 0
/-- order i is the one that stands at p -/
def pxOd (h : jw_H) (s : List Int) (i : Nat) (p : Int) : Prop :=
  pxM h (12 + 4 * i) 4 = (pxWh s p).2.2.1 ∧ (2 ≤ (pxWh s p).2.2.1 → pxAd h s (13 + 4 * i) p) ∧ ((pxWh s p).2.2.1 = 3 → pxAd h s (14 + 4 * i) (pxWh s p).2.2.2) ∧ pxAk h s i (pxWh s p).2.1
theorem pxOd.fr {P : Nat → Nat → Prop} {h h' : jw_H} {s : List Int} {i : Nat} {p : Int} (H : pxOd h s i p) (F : pxF P h h') (h1 : ∀ k f, 12 + 4 * i ≤ k → k ≤ 15 + 4 * i → (k = 12 + 4 * i → 3 ≤ f ∧ f ≤ 8) → ¬ P k f) (he : ∀ (k f : Nat), (k = 252 ∨ k = 253) → f < pxM h 10 7 → ¬ P k f) (hl : pxM h 10 7 ≤ pxM h' 10 7) : pxOd h' s i p :=
  ⟨by rw [F.m (h1 _ _ (by omega) (by omega) (by omega))]; exact H.1, fun z => (H.2.1 z).fr F (fun f => h1 _ _ (by omega) (by omega) (by omega)) he hl, fun z => (H.2.2.1 z).fr F (fun f => h1 _ _ (by omega) (by omega) (by omega)) he hl, H.2.2.2.fr F (fun f _ _ => h1 _ _ (by omega) (by omega) (by omega)) (fun f => h1 _ _ (by omega) (by omega) (by omega)) he hl⟩
def pxIn (h : jw_H) (s : List Int) : Nat → List Int → Prop
  | _, [] => True
  | i, p :: r => pxOd h s i p ∧ pxM h (12 + 4 * i) 9 = i + 1 ∧ pxIn h s (i + 1) r
/-- what reading orders from i on may change -/
def pxQn (i : Nat) (e : Int) : Nat → Nat → Prop := fun k f => (k = 10 ∧ 5 ≤ f) ∨ ((k = 252 ∨ k = 253) ∧ e ≤ f) ∨ (12 + 4 * i ≤ k ∧ k ≤ 251 ∧ (k % 4 = 0 → 3 ≤ f))
theorem pxPG.fn {i : Nat} {e : Int} {h h' : jw_H} {b : Nat} {s : List Int} (G : pxPG h b s) (F : pxF (pxQn i e) h h') : pxPG h' b s := G.fr F (fun k f q => by unfold pxQn; omega)
theorem pxQo_n {i j : Nat} {e e' : Int} {h h' : jw_H} (F : pxF (pxQo i e) h h') (hi : i < 60) (hj : j ≤ i) (he : e' ≤ e) : pxF (pxQn j e') h h' := F.mono (fun k f q => by unfold pxQo at q; unfold pxQn; omega)
theorem pxQn_n {i j : Nat} {e e' : Int} {h h' : jw_H} (F : pxF (pxQn i e) h h') (hj : j ≤ i) (he : e' ≤ e) : pxF (pxQn j e') h h' := F.mono (fun k f q => by unfold pxQn at q ⊢; omega)
theorem pxIn.fr {P : Nat → Nat → Prop} {h h' : jw_H} {s : List Int} (F : pxF P h h') (he : ∀ (k f : Nat), (k = 252 ∨ k = 253) → f < pxM h 10 7 → ¬ P k f) (hl : pxM h 10 7 ≤ pxM h' 10 7) : ∀ (l : List Int) (i : Nat), pxIn h s i l → (∀ k f, 12 + 4 * i ≤ k → k < 12 + 4 * (i + l.length) → (k % 4 = 0 → 3 ≤ f ∧ f ≤ 9) → ¬ P k f) → pxIn h' s i l := by
  intro l
  induction l with
  | nil => intro i _ _; trivial
  | cons p r ih =>
    intro i H h1
    obtain ⟨a1, a2, a3⟩ := H
    simp only [List.length_cons] at h1
    exact ⟨a1.fr F (fun k f q1 q2 q3 => h1 _ _ (by omega) (by omega) (by omega)) he hl, by rw [F.m (h1 _ _ (by omega) (by omega) (by omega))]; exact a2, ih (i + 1) a3 (fun k f q1 q2 q3 => h1 k f (by omega) (by omega) q3)⟩
/-- an order is read -/
def pxRd (s : List Int) (p : Int) (ins : Bool) : Bool × Int := if (pxWh s p).1 = true then pxActG s (pxWh s p).2.1 ins (pxWh s p).2.2.1 else (false, (pxWh s p).2.1)
theorem pxRd_b {s : List Int} {p : Int} {ins : Bool} (h0 : 0 ≤ p) (h1 : p ≤ s.length) : p ≤ (pxRd s p ins).2 ∧ (pxRd s p ins).2 ≤ s.length ∧ ((pxRd s p ins).1 = true → p < (pxRd s p ins).2) := by
  have wb := pxWh_b (s := s) h0 h1
  unfold pxRd
  by_cases c : (pxWh s p).1 = true
  · rw [if_pos c]
    have ab := pxActG_b (s := s) (p := (pxWh s p).2.1) (w := (pxWh s p).2.2.1) (ins := ins) (by omega) (by omega)
    exact ⟨by omega, by omega, fun z => by have := ab.2.2 z; omega⟩
  · rw [if_neg c]; exact ⟨wb.1, wb.2.1, fun z => by cases z⟩
theorem pxRd_inn (s : List Int) (p : Int) : pxRd s p true = pxInn s p := by
  unfold pxRd pxInn
  by_cases c : (pxWh s p).1 = true
  · rw [if_pos c, if_pos c]
    generalize (pxWh s p).2.1 = q
    unfold pxActG
    simp only [true_and]
    by_cases d : pxSteer (pxP s q) = true
    · rw [if_pos d, if_pos (Or.inl (Or.inr (Or.inr (Or.inr d))))]
    · rw [if_neg d]
      by_cases e : pxP s q = 103 ∨ pxP s q = 71 ∨ pxP s q = 123
      · rw [if_pos (show (pxP s q = 103 ∨ pxP s q = 71 ∨ pxP s q = 123 ∨ pxSteer (pxP s q) = true) ∨ (pxP s q = 58 ∧ (pxWh s p).2.2.1 ≠ 0) by omega)]
        unfold pxAct
        rcases e with e | e | e <;> (rw [e]; rfl)
      · have n58 : ¬ pxP s q = 58 := fun z => d (pxSteer_i.mpr (Or.inl z))
        have nn : ¬ ((pxP s q = 103 ∨ pxP s q = 71 ∨ pxP s q = 123 ∨ pxSteer (pxP s q) = true) ∨ (pxP s q = 58 ∧ (pxWh s p).2.2.1 ≠ 0)) := by
          rintro ((z | z | z | z) | z)
          · omega
          · omega
          · omega
          · exact d z
          · omega
        rw [if_neg nn, if_neg (show ¬ pxP s q = 123 by omega), if_neg (show ¬ (pxP s q = 103 ∨ pxP s q = 71) by omega)]
  · rw [if_neg c, if_neg c]
section
variable {h : jw_H} {b : Nat} {s : List Int}
theorem s_X6_orderAt {n x : Int} (G : pxPS h) (hc : pxM h 10 6 = n) (n1 : n ≤ 60) (x1 : -2147483648 ≤ x) (x2 : x ≤ 2147483647) : f_X6_orderAt h 10 (pxJ x) = some (if 0 ≤ x ∧ x < n then some (12 + 4 * x.toNat) else none, h) := by
  obtain ⟨t0, q0, q1, q2, t11, t252, t253, ho⟩ := G
  have r1 := pxM_lo h 10 6
  unfold f_X6_orderAt g_X6_orderAt_b30 g_X6_orderAt_b31
  by_cases c : 0 ≤ x ∧ x < n
  · obtain ⟨a1, -⟩ := ho x.toNat (by omega)
    rw [if_pos c]
    have la : jw_ln h (some 11) = some (pxJ 60) := by rw [px_ln (by rw [t11]; simp), t11]; rfl
    have ar : jw_ar h 35 (some 11) (pxJ x) = some (some (12 + 4 * x.toNat)) := by rw [px_ar (by rw [t11]) (by omega) (by rw [t11]; simp; omega) (by omega), a1]
    simp (disch := first | assumption | omega | (simp only [jw_t_I, px_cpt, t0]; done) | (simp only [jw_t_I, px_cpt, t0]; omega)) only [pxL0, pxL1, pxL2, pxL3, pxL4, pxL5, pxL6, pxL7, pxL8, pxL9, pxL10, pxL11, pxL12, pxL13, pxL14, pxL15, pxL16, pxL17, pxL18, pxL19, pxL20, pxL21, pxL22, pxL23, pxL24, pxL25, pxL26, pxL27, pxL28, pxL29, pxL30, pxL31, pxL32, pxL33, pxL34, pxL35, pxL36, pxL37, pxL38, pxL39, pxL40, pxL41, pxL42, pxL43, pxL44, pxL45, pxL46, pxL47, pxL48, pxL49, pxL51, pxL57, pxL58, pxL59, pxL60, pxL61, pxL62, pxL63, pxL64, pxL65, pxL66, pxL67, pxL68, pxL69, pxL70, pxL71, pxL72, pxL73, pxL74, pxL75, pxL76, pxL77, pxL78, pxL79, pxL80, pxL81, pxL82, pxL83, pxL84, pxL85, pxL86, pxL87, pxL88, pxL89, pxL90, pxL91, pxL92, pxL93, pxL94, pxL95, pxL96, pxL97, pxL98, pxL99, pxL100, pxL101, pxL102, pxL103, pxL104, pxL105, pxL106, pxL107, pxL108, pxL109, pxL110, pxL111, pxL112, pxL113, pxL114, pxL115, pxL116, pxL117, pxL118, pxL119, pxL120, pxL121, pxL122, pxL123, pxL124, pxL125, pxL126, pxL200, pxL240, pxL287, pxL388, pxL400, pxL429, pxL431, pxL440, pxL1240, pxL1600, pxL1681, pxL12028, pxL13849, pxL14880, pxL25173, pxL26908, pxL49600, pxL65535, pxL65536, ↓reduceIte, reduceCtorEq, pxJ_add, pxJ_sub, pxJ_mul, pxJ_neg, pxD_lt_t, pxD_lt_f, pxD_le_t, pxD_le_f, pxD_eq_t, pxD_eq_f, pxJ_lt, pxJ_le, pxJ_eq, px_gI, px_gR, px_pI, px_rc, px_ai, px_ar, px_si, px_ln, px_cp, pxJ_div, pxJ_b8, pxJ_byte, px_b2, px_bs, px_rb0, px_rb1, px_min, px_max, px_compare, pxW_some, jw_t_I, px_cpt, jw_r_I, px_cpr, jw_l_I, px_cpl, Option.some.injEq, t0, hc, q0, la, ar]
  · rw [if_neg c]
    by_cases c2 : x < 0
    · simp (disch := first | assumption | omega | (simp only [jw_t_I, px_cpt, t0]; done) | (simp only [jw_t_I, px_cpt, t0]; omega)) only [pxL0, pxL1, pxL2, pxL3, pxL4, pxL5, pxL6, pxL7, pxL8, pxL9, pxL10, pxL11, pxL12, pxL13, pxL14, pxL15, pxL16, pxL17, pxL18, pxL19, pxL20, pxL21, pxL22, pxL23, pxL24, pxL25, pxL26, pxL27, pxL28, pxL29, pxL30, pxL31, pxL32, pxL33, pxL34, pxL35, pxL36, pxL37, pxL38, pxL39, pxL40, pxL41, pxL42, pxL43, pxL44, pxL45, pxL46, pxL47, pxL48, pxL49, pxL51, pxL57, pxL58, pxL59, pxL60, pxL61, pxL62, pxL63, pxL64, pxL65, pxL66, pxL67, pxL68, pxL69, pxL70, pxL71, pxL72, pxL73, pxL74, pxL75, pxL76, pxL77, pxL78, pxL79, pxL80, pxL81, pxL82, pxL83, pxL84, pxL85, pxL86, pxL87, pxL88, pxL89, pxL90, pxL91, pxL92, pxL93, pxL94, pxL95, pxL96, pxL97, pxL98, pxL99, pxL100, pxL101, pxL102, pxL103, pxL104, pxL105, pxL106, pxL107, pxL108, pxL109, pxL110, pxL111, pxL112, pxL113, pxL114, pxL115, pxL116, pxL117, pxL118, pxL119, pxL120, pxL121, pxL122, pxL123, pxL124, pxL125, pxL126, pxL200, pxL240, pxL287, pxL388, pxL400, pxL429, pxL431, pxL440, pxL1240, pxL1600, pxL1681, pxL12028, pxL13849, pxL14880, pxL25173, pxL26908, pxL49600, pxL65535, pxL65536, ↓reduceIte, reduceCtorEq, pxJ_add, pxJ_sub, pxJ_mul, pxJ_neg, pxD_lt_t, pxD_lt_f, pxD_le_t, pxD_le_f, pxD_eq_t, pxD_eq_f, pxJ_lt, pxJ_le, pxJ_eq, px_gI, px_gR, px_pI, px_rc, px_ai, px_ar, px_si, px_ln, px_cp, pxJ_div, pxJ_b8, pxJ_byte, px_b2, px_bs, px_rb0, px_rb1, px_min, px_max, px_compare, pxW_some, jw_t_I, px_cpt, jw_r_I, px_cpr, jw_l_I, px_cpl, Option.some.injEq, t0, hc]
    · simp (disch := first | assumption | omega | (simp only [jw_t_I, px_cpt, t0]; done) | (simp only [jw_t_I, px_cpt, t0]; omega)) only [pxL0, pxL1, pxL2, pxL3, pxL4, pxL5, pxL6, pxL7, pxL8, pxL9, pxL10, pxL11, pxL12, pxL13, pxL14, pxL15, pxL16, pxL17, pxL18, pxL19, pxL20, pxL21, pxL22, pxL23, pxL24, pxL25, pxL26, pxL27, pxL28, pxL29, pxL30, pxL31, pxL32, pxL33, pxL34, pxL35, pxL36, pxL37, pxL38, pxL39, pxL40, pxL41, pxL42, pxL43, pxL44, pxL45, pxL46, pxL47, pxL48, pxL49, pxL51, pxL57, pxL58, pxL59, pxL60, pxL61, pxL62, pxL63, pxL64, pxL65, pxL66, pxL67, pxL68, pxL69, pxL70, pxL71, pxL72, pxL73, pxL74, pxL75, pxL76, pxL77, pxL78, pxL79, pxL80, pxL81, pxL82, pxL83, pxL84, pxL85, pxL86, pxL87, pxL88, pxL89, pxL90, pxL91, pxL92, pxL93, pxL94, pxL95, pxL96, pxL97, pxL98, pxL99, pxL100, pxL101, pxL102, pxL103, pxL104, pxL105, pxL106, pxL107, pxL108, pxL109, pxL110, pxL111, pxL112, pxL113, pxL114, pxL115, pxL116, pxL117, pxL118, pxL119, pxL120, pxL121, pxL122, pxL123, pxL124, pxL125, pxL126, pxL200, pxL240, pxL287, pxL388, pxL400, pxL429, pxL431, pxL440, pxL1240, pxL1600, pxL1681, pxL12028, pxL13849, pxL14880, pxL25173, pxL26908, pxL49600, pxL65535, pxL65536, ↓reduceIte, reduceCtorEq, pxJ_add, pxJ_sub, pxJ_mul, pxJ_neg, pxD_lt_t, pxD_lt_f, pxD_le_t, pxD_le_f, pxD_eq_t, pxD_eq_f, pxJ_lt, pxJ_le, pxJ_eq, px_gI, px_gR, px_pI, px_rc, px_ai, px_ar, px_si, px_ln, px_cp, pxJ_div, pxJ_b8, pxJ_byte, px_b2, px_bs, px_rb0, px_rb1, px_min, px_max, px_compare, pxW_some, jw_t_I, px_cpt, jw_r_I, px_cpr, jw_l_I, px_cpl, Option.some.injEq, t0, hc]
theorem s_X6_readOrder {i : Nat} {p e : Int} {ins : Bool} (G : pxPG h b s) (hp : pxM h 10 5 = p) (he : pxM h 10 7 = e) (hc : pxM h 10 6 = i) (h0 : 0 ≤ p) (h1 : p ≤ s.length) (e0 : 0 ≤ e) (e1 : e ≤ 2 * p) (ip : i ≤ p) :
    ((pxRd s p ins).1 = true → ∃ h', f_X6_readOrder h 10 (pxJ (if ins = true then 1 else 0)) = some (pxJ 1, h') ∧ pxF (pxQn i e) h h' ∧ i < 60 ∧ pxM h' 10 5 = (pxRd s p ins).2 ∧ pxM h' 10 6 = i + 1 ∧ pxOd h' s i p ∧ pxOz h' i ∧ pxM h' (12 + 4 * i) 9 = i + 1 ∧ e ≤ pxM h' 10 7 ∧ pxM h' 10 7 ≤ 2 * (pxRd s p ins).2) ∧
    ((pxRd s p ins).1 = false → ∃ h', f_X6_readOrder h 10 (pxJ (if ins = true then 1 else 0)) = some (pxJ 0, h') ∧ pxF (pxQn i e) h h' ∧ pxM h' 10 5 = (pxRd s p ins).2) := by
  have tg := G.1.1
  have n60 := G.2.2.2.2.1.1
  have r0 := G.1.2.1
  have t11 := G.1.2.2.2.2.1
  have la : jw_ln h (some 11) = some (pxJ 60) := by rw [px_ln (by rw [t11]; simp), t11]; rfl
  by_cases hi : i < 60
  · obtain ⟨r1, t5, ra, rb, rc, t13, t14, t15⟩ := G.1.2.2.2.2.2.2.2 i hi
    have ar : jw_ar h 35 (some 11) (pxJ i) = some (some (12 + 4 * i)) := by rw [px_ar (by rw [t11]) (by omega) (by rw [t11]; simp; omega) (by omega), show ((i : Int)).toNat = i by omega, r1]
    obtain ⟨h1', k1, k2, k3, k4, k5, k6, k7⟩ := s_X5_clear hi G.1
    have F1 : pxF (pxQo i e) h h1' := k2.mono (fun k f z => by unfold pxQk at z; unfold pxQo; omega)
    have G1 := G.fo hi F1
    have tg1 := G1.1.1
    have hp1 : pxM h1' 10 5 = p := by rw [k2.m (by unfold pxQk; omega)]; exact hp
    have he1 : pxM h1' 10 7 = e := by rw [k2.m (by unfold pxQk; omega)]; exact he
    have hc1 : pxM h1' 10 6 = i := by rw [k2.m (by unfold pxQk; omega)]; exact hc
    obtain ⟨y1, y2⟩ := s_X6_readWhere hi G1 hp1 he1 h0 h1 e0 e1 k6 k3 k4
    have wb := pxWh_b (s := s) h0 h1
    unfold f_X6_readOrder
    by_cases cw : (pxWh s p).1 = true
    · obtain ⟨h2, w1, w2, w3, w4, w5, w6, w7, w8, w9, w10⟩ := y1 cw
      have er : pxRd s p ins = pxActG s (pxWh s p).2.1 ins (pxWh s p).2.2.1 := by unfold pxRd; rw [if_pos cw]
      have F2 : pxF (pxQo i e) h h2 := F1.trans w2
      have G2 := G.fo hi F2
      have tg2 := G2.1.1
      obtain ⟨z1, z2⟩ := s_X6_readAct (ins := ins) hi G2 w3 rfl (by omega) (by omega) (by omega) w8 w4 (by omega) (by omega) (fun f f1 f2 => by rw [w10]; exact k5 f f1 f2)
      rw [er]
      refine ⟨fun z => ?_, fun z => ?_⟩
      · obtain ⟨h3, v1, v2, v3, v4, v5, v6⟩ := z1 z
        have F3 : pxF (pxQo i e) h h3 := F2.trans (v2.mono (fun k f z => by unfold pxQt at z; unfold pxQo; omega))
        have G3 := G.fo hi F3
        have tg3 := G3.1.1
        obtain ⟨-, u5, -⟩ := G3.1.2.2.2.2.2.2.2 i hi
        have hc3 : pxM h3 10 6 = i := by rw [F3.m (by unfold pxQo; omega)]; exact hc
        have u5' : (jw_t (jw_setI h3 10 6 (pxJ (i + 1))) (12 + 4 * i)).1 = 5 := u5
        have bk : pxM (jw_setI h3 10 6 (pxJ (i + 1))) 10 6 = i + 1 := pxM_eq (by omega) (by omega)
        have Fz : pxF (fun k f => (k = 10 ∧ f = 6) ∨ (k = 12 + 4 * i ∧ f = 9)) h3 (jw_setI (jw_setI h3 10 6 (pxJ (i + 1))) (12 + 4 * i) 9 (pxJ (i + 1))) := (pxF.setI (by omega)).trans (pxF.setI (by omega))
        refine ⟨jw_setI (jw_setI h3 10 6 (pxJ (i + 1))) (12 + 4 * i) 9 (pxJ (i + 1)), ?_, ?_, hi, ?_, ?_, ⟨?_, fun q => ?_, fun q => ?_, ?_⟩, fun f f1 f2 => ?_, pxM_eq (by omega) (by omega), ?_, ?_⟩
        · simp (disch := first | assumption | omega | (simp only [jw_t_I, px_cpt]; done) | (simp only [jw_t_I, px_cpt]; omega)) only [pxL0, pxL1, pxL2, pxL3, pxL4, pxL5, pxL6, pxL7, pxL8, pxL9, pxL10, pxL11, pxL12, pxL13, pxL14, pxL15, pxL16, pxL17, pxL18, pxL19, pxL20, pxL21, pxL22, pxL23, pxL24, pxL25, pxL26, pxL27, pxL28, pxL29, pxL30, pxL31, pxL32, pxL33, pxL34, pxL35, pxL36, pxL37, pxL38, pxL39, pxL40, pxL41, pxL42, pxL43, pxL44, pxL45, pxL46, pxL47, pxL48, pxL49, pxL51, pxL57, pxL58, pxL59, pxL60, pxL61, pxL62, pxL63, pxL64, pxL65, pxL66, pxL67, pxL68, pxL69, pxL70, pxL71, pxL72, pxL73, pxL74, pxL75, pxL76, pxL77, pxL78, pxL79, pxL80, pxL81, pxL82, pxL83, pxL84, pxL85, pxL86, pxL87, pxL88, pxL89, pxL90, pxL91, pxL92, pxL93, pxL94, pxL95, pxL96, pxL97, pxL98, pxL99, pxL100, pxL101, pxL102, pxL103, pxL104, pxL105, pxL106, pxL107, pxL108, pxL109, pxL110, pxL111, pxL112, pxL113, pxL114, pxL115, pxL116, pxL117, pxL118, pxL119, pxL120, pxL121, pxL122, pxL123, pxL124, pxL125, pxL126, pxL200, pxL240, pxL287, pxL388, pxL400, pxL429, pxL431, pxL440, pxL1240, pxL1600, pxL1681, pxL12028, pxL13849, pxL14880, pxL25173, pxL26908, pxL49600, pxL65535, pxL65536, ↓reduceIte, reduceCtorEq, pxJ_add, pxJ_sub, pxJ_mul, pxJ_neg, pxD_lt_t, pxD_lt_f, pxD_le_t, pxD_le_f, pxD_eq_t, pxD_eq_f, pxJ_lt, pxJ_le, pxJ_eq, px_gI, px_gR, px_pI, px_rc, px_ai, px_ar, px_si, px_ln, px_cp, pxJ_div, pxJ_b8, pxJ_byte, px_b2, px_bs, px_rb0, px_rb1, px_min, px_max, px_compare, pxW_some, jw_t_I, px_cpt, jw_r_I, px_cpr, jw_l_I, px_cpl, Option.some.injEq, hc, r0, la, ar, k1, w1, v1, hc3, bk]
        · exact (pxQo_n F3 hi (Nat.le_refl _) (Int.le_refl _)).trans (Fz.mono (fun k f z => by unfold pxQn; omega))
        · rw [Fz.m (by omega)]; exact v3
        · rw [pxM_ne (by omega)]; exact bk
        · rw [Fz.m (by omega), v2.m (by unfold pxQt; omega)]; exact w4
        · refine ((w5 q).fr v2 (fun f => by unfold pxQt; omega) (fun k f q1 q2 => by unfold pxQt; omega) v5).fr Fz (fun f => by omega) (fun k f q1 q2 => by omega) ?_
          rw [Fz.m (by omega)]; exact Int.le_refl _
        · refine ((w6 q).fr v2 (fun f => by unfold pxQt; omega) (fun k f q1 q2 => by unfold pxQt; omega) v5).fr Fz (fun f => by omega) (fun k f q1 q2 => by omega) ?_
          rw [Fz.m (by omega)]; exact Int.le_refl _
        · refine v4.fr Fz (fun f f1 f2 => by omega) (fun f => by omega) (fun k f q1 q2 => by omega) ?_
          rw [Fz.m (by omega)]; exact Int.le_refl _
        · rw [Fz.m (by omega), v2.m (by unfold pxQt; omega), w9 f (by omega)]; exact k7 f f1 f2
        · rw [Fz.m (by omega)]; omega
        · rw [Fz.m (by omega)]; exact v6
      · obtain ⟨h3, v1, v2, v3⟩ := z2 z
        refine ⟨h3, ?_, pxQo_n (F2.trans (v2.mono (fun k f z => by unfold pxQt at z; unfold pxQo; omega))) hi (Nat.le_refl _) (Int.le_refl _), v3⟩
        simp (disch := first | assumption | omega | (simp only [jw_t_I, px_cpt]; done) | (simp only [jw_t_I, px_cpt]; omega)) only [pxL0, pxL1, pxL2, pxL3, pxL4, pxL5, pxL6, pxL7, pxL8, pxL9, pxL10, pxL11, pxL12, pxL13, pxL14, pxL15, pxL16, pxL17, pxL18, pxL19, pxL20, pxL21, pxL22, pxL23, pxL24, pxL25, pxL26, pxL27, pxL28, pxL29, pxL30, pxL31, pxL32, pxL33, pxL34, pxL35, pxL36, pxL37, pxL38, pxL39, pxL40, pxL41, pxL42, pxL43, pxL44, pxL45, pxL46, pxL47, pxL48, pxL49, pxL51, pxL57, pxL58, pxL59, pxL60, pxL61, pxL62, pxL63, pxL64, pxL65, pxL66, pxL67, pxL68, pxL69, pxL70, pxL71, pxL72, pxL73, pxL74, pxL75, pxL76, pxL77, pxL78, pxL79, pxL80, pxL81, pxL82, pxL83, pxL84, pxL85, pxL86, pxL87, pxL88, pxL89, pxL90, pxL91, pxL92, pxL93, pxL94, pxL95, pxL96, pxL97, pxL98, pxL99, pxL100, pxL101, pxL102, pxL103, pxL104, pxL105, pxL106, pxL107, pxL108, pxL109, pxL110, pxL111, pxL112, pxL113, pxL114, pxL115, pxL116, pxL117, pxL118, pxL119, pxL120, pxL121, pxL122, pxL123, pxL124, pxL125, pxL126, pxL200, pxL240, pxL287, pxL388, pxL400, pxL429, pxL431, pxL440, pxL1240, pxL1600, pxL1681, pxL12028, pxL13849, pxL14880, pxL25173, pxL26908, pxL49600, pxL65535, pxL65536, ↓reduceIte, reduceCtorEq, pxJ_add, pxJ_sub, pxJ_mul, pxJ_neg, pxD_lt_t, pxD_lt_f, pxD_le_t, pxD_le_f, pxD_eq_t, pxD_eq_f, pxJ_lt, pxJ_le, pxJ_eq, px_gI, px_gR, px_pI, px_rc, px_ai, px_ar, px_si, px_ln, px_cp, pxJ_div, pxJ_b8, pxJ_byte, px_b2, px_bs, px_rb0, px_rb1, px_min, px_max, px_compare, pxW_some, jw_t_I, px_cpt, jw_r_I, px_cpr, jw_l_I, px_cpl, Option.some.injEq, hc, r0, la, ar, k1, w1, v1]
    · obtain ⟨h2, w1, w2, w3⟩ := y2 (by simpa using cw)
      have er : pxRd s p ins = (false, (pxWh s p).2.1) := by unfold pxRd; rw [if_neg cw]
      rw [er]
      refine ⟨fun z => (by cases z), fun _ => ⟨h2, ?_, pxQo_n (F1.trans w2) hi (Nat.le_refl _) (Int.le_refl _), w3⟩⟩
      simp (disch := first | assumption | omega | (simp only [jw_t_I, px_cpt]; done) | (simp only [jw_t_I, px_cpt]; omega)) only [pxL0, pxL1, pxL2, pxL3, pxL4, pxL5, pxL6, pxL7, pxL8, pxL9, pxL10, pxL11, pxL12, pxL13, pxL14, pxL15, pxL16, pxL17, pxL18, pxL19, pxL20, pxL21, pxL22, pxL23, pxL24, pxL25, pxL26, pxL27, pxL28, pxL29, pxL30, pxL31, pxL32, pxL33, pxL34, pxL35, pxL36, pxL37, pxL38, pxL39, pxL40, pxL41, pxL42, pxL43, pxL44, pxL45, pxL46, pxL47, pxL48, pxL49, pxL51, pxL57, pxL58, pxL59, pxL60, pxL61, pxL62, pxL63, pxL64, pxL65, pxL66, pxL67, pxL68, pxL69, pxL70, pxL71, pxL72, pxL73, pxL74, pxL75, pxL76, pxL77, pxL78, pxL79, pxL80, pxL81, pxL82, pxL83, pxL84, pxL85, pxL86, pxL87, pxL88, pxL89, pxL90, pxL91, pxL92, pxL93, pxL94, pxL95, pxL96, pxL97, pxL98, pxL99, pxL100, pxL101, pxL102, pxL103, pxL104, pxL105, pxL106, pxL107, pxL108, pxL109, pxL110, pxL111, pxL112, pxL113, pxL114, pxL115, pxL116, pxL117, pxL118, pxL119, pxL120, pxL121, pxL122, pxL123, pxL124, pxL125, pxL126, pxL200, pxL240, pxL287, pxL388, pxL400, pxL429, pxL431, pxL440, pxL1240, pxL1600, pxL1681, pxL12028, pxL13849, pxL14880, pxL25173, pxL26908, pxL49600, pxL65535, pxL65536, ↓reduceIte, reduceCtorEq, pxJ_add, pxJ_sub, pxJ_mul, pxJ_neg, pxD_lt_t, pxD_lt_f, pxD_le_t, pxD_le_f, pxD_eq_t, pxD_eq_f, pxJ_lt, pxJ_le, pxJ_eq, px_gI, px_gR, px_pI, px_rc, px_ai, px_ar, px_si, px_ln, px_cp, pxJ_div, pxJ_b8, pxJ_byte, px_b2, px_bs, px_rb0, px_rb1, px_min, px_max, px_compare, pxW_some, jw_t_I, px_cpt, jw_r_I, px_cpr, jw_l_I, px_cpl, Option.some.injEq, hc, r0, la, ar, k1, w1]
  · have ei : (i : Int) = 60 := by omega
    have ep : p = 60 := by omega
    have el : pxP s p = -1 := by unfold pxP; rw [if_neg (by omega)]
    have ew : pxWh s p = (true, p, 0, 0) := by
      unfold pxWh
      rw [el]
      rfl
    have er : pxRd s p ins = (false, p) := by
      unfold pxRd
      rw [ew, if_pos (by trivial)]
      unfold pxActG
      show (if (ins = true ∧ (pxP s p = 103 ∨ pxP s p = 71 ∨ pxP s p = 123 ∨ pxSteer (pxP s p) = true)) ∨ (pxP s p = 58 ∧ (0 : Int) ≠ 0) then (false, p)
  else if pxP s p = 123 then (true, p + 1)
  else if pxP s p = 103 ∨ pxP s p = 71 then pxPtn s (p + 1)
  else pxAct s p) = (false, p)
      unfold pxAct
      rw [el]
      have ns : ¬ pxSteer (-1) = true := by rw [pxSteer_i]; omega
      rw [if_neg (by rintro (⟨-, z | z | z | z⟩ | z); · omega
                     · omega
                     · omega
                     · exact ns z
                     · omega)]
      rfl
    rw [er]
    refine ⟨fun z => (by cases z), fun _ => ⟨h, ?_, pxF.rfl, hp⟩⟩
    unfold f_X6_readOrder
    simp (disch := first | assumption | omega | (simp only [jw_t_I, px_cpt]; done) | (simp only [jw_t_I, px_cpt]; omega)) only [pxL0, pxL1, pxL2, pxL3, pxL4, pxL5, pxL6, pxL7, pxL8, pxL9, pxL10, pxL11, pxL12, pxL13, pxL14, pxL15, pxL16, pxL17, pxL18, pxL19, pxL20, pxL21, pxL22, pxL23, pxL24, pxL25, pxL26, pxL27, pxL28, pxL29, pxL30, pxL31, pxL32, pxL33, pxL34, pxL35, pxL36, pxL37, pxL38, pxL39, pxL40, pxL41, pxL42, pxL43, pxL44, pxL45, pxL46, pxL47, pxL48, pxL49, pxL51, pxL57, pxL58, pxL59, pxL60, pxL61, pxL62, pxL63, pxL64, pxL65, pxL66, pxL67, pxL68, pxL69, pxL70, pxL71, pxL72, pxL73, pxL74, pxL75, pxL76, pxL77, pxL78, pxL79, pxL80, pxL81, pxL82, pxL83, pxL84, pxL85, pxL86, pxL87, pxL88, pxL89, pxL90, pxL91, pxL92, pxL93, pxL94, pxL95, pxL96, pxL97, pxL98, pxL99, pxL100, pxL101, pxL102, pxL103, pxL104, pxL105, pxL106, pxL107, pxL108, pxL109, pxL110, pxL111, pxL112, pxL113, pxL114, pxL115, pxL116, pxL117, pxL118, pxL119, pxL120, pxL121, pxL122, pxL123, pxL124, pxL125, pxL126, pxL200, pxL240, pxL287, pxL388, pxL400, pxL429, pxL431, pxL440, pxL1240, pxL1600, pxL1681, pxL12028, pxL13849, pxL14880, pxL25173, pxL26908, pxL49600, pxL65535, pxL65536, ↓reduceIte, reduceCtorEq, pxJ_add, pxJ_sub, pxJ_mul, pxJ_neg, pxD_lt_t, pxD_lt_f, pxD_le_t, pxD_le_f, pxD_eq_t, pxD_eq_f, pxJ_lt, pxJ_le, pxJ_eq, px_gI, px_gR, px_pI, px_rc, px_ai, px_ar, px_si, px_ln, px_cp, pxJ_div, pxJ_b8, pxJ_byte, px_b2, px_bs, px_rb0, px_rb1, px_min, px_max, px_compare, pxW_some, jw_t_I, px_cpt, jw_r_I, px_cpr, jw_l_I, px_cpl, Option.some.injEq, hc, r0, la, ei]
end
