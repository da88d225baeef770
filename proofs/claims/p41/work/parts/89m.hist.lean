/-! deeds that can be taken back -/
theorem px_floorMod {h : jw_H} {a : Int} (a0 : 0 ≤ a) (a1 : a ≤ 100) : f_J9_floorMod_7cf53 h (pxJ a) (pxJ 41) = some (pxJ (a % 41), h) := by
  have e1 : ∀ k : Fin 101, (0 ≤ (pxJ (k.val : Int) ^^^ pxJ 41)) = True := by decide +kernel
  have e2 := e1 ⟨a.toNat, by omega⟩
  rw [show (((⟨a.toNat, by omega⟩ : Fin 101).val : Nat) : Int) = a by simp; omega] at e2
  have nz : jw_nz (pxJ 41) = some () := by rfl
  have e3 : a - a / 41 * 41 = a % 41 := by omega
  unfold f_J9_floorMod_7cf53
  rw [show (0 : Int32) = pxJ 0 from rfl] at e2 ⊢
  simp only [nz, px_bs, e2, ↓reduceIte]
  rw [pxJ_div a0 (by omega) (by omega) (by omega), pxJ_mul, pxJ_sub, e3]
abbrev pxSn := pxLs × (Int → Int) × Int
def pxSnap (T : pxTx) : pxSn := (T.1, T.2.1, T.2.2.1)
/-- the place of a deed in the ring -/
def pxSlt (B d : Int) : Nat := ((B + d) % 41).toNat
theorem pxSlt_b {B d : Int} : pxSlt B d < 41 := by unfold pxSlt; omega
theorem pxSlt_ne {B d e : Int} (B0 : 0 ≤ B) (d0 : 0 ≤ d) (de : d < e) (e1 : e ≤ 40) : pxSlt B d ≠ pxSlt B e := by unfold pxSlt; omega
def pxHsh (h : jw_H) : Prop := (jw_t h 282).1 = 3 ∧ jw_r h 282 0 = some 283 ∧ jw_r h 282 1 = some 284 ∧ jw_t h 283 = (39, 41) ∧ jw_t h 284 = (20, 41) ∧ ∀ j : Nat, j < 41 → jw_r h 283 j = some (285 + 6 * j) ∧ pxSX h (285 + 6 * j)
def pxHD (h : jw_H) (B : Int) (D : List (Int × pxSn)) : Prop := pxHsh h ∧ 0 ≤ B ∧ B < 41 ∧ pxM h 282 2 = B ∧ pxM h 282 3 = D.length ∧ D.length ≤ 40 ∧ ∀ (d : Nat) (x : Int × pxSn), D[d]? = some x → pxM h 284 (pxSlt B d) = x.1 ∧ ∃ nx, pxIT h (285 + 6 * pxSlt B d) x.2.1 x.2.2.1 x.2.2.2 nx
/-- the deeds that are kept -/
def pxHI (h : jw_H) (D : List (Int × pxSn)) : Prop := ∃ B, pxHD h B D
/-- the same, and a text is noted -/
def pxHN (h : jw_H) (D : List (Int × pxSn)) (T : pxTx) : Prop := ∃ B, pxHD h B D ∧ (∃ nx, pxIT h (285 + 6 * pxSlt B D.length) T.1 T.2.1 T.2.2.1 nx) ∧ pxM h 282 4 = T.2.2.2
theorem pxHsh.fr {P : Nat → Nat → Prop} {h h' : jw_H} (H : pxHsh h) (F : pxF P h h') (hP : ∀ k f, (k = 282 ∧ f < 2) ∨ k = 283 ∨ (285 ≤ k ∧ k ≤ 530) → ¬ P k f) : pxHsh h' := by
  obtain ⟨a1, a2, a3, a4, a5, a6⟩ := H
  exact ⟨by rw [F.t]; exact a1, by rw [F.r (hP _ _ (by omega))]; exact a2, by rw [F.r (hP _ _ (by omega))]; exact a3, by rw [F.t]; exact a4, by rw [F.t]; exact a5, fun j hj => ⟨by rw [F.r (hP _ _ (by omega))]; exact (a6 j hj).1, (a6 j hj).2.fr F (fun k f _ _ => hP _ _ (by omega))⟩⟩
theorem pxHD.fr {P : Nat → Nat → Prop} {h h' : jw_H} {B : Int} {D : List (Int × pxSn)} (H : pxHD h B D) (F : pxF P h h') (hP : ∀ k f, (282 ≤ k ∧ k ≤ 530 ∧ (k = 282 → f < 4)) → ¬ P k f) : pxHD h' B D := by
  obtain ⟨a1, a2, a3, a4, a5, a6, a7⟩ := H
  refine ⟨a1.fr F (fun k f z => hP k f (by omega)), a2, a3, by rw [F.m (hP _ _ (by omega))]; exact a4, by rw [F.m (hP _ _ (by omega))]; exact a5, a6, fun d x hx => ?_⟩
  obtain ⟨b1, nx, b2⟩ := a7 d x hx
  have sb := pxSlt_b (B := B) (d := d)
  exact ⟨by rw [F.m (hP _ _ (by omega))]; exact b1, nx, b2.fr F (fun k f _ _ => hP _ _ (by omega))⟩
theorem pxHI.fr {P : Nat → Nat → Prop} {h h' : jw_H} {D : List (Int × pxSn)} (H : pxHI h D) (F : pxF P h h') (hP : ∀ k f, (282 ≤ k ∧ k ≤ 530) → ¬ P k f) : pxHI h' D := by
  obtain ⟨B, H⟩ := H
  exact ⟨B, H.fr F (fun k f z => hP k f (by omega))⟩
theorem pxHN.fr {P : Nat → Nat → Prop} {h h' : jw_H} {D : List (Int × pxSn)} {T : pxTx} (H : pxHN h D T) (F : pxF P h h') (hP : ∀ k f, (282 ≤ k ∧ k ≤ 530) → ¬ P k f) : pxHN h' D T := by
  obtain ⟨B, H, ⟨nx, I⟩, m⟩ := H
  have sb := pxSlt_b (B := B) (d := D.length)
  exact ⟨B, H.fr F (fun k f z => hP k f (by omega)), ⟨nx, I.fr F (fun k f _ _ => hP _ _ (by omega))⟩, by rw [F.m (hP _ _ (by omega))]; exact m⟩
def pxPush (D : List (Int × pxSn)) (a : Int × pxSn) : List (Int × pxSn) := if D.length < 40 then D ++ [a] else D.tail ++ [a]
section
variable {h : jw_H} {D : List (Int × pxSn)} {T : pxTx}
theorem s_X3_slotOf {B d : Int} (t3 : (jw_t h 282).1 = 3) (m2 : pxM h 282 2 = B) (B0 : 0 ≤ B) (B1 : B < 41) (d0 : 0 ≤ d) (d1 : d ≤ 41) : f_X3_slotOf h 282 (pxJ d) = some (pxJ (pxSlt B d : Int), h) := by
  have fm := px_floorMod (h := h) (a := B + d) (by omega) (by omega)
  have e : (B + d) % 41 = (pxSlt B d : Int) := by unfold pxSlt; omega
  rw [e] at fm
  unfold f_X3_slotOf
  simp (maxSteps := 4000000) (disch := first | assumption | omega | (simp only [jw_t_I, px_cpt]; done) | (simp only [jw_t_I, px_cpt]; omega)) only [pxL0, pxL1, pxL2, pxL3, pxL4, pxL5, pxL6, pxL7, pxL8, pxL9, pxL10, pxL11, pxL12, pxL13, pxL14, pxL15, pxL16, pxL17, pxL18, pxL19, pxL20, pxL21, pxL22, pxL23, pxL24, pxL25, pxL26, pxL27, pxL28, pxL29, pxL30, pxL31, pxL32, pxL33, pxL34, pxL35, pxL36, pxL37, pxL38, pxL39, pxL40, pxL41, pxL42, pxL43, pxL44, pxL45, pxL46, pxL47, pxL48, pxL49, pxL51, pxL57, pxL58, pxL59, pxL60, pxL61, pxL62, pxL63, pxL64, pxL65, pxL66, pxL67, pxL68, pxL69, pxL70, pxL71, pxL72, pxL73, pxL74, pxL75, pxL76, pxL77, pxL78, pxL79, pxL80, pxL81, pxL82, pxL83, pxL84, pxL85, pxL86, pxL87, pxL88, pxL89, pxL90, pxL91, pxL92, pxL93, pxL94, pxL95, pxL96, pxL97, pxL98, pxL99, pxL100, pxL101, pxL102, pxL103, pxL104, pxL105, pxL106, pxL107, pxL108, pxL109, pxL110, pxL111, pxL112, pxL113, pxL114, pxL115, pxL116, pxL117, pxL118, pxL119, pxL120, pxL121, pxL122, pxL123, pxL124, pxL125, pxL126, pxL200, pxL240, pxL287, pxL388, pxL400, pxL429, pxL431, pxL440, pxL1240, pxL1600, pxL1681, pxL12028, pxL13849, pxL14880, pxL25173, pxL26908, pxL49600, pxL65535, pxL65536, ↓reduceIte, reduceCtorEq, pxJ_add, pxJ_sub, pxJ_mul, pxJ_neg, pxD_lt_t, pxD_lt_f, pxD_le_t, pxD_le_f, pxD_eq_t, pxD_eq_f, pxJ_lt, pxJ_le, pxJ_eq, px_gI, px_gR, px_pI, px_rc, px_ai, px_ar, px_si, px_ln, px_cp, pxJ_div, pxJ_b8, pxJ_byte, px_b2, px_bs, px_rb0, px_rb1, px_min, px_max, px_compare, pxW_some, jw_t_I, px_cpt, jw_r_I, px_cpr, jw_l_I, px_cpl, Option.some.injEq, m2, fm]
theorem s_X3_slot {B d : Int} (S : pxHsh h) (m2 : pxM h 282 2 = B) (B0 : 0 ≤ B) (B1 : B < 41) (d0 : 0 ≤ d) (d1 : d ≤ 41) : f_X3_slot h 282 (pxJ d) = some (some (285 + 6 * pxSlt B d), h) := by
  obtain ⟨t3, r0, r1, t283, t284, ob⟩ := S
  have so := s_X3_slotOf t3 m2 B0 B1 d0 d1
  have sb := pxSlt_b (B := B) (d := d)
  obtain ⟨rj, -⟩ := ob (pxSlt B d) sb
  have ln : jw_ln h (some 283) = some (pxJ 41) := by rw [px_ln (by rw [t283]; simp), t283]; rfl
  have ar : jw_ar h 39 (some 283) (pxJ (pxSlt B d : Int)) = some (some (285 + 6 * pxSlt B d)) := by rw [px_ar (by rw [t283]) (by omega) (by rw [t283]; show (pxSlt B d : Int) < ((41 : Nat) : Int); omega) (by omega), show ((pxSlt B d : Int)).toNat = pxSlt B d by omega, rj]
  unfold f_X3_slot g_X3_slot_b28 g_X3_slot_b29
  simp (maxSteps := 4000000) (disch := first | assumption | omega | (simp only [jw_t_I, px_cpt]; done) | (simp only [jw_t_I, px_cpt]; omega)) only [pxL0, pxL1, pxL2, pxL3, pxL4, pxL5, pxL6, pxL7, pxL8, pxL9, pxL10, pxL11, pxL12, pxL13, pxL14, pxL15, pxL16, pxL17, pxL18, pxL19, pxL20, pxL21, pxL22, pxL23, pxL24, pxL25, pxL26, pxL27, pxL28, pxL29, pxL30, pxL31, pxL32, pxL33, pxL34, pxL35, pxL36, pxL37, pxL38, pxL39, pxL40, pxL41, pxL42, pxL43, pxL44, pxL45, pxL46, pxL47, pxL48, pxL49, pxL51, pxL57, pxL58, pxL59, pxL60, pxL61, pxL62, pxL63, pxL64, pxL65, pxL66, pxL67, pxL68, pxL69, pxL70, pxL71, pxL72, pxL73, pxL74, pxL75, pxL76, pxL77, pxL78, pxL79, pxL80, pxL81, pxL82, pxL83, pxL84, pxL85, pxL86, pxL87, pxL88, pxL89, pxL90, pxL91, pxL92, pxL93, pxL94, pxL95, pxL96, pxL97, pxL98, pxL99, pxL100, pxL101, pxL102, pxL103, pxL104, pxL105, pxL106, pxL107, pxL108, pxL109, pxL110, pxL111, pxL112, pxL113, pxL114, pxL115, pxL116, pxL117, pxL118, pxL119, pxL120, pxL121, pxL122, pxL123, pxL124, pxL125, pxL126, pxL200, pxL240, pxL287, pxL388, pxL400, pxL429, pxL431, pxL440, pxL1240, pxL1600, pxL1681, pxL12028, pxL13849, pxL14880, pxL25173, pxL26908, pxL49600, pxL65535, pxL65536, ↓reduceIte, reduceCtorEq, pxJ_add, pxJ_sub, pxJ_mul, pxJ_neg, pxD_lt_t, pxD_lt_f, pxD_le_t, pxD_le_f, pxD_eq_t, pxD_eq_f, pxJ_lt, pxJ_le, pxJ_eq, px_gI, px_gR, px_pI, px_rc, px_ai, px_ar, px_si, px_ln, px_cp, pxJ_div, pxJ_b8, pxJ_byte, px_b2, px_bs, px_rb0, px_rb1, px_min, px_max, px_compare, pxW_some, jw_t_I, px_cpt, jw_r_I, px_cpr, jw_l_I, px_cpl, Option.some.injEq, so, r0, ln, ar]
theorem s_X3_note (H : pxHI h D) (I : pxIX h T) : pxW (f_X3_note h 282 (some 255)) fun _ h' => pxF (fun k f => 282 ≤ k ∧ k ≤ 530 ∧ (k = 282 → f = 4)) h h' ∧ pxHN h' D T := by
  obtain ⟨B, S, B0, B1, m2, m3, D40, dd⟩ := H
  have S' := S
  obtain ⟨t3, r0, r1, t283, t284, ob⟩ := S'
  have sl := s_X3_slot (d := D.length) S m2 B0 B1 (by omega) (by omega)
  have sb := pxSlt_b (B := B) (d := D.length)
  have X := (ob _ sb).2
  have tx := X.1.1
  have nr := pxIT.nxr I
  unfold f_X3_note g_X3_note_b18
  simp (maxSteps := 4000000) (disch := first | assumption | omega | (simp only [jw_t_I, px_cpt]; done) | (simp only [jw_t_I, px_cpt]; omega)) only [pxL0, pxL1, pxL2, pxL3, pxL4, pxL5, pxL6, pxL7, pxL8, pxL9, pxL10, pxL11, pxL12, pxL13, pxL14, pxL15, pxL16, pxL17, pxL18, pxL19, pxL20, pxL21, pxL22, pxL23, pxL24, pxL25, pxL26, pxL27, pxL28, pxL29, pxL30, pxL31, pxL32, pxL33, pxL34, pxL35, pxL36, pxL37, pxL38, pxL39, pxL40, pxL41, pxL42, pxL43, pxL44, pxL45, pxL46, pxL47, pxL48, pxL49, pxL51, pxL57, pxL58, pxL59, pxL60, pxL61, pxL62, pxL63, pxL64, pxL65, pxL66, pxL67, pxL68, pxL69, pxL70, pxL71, pxL72, pxL73, pxL74, pxL75, pxL76, pxL77, pxL78, pxL79, pxL80, pxL81, pxL82, pxL83, pxL84, pxL85, pxL86, pxL87, pxL88, pxL89, pxL90, pxL91, pxL92, pxL93, pxL94, pxL95, pxL96, pxL97, pxL98, pxL99, pxL100, pxL101, pxL102, pxL103, pxL104, pxL105, pxL106, pxL107, pxL108, pxL109, pxL110, pxL111, pxL112, pxL113, pxL114, pxL115, pxL116, pxL117, pxL118, pxL119, pxL120, pxL121, pxL122, pxL123, pxL124, pxL125, pxL126, pxL200, pxL240, pxL287, pxL388, pxL400, pxL429, pxL431, pxL440, pxL1240, pxL1600, pxL1681, pxL12028, pxL13849, pxL14880, pxL25173, pxL26908, pxL49600, pxL65535, pxL65536, ↓reduceIte, reduceCtorEq, pxJ_add, pxJ_sub, pxJ_mul, pxJ_neg, pxD_lt_t, pxD_lt_f, pxD_le_t, pxD_le_f, pxD_eq_t, pxD_eq_f, pxJ_lt, pxJ_le, pxJ_eq, px_gI, px_gR, px_pI, px_rc, px_ai, px_ar, px_si, px_ln, px_cp, pxJ_div, pxJ_b8, pxJ_byte, px_b2, px_bs, px_rb0, px_rb1, px_min, px_max, px_compare, pxW_some, jw_t_I, px_cpt, jw_r_I, px_cpr, jw_l_I, px_cpl, Option.some.injEq, m3, sl]
  refine pxW_b2 (s_X9_copy X I (by omega)) fun _ h1 k => ?_
  obtain ⟨F1, I1⟩ := k
  have I1' : pxIX h1 T := pxIT.fr I F1 (fun k f _ _ => by unfold pxC; omega)
  have t91 := I1'.1.1
  have m4 : pxM h1 255 4 = T.2.2.2 := I1'.2.2.2.2.2
  have t31 : (jw_t h1 282).1 = 3 := by rw [F1.t]; exact t3
  have F2 : pxF (fun k f => k = 282 ∧ f = 4) h1 (jw_setI h1 282 4 (pxJ T.2.2.2)) := pxF.setI ⟨rfl, rfl⟩
  have F12 : pxF (fun k f => pxC (285 + 6 * pxSlt B D.length) (285 + 6 * pxSlt B D.length + 5) k f ∨ (k = 282 ∧ f = 4)) h (jw_setI h1 282 4 (pxJ T.2.2.2)) := (F1.mono (fun k f z => Or.inl z)).trans (F2.mono (fun k f z => Or.inr z))
  simp (maxSteps := 4000000) (disch := first | assumption | omega | (simp only [jw_t_I, px_cpt]; done) | (simp only [jw_t_I, px_cpt]; omega)) only [pxL0, pxL1, pxL2, pxL3, pxL4, pxL5, pxL6, pxL7, pxL8, pxL9, pxL10, pxL11, pxL12, pxL13, pxL14, pxL15, pxL16, pxL17, pxL18, pxL19, pxL20, pxL21, pxL22, pxL23, pxL24, pxL25, pxL26, pxL27, pxL28, pxL29, pxL30, pxL31, pxL32, pxL33, pxL34, pxL35, pxL36, pxL37, pxL38, pxL39, pxL40, pxL41, pxL42, pxL43, pxL44, pxL45, pxL46, pxL47, pxL48, pxL49, pxL51, pxL57, pxL58, pxL59, pxL60, pxL61, pxL62, pxL63, pxL64, pxL65, pxL66, pxL67, pxL68, pxL69, pxL70, pxL71, pxL72, pxL73, pxL74, pxL75, pxL76, pxL77, pxL78, pxL79, pxL80, pxL81, pxL82, pxL83, pxL84, pxL85, pxL86, pxL87, pxL88, pxL89, pxL90, pxL91, pxL92, pxL93, pxL94, pxL95, pxL96, pxL97, pxL98, pxL99, pxL100, pxL101, pxL102, pxL103, pxL104, pxL105, pxL106, pxL107, pxL108, pxL109, pxL110, pxL111, pxL112, pxL113, pxL114, pxL115, pxL116, pxL117, pxL118, pxL119, pxL120, pxL121, pxL122, pxL123, pxL124, pxL125, pxL126, pxL200, pxL240, pxL287, pxL388, pxL400, pxL429, pxL431, pxL440, pxL1240, pxL1600, pxL1681, pxL12028, pxL13849, pxL14880, pxL25173, pxL26908, pxL49600, pxL65535, pxL65536, ↓reduceIte, reduceCtorEq, pxJ_add, pxJ_sub, pxJ_mul, pxJ_neg, pxD_lt_t, pxD_lt_f, pxD_le_t, pxD_le_f, pxD_eq_t, pxD_eq_f, pxJ_lt, pxJ_le, pxJ_eq, px_gI, px_gR, px_pI, px_rc, px_ai, px_ar, px_si, px_ln, px_cp, pxJ_div, pxJ_b8, pxJ_byte, px_b2, px_bs, px_rb0, px_rb1, px_min, px_max, px_compare, pxW_some, jw_t_I, px_cpt, jw_r_I, px_cpr, jw_l_I, px_cpl, Option.some.injEq, t91, m4, t31]
  refine ⟨F12.mono (fun k f z => by unfold pxC at z; omega), B, ⟨⟨by rw [F12.t]; exact t3, by rw [F12.r (by unfold pxC; omega)]; exact r0, by rw [F12.r (by unfold pxC; omega)]; exact r1, by rw [F12.t]; exact t283, by rw [F12.t]; exact t284, fun j hj => ⟨by rw [F12.r (by unfold pxC; omega)]; exact (ob j hj).1, ?_⟩⟩, B0, B1, by rw [F12.m (by unfold pxC; omega)]; exact m2, by rw [F12.m (by unfold pxC; omega)]; exact m3, D40, fun d x hx => ?_⟩, ⟨_, I1.fr F2 (fun k f _ _ => by omega)⟩, pxM_eq nr.1 nr.2⟩
  · by_cases e : j = pxSlt B D.length
    · subst e
      exact (I1.fr F2 (fun k f _ _ => by omega)).sx
    · exact (ob j hj).2.fr F12 (fun k f _ _ => by unfold pxC; omega)
  · obtain ⟨b1, nx, b2⟩ := dd d x hx
    have hd : d < D.length := by
      by_cases q : d < D.length
      · exact q
      · rw [List.getElem?_eq_none (by omega)] at hx; cases hx
    have sd := pxSlt_b (B := B) (d := d)
    have ne := pxSlt_ne (B := B) (d := d) (e := D.length) B0 (by omega) (by omega) (by omega)
    exact ⟨by rw [F12.m (by unfold pxC; omega)]; exact b1, nx, b2.fr F12 (fun k f _ _ => by unfold pxC; omega)⟩
theorem s_X3_restore (H : pxHN h D T) (X : pxSX h 255) : pxW (f_X3_restore h 282 (some 255)) fun _ h' => pxF (pxC 255 260) h h' ∧ pxIX h' T := by
  obtain ⟨B, ⟨S, B0, B1, m2, m3, D40, dd⟩, ⟨nx, I⟩, m4⟩ := H
  have S' := S
  obtain ⟨t3, r0, r1, t283, t284, ob⟩ := S'
  have sl := s_X3_slot (d := D.length) S m2 B0 B1 (by omega) (by omega)
  have sb := pxSlt_b (B := B) (d := D.length)
  have t9 := X.1.1
  have nr1 := pxM_lo h 282 4
  have nr2 := pxM_hi h 282 4
  rw [m4] at nr1 nr2
  unfold f_X3_restore g_X3_restore_b18
  simp (maxSteps := 4000000) (disch := first | assumption | omega | (simp only [jw_t_I, px_cpt]; done) | (simp only [jw_t_I, px_cpt]; omega)) only [pxL0, pxL1, pxL2, pxL3, pxL4, pxL5, pxL6, pxL7, pxL8, pxL9, pxL10, pxL11, pxL12, pxL13, pxL14, pxL15, pxL16, pxL17, pxL18, pxL19, pxL20, pxL21, pxL22, pxL23, pxL24, pxL25, pxL26, pxL27, pxL28, pxL29, pxL30, pxL31, pxL32, pxL33, pxL34, pxL35, pxL36, pxL37, pxL38, pxL39, pxL40, pxL41, pxL42, pxL43, pxL44, pxL45, pxL46, pxL47, pxL48, pxL49, pxL51, pxL57, pxL58, pxL59, pxL60, pxL61, pxL62, pxL63, pxL64, pxL65, pxL66, pxL67, pxL68, pxL69, pxL70, pxL71, pxL72, pxL73, pxL74, pxL75, pxL76, pxL77, pxL78, pxL79, pxL80, pxL81, pxL82, pxL83, pxL84, pxL85, pxL86, pxL87, pxL88, pxL89, pxL90, pxL91, pxL92, pxL93, pxL94, pxL95, pxL96, pxL97, pxL98, pxL99, pxL100, pxL101, pxL102, pxL103, pxL104, pxL105, pxL106, pxL107, pxL108, pxL109, pxL110, pxL111, pxL112, pxL113, pxL114, pxL115, pxL116, pxL117, pxL118, pxL119, pxL120, pxL121, pxL122, pxL123, pxL124, pxL125, pxL126, pxL200, pxL240, pxL287, pxL388, pxL400, pxL429, pxL431, pxL440, pxL1240, pxL1600, pxL1681, pxL12028, pxL13849, pxL14880, pxL25173, pxL26908, pxL49600, pxL65535, pxL65536, ↓reduceIte, reduceCtorEq, pxJ_add, pxJ_sub, pxJ_mul, pxJ_neg, pxD_lt_t, pxD_lt_f, pxD_le_t, pxD_le_f, pxD_eq_t, pxD_eq_f, pxJ_lt, pxJ_le, pxJ_eq, px_gI, px_gR, px_pI, px_rc, px_ai, px_ar, px_si, px_ln, px_cp, pxJ_div, pxJ_b8, pxJ_byte, px_b2, px_bs, px_rb0, px_rb1, px_min, px_max, px_compare, pxW_some, jw_t_I, px_cpt, jw_r_I, px_cpr, jw_l_I, px_cpl, Option.some.injEq, m3, sl]
  refine pxW_b2 (s_X9_copy X I (by omega)) fun _ h1 k => ?_
  obtain ⟨F1, I1⟩ := k
  have t31 : (jw_t h1 282).1 = 3 := by rw [F1.t]; exact t3
  have m41 : pxM h1 282 4 = T.2.2.2 := by rw [F1.m (by unfold pxC; omega)]; exact m4
  have t91 := I1.1.1
  have F2 : pxF (pxC 255 260) h1 (jw_setI h1 255 4 (pxJ T.2.2.2)) := pxF.setI (by unfold pxC; omega)
  simp (maxSteps := 4000000) (disch := first | assumption | omega | (simp only [jw_t_I, px_cpt]; done) | (simp only [jw_t_I, px_cpt]; omega)) only [pxL0, pxL1, pxL2, pxL3, pxL4, pxL5, pxL6, pxL7, pxL8, pxL9, pxL10, pxL11, pxL12, pxL13, pxL14, pxL15, pxL16, pxL17, pxL18, pxL19, pxL20, pxL21, pxL22, pxL23, pxL24, pxL25, pxL26, pxL27, pxL28, pxL29, pxL30, pxL31, pxL32, pxL33, pxL34, pxL35, pxL36, pxL37, pxL38, pxL39, pxL40, pxL41, pxL42, pxL43, pxL44, pxL45, pxL46, pxL47, pxL48, pxL49, pxL51, pxL57, pxL58, pxL59, pxL60, pxL61, pxL62, pxL63, pxL64, pxL65, pxL66, pxL67, pxL68, pxL69, pxL70, pxL71, pxL72, pxL73, pxL74, pxL75, pxL76, pxL77, pxL78, pxL79, pxL80, pxL81, pxL82, pxL83, pxL84, pxL85, pxL86, pxL87, pxL88, pxL89, pxL90, pxL91, pxL92, pxL93, pxL94, pxL95, pxL96, pxL97, pxL98, pxL99, pxL100, pxL101, pxL102, pxL103, pxL104, pxL105, pxL106, pxL107, pxL108, pxL109, pxL110, pxL111, pxL112, pxL113, pxL114, pxL115, pxL116, pxL117, pxL118, pxL119, pxL120, pxL121, pxL122, pxL123, pxL124, pxL125, pxL126, pxL200, pxL240, pxL287, pxL388, pxL400, pxL429, pxL431, pxL440, pxL1240, pxL1600, pxL1681, pxL12028, pxL13849, pxL14880, pxL25173, pxL26908, pxL49600, pxL65535, pxL65536, ↓reduceIte, reduceCtorEq, pxJ_add, pxJ_sub, pxJ_mul, pxJ_neg, pxD_lt_t, pxD_lt_f, pxD_le_t, pxD_le_f, pxD_eq_t, pxD_eq_f, pxJ_lt, pxJ_le, pxJ_eq, px_gI, px_gR, px_pI, px_rc, px_ai, px_ar, px_si, px_ln, px_cp, pxJ_div, pxJ_b8, pxJ_byte, px_b2, px_bs, px_rb0, px_rb1, px_min, px_max, px_compare, pxW_some, jw_t_I, px_cpt, jw_r_I, px_cpr, jw_l_I, px_cpl, Option.some.injEq, t31, m41, t91]
  exact ⟨F1.trans F2, I1.nxt4 nr1 nr2⟩
theorem pxPush_at {a : Int × pxSn} (D40 : D.length ≤ 40) (B : Int) (d : Nat) (x : Int × pxSn) (hx : (pxPush D a)[d]? = some x) : (D.length < 40 → (d < D.length ∧ D[d]? = some x) ∨ (d = D.length ∧ x = a)) ∧ (D.length = 40 → (d < 39 ∧ D[d + 1]? = some x) ∨ (d = 39 ∧ x = a)) := by
  unfold pxPush at hx
  refine ⟨fun z => ?_, fun z => ?_⟩
  · rw [if_pos z] at hx
    by_cases c : d < D.length
    · rw [List.getElem?_append_left c] at hx; exact Or.inl ⟨c, hx⟩
    · rw [List.getElem?_append_right (by omega)] at hx
      by_cases e : d = D.length
      · subst e
        rw [Nat.sub_self] at hx
        exact Or.inr ⟨rfl, (Option.some.inj hx).symm⟩
      · rw [List.getElem?_eq_none (by simp; omega)] at hx; cases hx
  · rw [if_neg (by omega)] at hx
    have tl : D.tail.length = 39 := by rw [List.length_tail]; omega
    by_cases c : d < 39
    · rw [List.getElem?_append_left (by omega), List.getElem?_tail] at hx; exact Or.inl ⟨c, hx⟩
    · rw [List.getElem?_append_right (by omega), tl] at hx
      by_cases e : d = 39
      · subst e
        exact Or.inr ⟨rfl, (Option.some.inj hx).symm⟩
      · rw [List.getElem?_eq_none (by simp; omega)] at hx; cases hx
theorem s_X3_store {c : Int} (H : pxHN h D T) (c0 : -2147483648 ≤ c) (c1 : c ≤ 2147483647) : ∃ h', f_X3_store h 282 (pxJ c) = some ((), h') ∧ pxF (fun k _ => k = 282 ∨ k = 284) h h' ∧ pxHI h' (pxPush D (c, pxSnap T)) := by
  obtain ⟨B, ⟨S, B0, B1, m2, m3, D40, dd⟩, ⟨nx, I⟩, m4⟩ := H
  have S' := S
  obtain ⟨t3, r0, r1, t283, t284, ob⟩ := S'
  have so := s_X3_slotOf (d := D.length) t3 m2 B0 B1 (by omega) (by omega)
  have sb := pxSlt_b (B := B) (d := D.length)
  have ln : jw_ln h (some 284) = some (pxJ 41) := by rw [px_ln (by rw [t284]; simp), t284]; rfl
  have si : jw_si h 20 (some 284) (pxJ (pxSlt B D.length : Int)) (pxJ c) = some (jw_setI h 284 (pxSlt B D.length) (pxJ c)) := by
    have := px_si (h := h) (t := 20) (k := 284) (z := (pxSlt B D.length : Int)) (v := pxJ c) (by rw [t284]) (by omega) (by rw [t284]; show (pxSlt B D.length : Int) < ((41 : Nat) : Int); omega) (by omega)
    rw [show ((pxSlt B D.length : Int)).toNat = pxSlt B D.length by omega] at this
    exact this
  generalize hj : pxSlt B D.length = j at so sb si I
  have t31 : (jw_t (jw_setI h 284 j (pxJ c)) 282).1 = 3 := t3
  have m31 : pxM (jw_setI h 284 j (pxJ c)) 282 3 = D.length := by rw [pxM_ne (by omega)]; exact m3
  have m21 : pxM (jw_setI h 284 j (pxJ c)) 282 2 = B := by rw [pxM_ne (by omega)]; exact m2
  by_cases d40 : D.length < 40
  · have F : pxF (fun k _ => k = 282 ∨ k = 284) h (jw_setI (jw_setI h 284 j (pxJ c)) 282 3 (pxJ (D.length + 1))) := (pxF.setI (Or.inr rfl)).trans (pxF.setI (Or.inl rfl))
    have F' : pxF (fun k f => (k = 282 ∧ f = 3) ∨ k = 284) h (jw_setI (jw_setI h 284 j (pxJ c)) 282 3 (pxJ (D.length + 1))) := (pxF.setI (Or.inr rfl)).trans (pxF.setI (Or.inl ⟨rfl, rfl⟩))
    refine ⟨_, ?_, F, B, ⟨S.fr F' (fun k f z => by omega), B0, B1, by simp (disch := omega) only [pxM_ne, pxM_eq, pxPl_p, pxPl_n]; exact m2, ?_, ?_, fun d x hx => ?_⟩⟩
    · unfold f_X3_store g_X3_store_b29
      simp (maxSteps := 4000000) (disch := first | assumption | omega | (simp only [jw_t_I, px_cpt]; done) | (simp only [jw_t_I, px_cpt]; omega)) only [pxL0, pxL1, pxL2, pxL3, pxL4, pxL5, pxL6, pxL7, pxL8, pxL9, pxL10, pxL11, pxL12, pxL13, pxL14, pxL15, pxL16, pxL17, pxL18, pxL19, pxL20, pxL21, pxL22, pxL23, pxL24, pxL25, pxL26, pxL27, pxL28, pxL29, pxL30, pxL31, pxL32, pxL33, pxL34, pxL35, pxL36, pxL37, pxL38, pxL39, pxL40, pxL41, pxL42, pxL43, pxL44, pxL45, pxL46, pxL47, pxL48, pxL49, pxL51, pxL57, pxL58, pxL59, pxL60, pxL61, pxL62, pxL63, pxL64, pxL65, pxL66, pxL67, pxL68, pxL69, pxL70, pxL71, pxL72, pxL73, pxL74, pxL75, pxL76, pxL77, pxL78, pxL79, pxL80, pxL81, pxL82, pxL83, pxL84, pxL85, pxL86, pxL87, pxL88, pxL89, pxL90, pxL91, pxL92, pxL93, pxL94, pxL95, pxL96, pxL97, pxL98, pxL99, pxL100, pxL101, pxL102, pxL103, pxL104, pxL105, pxL106, pxL107, pxL108, pxL109, pxL110, pxL111, pxL112, pxL113, pxL114, pxL115, pxL116, pxL117, pxL118, pxL119, pxL120, pxL121, pxL122, pxL123, pxL124, pxL125, pxL126, pxL200, pxL240, pxL287, pxL388, pxL400, pxL429, pxL431, pxL440, pxL1240, pxL1600, pxL1681, pxL12028, pxL13849, pxL14880, pxL25173, pxL26908, pxL49600, pxL65535, pxL65536, ↓reduceIte, reduceCtorEq, pxJ_add, pxJ_sub, pxJ_mul, pxJ_neg, pxD_lt_t, pxD_lt_f, pxD_le_t, pxD_le_f, pxD_eq_t, pxD_eq_f, pxJ_lt, pxJ_le, pxJ_eq, px_gI, px_gR, px_pI, px_rc, px_ai, px_ar, px_si, px_ln, px_cp, pxJ_div, pxJ_b8, pxJ_byte, px_b2, px_bs, px_rb0, px_rb1, px_min, px_max, px_compare, pxW_some, jw_t_I, px_cpt, jw_r_I, px_cpr, jw_l_I, px_cpl, Option.some.injEq, m3, so, r1, ln, si, m31]
    · rw [pxM_eq (by omega) (by omega)]
      unfold pxPush
      rw [if_pos d40, List.length_append, List.length_singleton]
      omega
    · unfold pxPush
      rw [if_pos d40, List.length_append, List.length_singleton]
      omega
    · rcases (pxPush_at D40 B d x hx).1 d40 with ⟨q1, q2⟩ | ⟨q1, q2⟩
      · obtain ⟨b1, nx', b2⟩ := dd d x q2
        have ne := pxSlt_ne (B := B) (d := d) (e := D.length) B0 (by omega) (by omega) (by omega)
        have sd := pxSlt_b (B := B) (d := d)
        exact ⟨by rw [pxM_ne (by omega), pxM_ne (by omega)]; exact b1, nx', b2.fr F' (fun k f _ _ => by omega)⟩
      · subst q1; subst q2
        rw [hj]
        exact ⟨by rw [pxM_ne (by omega), pxM_eq c0 c1], nx, I.fr F' (fun k f _ _ => by omega)⟩
  · have e40 : D.length = 40 := by omega
    have so1 := s_X3_slotOf (h := jw_setI h 284 j (pxJ c)) (d := 1) t31 m21 B0 B1 (by omega) (by omega)
    have B' : (pxSlt B 1 : Int) = (B + 1) % 41 := by unfold pxSlt; omega
    have F' : pxF (fun k f => (k = 282 ∧ f = 2) ∨ k = 284) h (jw_setI (jw_setI h 284 j (pxJ c)) 282 2 (pxJ (pxSlt B 1 : Int))) := (pxF.setI (Or.inr rfl)).trans (pxF.setI (Or.inl ⟨rfl, rfl⟩))
    have eS : ∀ d : Int, 0 ≤ d → pxSlt (pxSlt B 1 : Int) d = pxSlt B (d + 1) := by intro d d0; unfold pxSlt; omega
    refine ⟨_, ?_, F'.mono (fun k f z => by omega), (pxSlt B 1 : Int), ⟨S.fr F' (fun k f z => by omega), by omega, by omega, pxM_eq (by omega) (by omega), ?_, ?_, fun d x hx => ?_⟩⟩
    · unfold f_X3_store g_X3_store_b29
      simp (maxSteps := 4000000) (disch := first | assumption | omega | (simp only [jw_t_I, px_cpt]; done) | (simp only [jw_t_I, px_cpt]; omega)) only [pxL0, pxL1, pxL2, pxL3, pxL4, pxL5, pxL6, pxL7, pxL8, pxL9, pxL10, pxL11, pxL12, pxL13, pxL14, pxL15, pxL16, pxL17, pxL18, pxL19, pxL20, pxL21, pxL22, pxL23, pxL24, pxL25, pxL26, pxL27, pxL28, pxL29, pxL30, pxL31, pxL32, pxL33, pxL34, pxL35, pxL36, pxL37, pxL38, pxL39, pxL40, pxL41, pxL42, pxL43, pxL44, pxL45, pxL46, pxL47, pxL48, pxL49, pxL51, pxL57, pxL58, pxL59, pxL60, pxL61, pxL62, pxL63, pxL64, pxL65, pxL66, pxL67, pxL68, pxL69, pxL70, pxL71, pxL72, pxL73, pxL74, pxL75, pxL76, pxL77, pxL78, pxL79, pxL80, pxL81, pxL82, pxL83, pxL84, pxL85, pxL86, pxL87, pxL88, pxL89, pxL90, pxL91, pxL92, pxL93, pxL94, pxL95, pxL96, pxL97, pxL98, pxL99, pxL100, pxL101, pxL102, pxL103, pxL104, pxL105, pxL106, pxL107, pxL108, pxL109, pxL110, pxL111, pxL112, pxL113, pxL114, pxL115, pxL116, pxL117, pxL118, pxL119, pxL120, pxL121, pxL122, pxL123, pxL124, pxL125, pxL126, pxL200, pxL240, pxL287, pxL388, pxL400, pxL429, pxL431, pxL440, pxL1240, pxL1600, pxL1681, pxL12028, pxL13849, pxL14880, pxL25173, pxL26908, pxL49600, pxL65535, pxL65536, ↓reduceIte, reduceCtorEq, pxJ_add, pxJ_sub, pxJ_mul, pxJ_neg, pxD_lt_t, pxD_lt_f, pxD_le_t, pxD_le_f, pxD_eq_t, pxD_eq_f, pxJ_lt, pxJ_le, pxJ_eq, px_gI, px_gR, px_pI, px_rc, px_ai, px_ar, px_si, px_ln, px_cp, pxJ_div, pxJ_b8, pxJ_byte, px_b2, px_bs, px_rb0, px_rb1, px_min, px_max, px_compare, pxW_some, jw_t_I, px_cpt, jw_r_I, px_cpr, jw_l_I, px_cpl, Option.some.injEq, m3, so, r1, ln, si, m31, so1]
    · rw [pxM_ne (by omega), pxM_ne (by omega), m3]
      unfold pxPush
      rw [if_neg d40, List.length_append, List.length_tail, List.length_singleton]
      omega
    · unfold pxPush
      rw [if_neg d40, List.length_append, List.length_tail, List.length_singleton]
      omega
    · rw [eS d (by omega)]
      rcases (pxPush_at D40 B d x hx).2 e40 with ⟨q1, q2⟩ | ⟨q1, q2⟩
      · obtain ⟨b1, nx', b2⟩ := dd (d + 1) x q2
        rw [show ((d + 1 : Nat) : Int) = (d : Int) + 1 by omega] at b1 b2
        have ne := pxSlt_ne (B := B) (d := (d : Int) + 1) (e := D.length) B0 (by omega) (by omega) (by omega)
        have sd := pxSlt_b (B := B) (d := (d : Int) + 1)
        exact ⟨by rw [pxM_ne (by omega), pxM_ne (by omega)]; exact b1, nx', b2.fr F' (fun k f _ _ => by omega)⟩
      · subst q1; subst q2
        rw [show ((39 : Nat) : Int) + 1 = (D.length : Int) by omega, hj]
        exact ⟨by rw [pxM_ne (by omega), pxM_eq c0 c1], nx, I.fr F' (fun k f _ _ => by omega)⟩
theorem s_X3_latestCall {x : Int × pxSn} (H : pxHI h D) (hx : D[D.length - 1]? = some x) (hl : 0 < D.length) : f_X3_latestCall h 282 = some (pxJ x.1, h) := by
  obtain ⟨B, S, B0, B1, m2, m3, D40, dd⟩ := H
  obtain ⟨t3, r0, r1, t283, t284, ob⟩ := S
  have so := s_X3_slotOf (d := (D.length : Int) - 1) t3 m2 B0 B1 (by omega) (by omega)
  have sb := pxSlt_b (B := B) (d := (D.length : Int) - 1)
  have ln : jw_ln h (some 284) = some (pxJ 41) := by rw [px_ln (by rw [t284]; simp), t284]; rfl
  obtain ⟨b1, -⟩ := dd _ x hx
  rw [show ((D.length - 1 : Nat) : Int) = (D.length : Int) - 1 by omega] at b1
  have ai : jw_ai h 20 (some 284) (pxJ (pxSlt B ((D.length : Int) - 1) : Int)) = some (pxJ x.1) := by rw [px_ai (by rw [t284]) (by omega) (by rw [t284]; show (pxSlt B ((D.length : Int) - 1) : Int) < ((41 : Nat) : Int); omega) (by omega), show ((pxSlt B ((D.length : Int) - 1) : Int)).toNat = pxSlt B ((D.length : Int) - 1) by omega, b1]
  unfold f_X3_latestCall g_X3_latestCall_b40 g_X3_latestCall_b41
  simp (maxSteps := 4000000) (disch := first | assumption | omega | (simp only [jw_t_I, px_cpt]; done) | (simp only [jw_t_I, px_cpt]; omega)) only [pxL0, pxL1, pxL2, pxL3, pxL4, pxL5, pxL6, pxL7, pxL8, pxL9, pxL10, pxL11, pxL12, pxL13, pxL14, pxL15, pxL16, pxL17, pxL18, pxL19, pxL20, pxL21, pxL22, pxL23, pxL24, pxL25, pxL26, pxL27, pxL28, pxL29, pxL30, pxL31, pxL32, pxL33, pxL34, pxL35, pxL36, pxL37, pxL38, pxL39, pxL40, pxL41, pxL42, pxL43, pxL44, pxL45, pxL46, pxL47, pxL48, pxL49, pxL51, pxL57, pxL58, pxL59, pxL60, pxL61, pxL62, pxL63, pxL64, pxL65, pxL66, pxL67, pxL68, pxL69, pxL70, pxL71, pxL72, pxL73, pxL74, pxL75, pxL76, pxL77, pxL78, pxL79, pxL80, pxL81, pxL82, pxL83, pxL84, pxL85, pxL86, pxL87, pxL88, pxL89, pxL90, pxL91, pxL92, pxL93, pxL94, pxL95, pxL96, pxL97, pxL98, pxL99, pxL100, pxL101, pxL102, pxL103, pxL104, pxL105, pxL106, pxL107, pxL108, pxL109, pxL110, pxL111, pxL112, pxL113, pxL114, pxL115, pxL116, pxL117, pxL118, pxL119, pxL120, pxL121, pxL122, pxL123, pxL124, pxL125, pxL126, pxL200, pxL240, pxL287, pxL388, pxL400, pxL429, pxL431, pxL440, pxL1240, pxL1600, pxL1681, pxL12028, pxL13849, pxL14880, pxL25173, pxL26908, pxL49600, pxL65535, pxL65536, ↓reduceIte, reduceCtorEq, pxJ_add, pxJ_sub, pxJ_mul, pxJ_neg, pxD_lt_t, pxD_lt_f, pxD_le_t, pxD_le_f, pxD_eq_t, pxD_eq_f, pxJ_lt, pxJ_le, pxJ_eq, px_gI, px_gR, px_pI, px_rc, px_ai, px_ar, px_si, px_ln, px_cp, pxJ_div, pxJ_b8, pxJ_byte, px_b2, px_bs, px_rb0, px_rb1, px_min, px_max, px_compare, pxW_some, jw_t_I, px_cpt, jw_r_I, px_cpr, jw_l_I, px_cpl, Option.some.injEq, m3, so, r1, ln, ai]
theorem s_X3_takeBack {x : Int × pxSn} (H : pxHI h D) (I : pxIX h T) (hx : D[D.length - 1]? = some x) (hl : 0 < D.length) : pxW (f_X3_takeBack h 282 (some 255)) fun _ h' => pxF (fun k f => pxC 255 260 k f ∨ (k = 282 ∧ f = 3)) h h' ∧ pxIX h' (x.2.1, x.2.2.1, x.2.2.2, T.2.2.2) ∧ pxHI h' D.dropLast := by
  obtain ⟨B, S, B0, B1, m2, m3, D40, dd⟩ := H
  have S' := S
  obtain ⟨t3, r0, r1, t283, t284, ob⟩ := S'
  have F1 : pxF (fun k f => k = 282 ∧ f = 3) h (jw_setI h 282 3 (pxJ ((D.length : Int) - 1))) := pxF.setI ⟨rfl, rfl⟩
  have S1 := S.fr F1 (fun k f z => by omega)
  have sl := s_X3_slot (h := jw_setI h 282 3 (pxJ ((D.length : Int) - 1))) (d := (D.length : Int) - 1) S1 (by rw [pxM_ne (by omega)]; exact m2) B0 B1 (by omega) (by omega)
  have sb := pxSlt_b (B := B) (d := (D.length : Int) - 1)
  obtain ⟨b1, nx, b2⟩ := dd _ x hx
  rw [show ((D.length - 1 : Nat) : Int) = (D.length : Int) - 1 by omega] at b2
  have t9 := I.1.1
  have t31 : (jw_t (jw_setI h 282 3 (pxJ ((D.length : Int) - 1))) 282).1 = 3 := t3
  have m31 : pxM (jw_setI h 282 3 (pxJ ((D.length : Int) - 1))) 282 3 = (D.length : Int) - 1 := pxM_eq (by omega) (by omega)
  have I1 : pxIX (jw_setI h 282 3 (pxJ ((D.length : Int) - 1))) T := pxIT.fr I F1 (fun k f _ _ => by omega)
  have t91 := I1.1.1
  have m4 : pxM (jw_setI h 282 3 (pxJ ((D.length : Int) - 1))) 255 4 = T.2.2.2 := I1.2.2.2.2.2
  unfold f_X3_takeBack
  simp (maxSteps := 4000000) (disch := first | assumption | omega | (simp only [jw_t_I, px_cpt]; done) | (simp only [jw_t_I, px_cpt]; omega)) only [pxL0, pxL1, pxL2, pxL3, pxL4, pxL5, pxL6, pxL7, pxL8, pxL9, pxL10, pxL11, pxL12, pxL13, pxL14, pxL15, pxL16, pxL17, pxL18, pxL19, pxL20, pxL21, pxL22, pxL23, pxL24, pxL25, pxL26, pxL27, pxL28, pxL29, pxL30, pxL31, pxL32, pxL33, pxL34, pxL35, pxL36, pxL37, pxL38, pxL39, pxL40, pxL41, pxL42, pxL43, pxL44, pxL45, pxL46, pxL47, pxL48, pxL49, pxL51, pxL57, pxL58, pxL59, pxL60, pxL61, pxL62, pxL63, pxL64, pxL65, pxL66, pxL67, pxL68, pxL69, pxL70, pxL71, pxL72, pxL73, pxL74, pxL75, pxL76, pxL77, pxL78, pxL79, pxL80, pxL81, pxL82, pxL83, pxL84, pxL85, pxL86, pxL87, pxL88, pxL89, pxL90, pxL91, pxL92, pxL93, pxL94, pxL95, pxL96, pxL97, pxL98, pxL99, pxL100, pxL101, pxL102, pxL103, pxL104, pxL105, pxL106, pxL107, pxL108, pxL109, pxL110, pxL111, pxL112, pxL113, pxL114, pxL115, pxL116, pxL117, pxL118, pxL119, pxL120, pxL121, pxL122, pxL123, pxL124, pxL125, pxL126, pxL200, pxL240, pxL287, pxL388, pxL400, pxL429, pxL431, pxL440, pxL1240, pxL1600, pxL1681, pxL12028, pxL13849, pxL14880, pxL25173, pxL26908, pxL49600, pxL65535, pxL65536, ↓reduceIte, reduceCtorEq, pxJ_add, pxJ_sub, pxJ_mul, pxJ_neg, pxD_lt_t, pxD_lt_f, pxD_le_t, pxD_le_f, pxD_eq_t, pxD_eq_f, pxJ_lt, pxJ_le, pxJ_eq, px_gI, px_gR, px_pI, px_rc, px_ai, px_ar, px_si, px_ln, px_cp, pxJ_div, pxJ_b8, pxJ_byte, px_b2, px_bs, px_rb0, px_rb1, px_min, px_max, px_compare, pxW_some, jw_t_I, px_cpt, jw_r_I, px_cpr, jw_l_I, px_cpl, Option.some.injEq, m3, m31, sl]
  have K := s_X9_copy (pxIT.sx I1) (b2.fr F1 (fun k f _ _ => by omega)) (by omega)
  rw [m4] at K
  refine pxW_b2 K fun _ h1 k => ?_
  obtain ⟨F2, I2⟩ := k
  have F12 : pxF (fun k f => pxC 255 260 k f ∨ (k = 282 ∧ f = 3)) h h1 := (F1.mono (fun k f z => Or.inr z)).trans (F2.mono (fun k f z => Or.inl z))
  refine pxW_some.mpr ⟨F12, I2, B, S.fr F12 (fun k f z => by unfold pxC; omega), B0, B1, by rw [F12.m (by unfold pxC; omega)]; exact m2, ?_, by rw [List.length_dropLast]; omega, fun d y hy => ?_⟩
  · rw [F2.m (by unfold pxC; omega), m31, List.length_dropLast]; omega
  · rw [List.getElem?_dropLast] at hy
    by_cases q : d < D.length - 1
    · rw [if_pos q] at hy
      obtain ⟨c1, nx', c2⟩ := dd d y hy
      have sd := pxSlt_b (B := B) (d := d)
      exact ⟨by rw [F12.m (by unfold pxC; omega)]; exact c1, nx', c2.fr F12 (fun k f _ _ => by unfold pxC; omega)⟩
    · rw [if_neg q] at hy; cases hy
end
