/-! the reference: the latest deed undone -/
def pyQul : Nat → Nat → Prop := fun k f => (k = 592 ∧ f < 1240) ∨ (k = 593 ∧ f < 40) ∨ (k = 596 ∧ f < 5) ∨ (k = 587 ∧ (f = 12 ∨ f = 16 ∨ f = 62))
theorem n_latestDeed {h : jw_H} {B n : Int} (H : pyS h) (e61 : pxM h 587 61 = B) (e62 : pxM h 587 62 = n) (B0 : 0 ≤ B) (B1 : B < 40) (n1 : 1 ≤ n) (n40 : n ≤ 40) : f_X12_latestDeed h 587 = some (pxJ ((B + n - 1) % 40), h) := by
  have ew : B + n - 1 - (B + n - 1) / 40 * 40 = (B + n - 1) % 40 := by omega
  unfold f_X12_latestDeed
  try simp (maxSteps := 4000000) (disch := first | assumption | omega | (simp only [pyS_I]; assumption)) only [pxL0, pxL1, pxL2, pxL3, pxL4, pxL5, pxL6, pxL7, pxL8, pxL9, pxL10, pxL11, pxL12, pxL13, pxL14, pxL15, pxL16, pxL17, pxL18, pxL19, pxL20, pxL21, pxL22, pxL23, pxL24, pxL25, pxL26, pxL27, pxL28, pxL29, pxL30, pxL31, pxL32, pxL33, pxL34, pxL35, pxL36, pxL37, pxL38, pxL39, pxL40, pxL41, pxL42, pxL43, pxL44, pxL45, pxL46, pxL47, pxL48, pxL49, pxL51, pxL57, pxL58, pxL59, pxL60, pxL61, pxL62, pxL63, pxL64, pxL65, pxL66, pxL67, pxL68, pxL69, pxL70, pxL71, pxL72, pxL73, pxL74, pxL75, pxL76, pxL77, pxL78, pxL79, pxL80, pxL81, pxL82, pxL83, pxL84, pxL85, pxL86, pxL87, pxL88, pxL89, pxL90, pxL91, pxL92, pxL93, pxL94, pxL95, pxL96, pxL97, pxL98, pxL99, pxL100, pxL101, pxL102, pxL103, pxL104, pxL105, pxL106, pxL107, pxL108, pxL109, pxL110, pxL111, pxL112, pxL113, pxL114, pxL115, pxL116, pxL117, pxL118, pxL119, pxL120, pxL121, pxL122, pxL123, pxL124, pxL125, pxL126, pxL200, pxL240, pxL287, pxL388, pxL400, pxL429, pxL431, pxL440, pxL1240, pxL1600, pxL1681, pxL12028, pxL13849, pxL14880, pxL25173, pxL26908, pxL49600, pxL65535, pxL65536, ↓reduceIte, reduceCtorEq, pxJ_add, pxJ_sub, pxJ_mul, pxJ_neg, pxD_lt_t, pxD_lt_f, pxD_le_t, pxD_le_f, pxD_eq_t, pxD_eq_f, pxJ_lt, pxJ_le, pxJ_eq, pxJ_div, px_b2, px_bs, px_rb0, px_rb1, pxW_some, Option.some.injEq, pxM_eq, pxM_ne, pyN_gI, pyN_pI, pyN_rc, pyN_g1, pyN_a588, pyN_s588, pyN_g3, pyN_a589, pyN_s589, pyN_g4, pyN_a590, pyN_s590, pyN_g5, pyN_a591, pyN_s591, pyN_g6, pyN_a592, pyN_s592, pyN_g7, pyN_a593, pyN_s593, pyN_g8, pyN_a594, pyN_s594, pyN_g9, pyN_a595, pyN_s595, pyN_g10, pyN_a596, pyN_s596, pyN_g11, pyN_a597, pyN_s597, pyN_g19, pyN_a598, pyN_s598, pyN_g21, pyN_a599, pyN_s599, pyN_g31, pyN_a600, pyN_s600, pyN_g32, pyN_a601, pyN_s601, pyN_g38, pyN_a602, pyN_s602, pyN_g39, pyN_a603, pyN_s603, pyN_g46, pyN_a604, pyN_s604, pyN_g47, pyN_a605, pyN_s605, pyN_g48, pyN_a606, pyN_s606, pyN_g49, pyN_a607, pyN_s607, pyN_g55, pyN_a608, pyN_s608, pyN_g56, pyN_a609, pyN_s609, pyN_g57, pyN_a610, pyN_s610, pyN_g58, pyN_a611, pyN_s611, pyN_g59, pyN_a612, pyN_s612, pyN_g60, pyN_a613, pyN_s613, pyN_g74, pyN_a614, pyN_s614, pyN_g75, pyN_a615, pyN_s615, pyN_g76, pyN_a616, pyN_s616, pyN_g78, pyN_a617, pyN_s617, pyN_g79, pyN_a618, pyN_s618, e61, e62]
  rw [ew]
set_option maxHeartbeats 8000000 in
theorem n_undoLatest {h : jw_H} {B : Int} {D : List (Int × pxSn)} {d : Int × pxSn} (H : pyS h) (R : pyDd h B (D ++ [d])) :
    pxW (f_X12_undoLatest h 587) fun _ h' => pyV pyQul h h' ∧ pyDd h' B D ∧ pyL h' d.2.1 ∧ pyK h' d.2.2.1 ∧ pxM h' 587 16 = d.2.2.2 := by
  obtain ⟨B0, B1, e61, e62, d40, R⟩ := R
  rw [List.length_append, List.length_singleton] at e62 d40
  have Zd := R D.length d (by rw [List.getElem?_append_right (Nat.le_refl _), Nat.sub_self]; rfl)
  have nl := n_latestDeed (n := D.length + 1) H e61 (by rw [e62]; omega) B0 B1 (by omega) (by omega)
  rw [show B + ((D.length : Int) + 1) - 1 = B + D.length by omega] at nl
  have w0 : 0 ≤ (B + (D.length : Int)) % 40 := by omega
  have w1 : (B + (D.length : Int)) % 40 < 40 := by omega
  obtain ⟨l40, ok, z1, z2, z3, z4, z5⟩ := Zd
  have e62' : pxM h 587 62 = (D.length : Int) + 1 := by rw [e62]; omega
  have lo := pxM_lo h 612 ((B + (D.length : Int)) % 40).toNat
  have hi := pxM_hi h 612 ((B + (D.length : Int)) % 40).toNat
  rw [z2] at lo hi
  unfold f_X12_undoLatest
  rw [pyN_rc H, px_bs, nl, px_b2]
  try simp (maxSteps := 4000000) (disch := first | assumption | omega | (simp only [pyS_I]; assumption)) only [pxL0, pxL1, pxL2, pxL3, pxL4, pxL5, pxL6, pxL7, pxL8, pxL9, pxL10, pxL11, pxL12, pxL13, pxL14, pxL15, pxL16, pxL17, pxL18, pxL19, pxL20, pxL21, pxL22, pxL23, pxL24, pxL25, pxL26, pxL27, pxL28, pxL29, pxL30, pxL31, pxL32, pxL33, pxL34, pxL35, pxL36, pxL37, pxL38, pxL39, pxL40, pxL41, pxL42, pxL43, pxL44, pxL45, pxL46, pxL47, pxL48, pxL49, pxL51, pxL57, pxL58, pxL59, pxL60, pxL61, pxL62, pxL63, pxL64, pxL65, pxL66, pxL67, pxL68, pxL69, pxL70, pxL71, pxL72, pxL73, pxL74, pxL75, pxL76, pxL77, pxL78, pxL79, pxL80, pxL81, pxL82, pxL83, pxL84, pxL85, pxL86, pxL87, pxL88, pxL89, pxL90, pxL91, pxL92, pxL93, pxL94, pxL95, pxL96, pxL97, pxL98, pxL99, pxL100, pxL101, pxL102, pxL103, pxL104, pxL105, pxL106, pxL107, pxL108, pxL109, pxL110, pxL111, pxL112, pxL113, pxL114, pxL115, pxL116, pxL117, pxL118, pxL119, pxL120, pxL121, pxL122, pxL123, pxL124, pxL125, pxL126, pxL200, pxL240, pxL287, pxL388, pxL400, pxL429, pxL431, pxL440, pxL1240, pxL1600, pxL1681, pxL12028, pxL13849, pxL14880, pxL25173, pxL26908, pxL49600, pxL65535, pxL65536, ↓reduceIte, reduceCtorEq, pxJ_add, pxJ_sub, pxJ_mul, pxJ_neg, pxD_lt_t, pxD_lt_f, pxD_le_t, pxD_le_f, pxD_eq_t, pxD_eq_f, pxJ_lt, pxJ_le, pxJ_eq, pxJ_div, px_b2, px_bs, px_rb0, px_rb1, pxW_some, Option.some.injEq, pxM_eq, pxM_ne, pyN_gI, pyN_pI, pyN_rc, pyN_g1, pyN_a588, pyN_s588, pyN_g3, pyN_a589, pyN_s589, pyN_g4, pyN_a590, pyN_s590, pyN_g5, pyN_a591, pyN_s591, pyN_g6, pyN_a592, pyN_s592, pyN_g7, pyN_a593, pyN_s593, pyN_g8, pyN_a594, pyN_s594, pyN_g9, pyN_a595, pyN_s595, pyN_g10, pyN_a596, pyN_s596, pyN_g11, pyN_a597, pyN_s597, pyN_g19, pyN_a598, pyN_s598, pyN_g21, pyN_a599, pyN_s599, pyN_g31, pyN_a600, pyN_s600, pyN_g32, pyN_a601, pyN_s601, pyN_g38, pyN_a602, pyN_s602, pyN_g39, pyN_a603, pyN_s603, pyN_g46, pyN_a604, pyN_s604, pyN_g47, pyN_a605, pyN_s605, pyN_g48, pyN_a606, pyN_s606, pyN_g49, pyN_a607, pyN_s607, pyN_g55, pyN_a608, pyN_s608, pyN_g56, pyN_a609, pyN_s609, pyN_g57, pyN_a610, pyN_s610, pyN_g58, pyN_a611, pyN_s611, pyN_g59, pyN_a612, pyN_s612, pyN_g60, pyN_a613, pyN_s613, pyN_g74, pyN_a614, pyN_s614, pyN_g75, pyN_a615, pyN_s615, pyN_g76, pyN_a616, pyN_s616, pyN_g78, pyN_a617, pyN_s617, pyN_g79, pyN_a618, pyN_s618, e62', z1, z2]
  have V0 : pyV pyQul h (jw_setI (jw_setI (jw_setI h 587 62 (pxJ ((D.length : Int) + 1 - 1))) 587 12 (pxJ (d.2.1.length : Int))) 587 16 (pxJ d.2.2.2)) := ((pyV.rfl.set (by unfold pyQul; omega)).set (by unfold pyQul; omega)).set (by unfold pyQul; omega)
  have V0' : pyV (fun k f => k = 587 ∧ (f = 12 ∨ f = 16 ∨ f = 62)) h (jw_setI (jw_setI (jw_setI h 587 62 (pxJ ((D.length : Int) + 1 - 1))) 587 12 (pxJ (d.2.1.length : Int))) 587 16 (pxJ d.2.2.2)) := ((pyV.rfl.set ⟨rfl, Or.inr (Or.inr rfl)⟩).set ⟨rfl, Or.inl rfl⟩).set ⟨rfl, Or.inr (Or.inl rfl)⟩
  have a12 : pxM (jw_setI (jw_setI (jw_setI h 587 62 (pxJ ((D.length : Int) + 1 - 1))) 587 12 (pxJ (d.2.1.length : Int))) 587 16 (pxJ d.2.2.2)) 587 12 = d.2.1.length := by (first | omega | (simp (disch := omega) only [pxM_eq, pxM_ne]; done) | (simp (disch := omega) only [pxM_eq, pxM_ne]; omega))
  have a16 : pxM (jw_setI (jw_setI (jw_setI h 587 62 (pxJ ((D.length : Int) + 1 - 1))) 587 12 (pxJ (d.2.1.length : Int))) 587 16 (pxJ d.2.2.2)) 587 16 = d.2.2.2 := by (first | omega | (simp (disch := omega) only [pxM_eq, pxM_ne]; done) | (simp (disch := omega) only [pxM_eq, pxM_ne]; omega))
  have a62 : pxM (jw_setI (jw_setI (jw_setI h 587 62 (pxJ ((D.length : Int) + 1 - 1))) 587 12 (pxJ (d.2.1.length : Int))) 587 16 (pxJ d.2.2.2)) 587 62 = (D.length : Int) := by (first | omega | (simp (disch := omega) only [pxM_eq, pxM_ne]; done) | (simp (disch := omega) only [pxM_eq, pxM_ne]; omega))
  have H0 : pyS (jw_setI (jw_setI (jw_setI h 587 62 (pxJ ((D.length : Int) + 1 - 1))) 587 12 (pxJ (d.2.1.length : Int))) 587 16 (pxJ d.2.2.2)) := H
  generalize (jw_setI (jw_setI (jw_setI h 587 62 (pxJ ((D.length : Int) + 1 - 1))) 587 12 (pxJ (d.2.1.length : Int))) 587 16 (pxJ d.2.2.2)) = hh at *
  refine n_undoLatest_b37 (h0 := hh) (n := d.2.1.length) w0 w1 (by omega) (by omega) a12 (fun h1 V1 c1 => ?_) (31 * d.2.1.length) jw_FU hh 0 (by omega) (by omega) (by unfold jw_FU; omega) H0 pyV.rfl (fun j j0 j1 => by omega)
  refine n_undoLatest_b74 (h0 := h1) (n := d.2.1.length) w0 w1 (by omega) (by omega) (by rw [V1.m (by omega)]; exact a12) (fun h2 V2 c2 => ?_) d.2.1.length jw_FU h1 0 (by omega) (by omega) (by unfold jw_FU; omega) (V1.s H0) pyV.rfl (fun j j0 j1 => by omega)
  refine n_undoLatest_b107 (h0 := h2) (n := d.2.1.length) w0 w1 (by omega) (by omega) (fun h3 V3 c3 => ?_) 5 jw_FU h2 0 (by omega) (by omega) (by unfold jw_FU; omega) (V2.s (V1.s H0)) pyV.rfl (fun j j0 j1 => by omega)
  have V : pyV pyQul hh h3 := ((V1.mono (fun k f z => by unfold pyQul; omega)).trans (V2.mono (fun k f z => by unfold pyQul; omega))).trans (V3.mono (fun k f z => by unfold pyQul; omega))
  have VA : pyV pyQul h h3 := V0.trans V
  refine ⟨VA, ⟨B0, B1, ?_, ?_, by omega, fun i x hx => ?_⟩, ⟨?_, by omega, ok, fun x x1 x2 => ?_⟩, fun k k0 k5 => ?_, ?_⟩
  · rw [VA.m (by unfold pyQul; omega)]; exact e61
  · rw [V3.m (by omega), V2.m (by omega), V1.m (by omega)]; exact a62
  · have il : i < D.length := (List.getElem?_eq_some_iff.mp hx).1
    exact (R i x (by rw [List.getElem?_append_left il]; exact hx)).keep VA (by omega) (fun k f z => by unfold pyQw2 at z; unfold pyQul; omega)
  · rw [V3.m (by omega), V2.m (by omega), V1.m (by omega)]; exact a12
  · obtain ⟨y1, y2, y3⟩ := z5 x x1 x2
    have l30 := (pyAt_or ok x).1
    refine ⟨⟨?_, fun y a b => ?_⟩, ?_⟩
    · rw [V3.m (by omega), V2.m (by omega), c1 (31 * (x - 1)) (by omega) (by omega), V0'.m (by omega)]
      exact y1
    · rw [V3.m (by omega), V2.m (by omega), c1 (31 * (x - 1) + 1 + y) (by omega) (by omega), V0'.m (by omega), show 1240 * ((B + (D.length : Int)) % 40) + (31 * (x - 1) + 1 + y) = 1240 * ((B + (D.length : Int)) % 40) + 31 * (x - 1) + 1 + y by omega]
      exact y2 y a b
    · rw [V3.m (by omega), c2 (x - 1) (by omega) (by omega), V1.m (by omega), V0'.m (by omega)]
      exact y3
  · rw [c3 k k0 k5, V2.m (by omega), V1.m (by omega), V0'.m (by omega)]
    exact z4 k k0 k5
  · rw [V3.m (by omega), V2.m (by omega), V1.m (by omega)]; exact a16
