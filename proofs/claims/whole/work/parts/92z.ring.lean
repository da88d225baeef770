/-! the reference: the ring of deeds -/
def pyZr (h : jw_H) (w x : Int) (a : Int × List Int) : Prop := pxM h 608 (1240 * w + 31 * (x - 1)).toNat = a.2.length ∧ (∀ y : Int, 0 ≤ y → y < a.2.length → pxM h 608 (1240 * w + 31 * (x - 1) + 1 + y).toNat = pxE a.2 y) ∧ pxM h 609 (40 * w + (x - 1)).toNat = a.1
def pyZd (h : jw_H) (w : Int) (d : Int × pxSn) : Prop := d.2.1.length ≤ 40 ∧ pxOk (pxRs d.2.1) ∧ pxM h 611 w.toNat = d.2.1.length ∧ pxM h 612 w.toNat = d.2.2.2 ∧ pxM h 613 w.toNat = d.1 ∧ (∀ k : Int, 0 ≤ k → k < 5 → pxM h 610 (5 * w + k).toNat = d.2.2.1 k) ∧ ∀ x : Int, 1 ≤ x → x ≤ d.2.1.length → pyZr h w x (pxAt d.2.1 x)
def pyQw2 (w : Int) : Nat → Nat → Prop := fun k f => (k = 608 ∧ 1240 * w ≤ (f : Int) ∧ (f : Int) < 1240 * w + 1240) ∨ (k = 609 ∧ 40 * w ≤ (f : Int) ∧ (f : Int) < 40 * w + 40) ∨ (k = 610 ∧ 5 * w ≤ (f : Int) ∧ (f : Int) < 5 * w + 5) ∨ ((k = 611 ∨ k = 612 ∨ k = 613) ∧ (f : Int) = w)
theorem pyZd.keep {P : Nat → Nat → Prop} {h h1 : jw_H} {w : Int} {d : Int × pxSn} (Z : pyZd h w d) (V : pyV P h h1) (w0 : 0 ≤ w) (n : ∀ k f, pyQw2 w k f → ¬ P k f) : pyZd h1 w d := by
  obtain ⟨l40, ok, z1, z2, z3, z4, z5⟩ := Z
  refine ⟨l40, ok, ?_, ?_, ?_, fun k k0 k5 => ?_, fun x x1 x2 => ?_⟩
  · rw [V.m (n _ _ (by unfold pyQw2; omega))]; exact z1
  · rw [V.m (n _ _ (by unfold pyQw2; omega))]; exact z2
  · rw [V.m (n _ _ (by unfold pyQw2; omega))]; exact z3
  · rw [V.m (n _ _ (by unfold pyQw2; omega))]; exact z4 k k0 k5
  · obtain ⟨y1, y2, y3⟩ := z5 x x1 x2
    have l30 := (pyAt_or ok x).1
    refine ⟨?_, fun y a b => ?_, ?_⟩
    · rw [V.m (n _ _ (by unfold pyQw2; omega))]; exact y1
    · rw [V.m (n _ _ (by unfold pyQw2; omega))]; exact y2 y a b
    · rw [V.m (n _ _ (by unfold pyQw2; omega))]; exact y3
def pyDd (h : jw_H) (B : Int) (D : List (Int × pxSn)) : Prop := 0 ≤ B ∧ B < 40 ∧ pxM h 587 61 = B ∧ pxM h 587 62 = D.length ∧ D.length ≤ 40 ∧ ∀ (i : Nat) (d : Int × pxSn), D[i]? = some d → pyZd h ((B + i) % 40) d
def pyDI (h : jw_H) (D : List (Int × pxSn)) : Prop := ∃ B, pyDd h B D
def pyQnd : Nat → Nat → Prop := fun k f => (608 ≤ k ∧ k ≤ 613) ∨ (k = 587 ∧ (f = 61 ∨ f = 62))
/-- a deed is laid in the place w -/
theorem n_noteDeed_b48 {h0 h : jw_H} {w : Int} {T : pxTx} (H : pyS h) (L : pyL h0 T.1) (K : pyK h0 T.2.1) (e16 : pxM h0 587 16 = T.2.2.1) (Z : pySv h0 h) (w0 : 0 ≤ w) (w1 : w < 40) :
    pxW (g_X12_noteDeed_b48 h 587 (pxJ w)) fun _ h' => pyV (pyQw2 w) h h' ∧ pyZd h' w (pxM h 587 63, pxSnap T) := by
  obtain ⟨z1, z2, z3, z4, z5, z6, z7, z8, z9⟩ := Z
  have l40 := L.2.1
  have e50 : pxM h 587 50 = (T.1.length : Int) := by rw [z5]; exact L.1
  unfold g_X12_noteDeed_b48
  rw [show (0 : Int32) = pxJ 0 from rfl]
  refine n_noteDeed_b50 (h0 := h) (n := T.1.length) w0 w1 (by omega) (by omega) e50 (fun h1 V1 c1 => ?_) (31 * T.1.length) jw_FU h 0 (by omega) (by omega) (by unfold jw_FU; omega) H pyV.rfl (fun j j0 j1 => by omega)
  refine n_noteDeed_b91 (h0 := h1) (n := T.1.length) w0 w1 (by omega) (by omega) (by rw [V1.m (by omega)]; exact e50) (fun h2 V2 c2 => ?_) T.1.length jw_FU h1 0 (by omega) (by omega) (by unfold jw_FU; omega) (V1.s H) pyV.rfl (fun j j0 j1 => by omega)
  refine n_noteDeed_b124 (h0 := h2) (n := T.1.length) w0 w1 (by omega) (by omega) (fun h3 V3 c3 d1 d2 d3 => ?_) 5 jw_FU h2 0 (by omega) (by omega) (by unfold jw_FU; omega) (V2.s (V1.s H)) pyV.rfl (fun j j0 j1 => by omega)
  refine ⟨((V1.mono (fun k f z => by unfold pyQw2; omega)).trans (V2.mono (fun k f z => by unfold pyQw2; omega))).trans (V3.mono (fun k f z => by unfold pyQw2; omega)), by show T.1.length ≤ 40; omega, L.2.2.1, ?_, ?_, ?_, fun k k0 k5 => ?_, fun x x1 x2 => ?_⟩
  · rw [d1, V2.m (by omega), V1.m (by omega)]; exact e50
  · rw [d2, V2.m (by omega), V1.m (by omega), z8]; exact e16
  · rw [d3, V2.m (by omega), V1.m (by omega)]
  · rw [c3 k k0 k5, V2.m (by omega), V1.m (by omega), z3 k k0 k5]; exact K k k0 k5
  · have x2' : x ≤ T.1.length := x2
    obtain ⟨r, i⟩ := L.2.2.2 x x1 x2'
    obtain ⟨r1, r2⟩ := r
    have l30 := (pyAt_or L.2.2.1 x).1
    refine ⟨?_, fun y a b => ?_, ?_⟩
    · rw [V3.m (by omega), V2.m (by omega), c1 (31 * (x - 1)) (by omega) (by omega), z1 (31 * (x - 1)) (by omega) (by omega)]
      exact r1
    · have b' : y < (pxAt T.1 x).2.length := b
      rw [V3.m (by omega), V2.m (by omega), show 1240 * w + 31 * (x - 1) + 1 + y = 1240 * w + (31 * (x - 1) + 1 + y) by omega, c1 (31 * (x - 1) + 1 + y) (by omega) (by omega), z1 (31 * (x - 1) + 1 + y) (by omega) (by omega)]
      exact r2 y a b
    · rw [V3.m (by omega), c2 (x - 1) (by omega) (by omega), V1.m (by omega), z2 (x - 1) (by omega) (by omega)]
      exact i
set_option maxHeartbeats 8000000 in
theorem n_noteDeed {h0 h : jw_H} {T : pxTx} {D : List (Int × pxSn)} (H : pyS h) (L : pyL h0 T.1) (K : pyK h0 T.2.1) (e16 : pxM h0 587 16 = T.2.2.1) (Z : pySv h0 h) (R : pyDI h D) :
    pxW (f_X12_noteDeed h 587) fun _ h' => pyV pyQnd h h' ∧ pyDI h' (pxPush D (pxM h 587 63, pxSnap T)) := by
  obtain ⟨B, B0, B1, e61, e62, d40, R⟩ := R
  have ew : B + D.length - (B + D.length) / 40 * 40 = (B + D.length) % 40 := by omega
  unfold f_X12_noteDeed pxPush
  by_cases c : D.length < 40
  · rw [if_pos c]
    have V1 : pyV (fun k f => k = 587 ∧ f = 62) h (jw_setI h 587 62 (pxJ (D.length + 1))) := pyV.rfl.set ⟨rfl, rfl⟩
    have B8 := n_noteDeed_b48 (h := jw_setI h 587 62 (pxJ (D.length + 1))) (w := (B + D.length) % 40) (T := T) H L K e16 (Z.keep V1 (fun k f z => by unfold pyQsv at z; omega)) (by omega) (by omega)
    have nd : ¬ (D.length : Int) = 40 := by omega
    try simp (maxSteps := 4000000) (disch := first | assumption | omega | (simp only [pyS_I]; assumption)) only [pxL0, pxL1, pxL2, pxL3, pxL4, pxL5, pxL6, pxL7, pxL8, pxL9, pxL10, pxL11, pxL12, pxL13, pxL14, pxL15, pxL16, pxL17, pxL18, pxL19, pxL20, pxL21, pxL22, pxL23, pxL24, pxL25, pxL26, pxL27, pxL28, pxL29, pxL30, pxL31, pxL32, pxL33, pxL34, pxL35, pxL36, pxL37, pxL38, pxL39, pxL40, pxL41, pxL42, pxL43, pxL44, pxL45, pxL46, pxL47, pxL48, pxL49, pxL51, pxL57, pxL58, pxL59, pxL60, pxL61, pxL62, pxL63, pxL64, pxL65, pxL66, pxL67, pxL68, pxL69, pxL70, pxL71, pxL72, pxL73, pxL74, pxL75, pxL76, pxL77, pxL78, pxL79, pxL80, pxL81, pxL82, pxL83, pxL84, pxL85, pxL86, pxL87, pxL88, pxL89, pxL90, pxL91, pxL92, pxL93, pxL94, pxL95, pxL96, pxL97, pxL98, pxL99, pxL100, pxL101, pxL102, pxL103, pxL104, pxL105, pxL106, pxL107, pxL108, pxL109, pxL110, pxL111, pxL112, pxL113, pxL114, pxL115, pxL116, pxL117, pxL118, pxL119, pxL120, pxL121, pxL122, pxL123, pxL124, pxL125, pxL126, pxL200, pxL240, pxL287, pxL388, pxL400, pxL429, pxL431, pxL440, pxL1240, pxL1600, pxL1681, pxL12028, pxL13849, pxL14880, pxL25173, pxL26908, pxL49600, pxL65535, pxL65536, ↓reduceIte, reduceCtorEq, pxJ_add, pxJ_sub, pxJ_mul, pxJ_neg, pxD_lt_t, pxD_lt_f, pxD_le_t, pxD_le_f, pxD_eq_t, pxD_eq_f, pxJ_lt, pxJ_le, pxJ_eq, pxJ_div, px_b2, px_bs, px_rb0, px_rb1, pxW_some, Option.some.injEq, pxM_eq, pxM_ne, pyN_gI, pyN_pI, pyN_rc, pyN_g1, pyN_a588, pyN_s588, pyN_g3, pyN_a589, pyN_s589, pyN_g4, pyN_a590, pyN_s590, pyN_g5, pyN_a591, pyN_s591, pyN_g6, pyN_a592, pyN_s592, pyN_g7, pyN_a593, pyN_s593, pyN_g8, pyN_a594, pyN_s594, pyN_g9, pyN_a595, pyN_s595, pyN_g10, pyN_a596, pyN_s596, pyN_g11, pyN_a597, pyN_s597, pyN_g19, pyN_a598, pyN_s598, pyN_g21, pyN_a599, pyN_s599, pyN_g31, pyN_a600, pyN_s600, pyN_g32, pyN_a601, pyN_s601, pyN_g38, pyN_a602, pyN_s602, pyN_g39, pyN_a603, pyN_s603, pyN_g46, pyN_a604, pyN_s604, pyN_g47, pyN_a605, pyN_s605, pyN_g48, pyN_a606, pyN_s606, pyN_g49, pyN_a607, pyN_s607, pyN_g55, pyN_a608, pyN_s608, pyN_g56, pyN_a609, pyN_s609, pyN_g57, pyN_a610, pyN_s610, pyN_g58, pyN_a611, pyN_s611, pyN_g59, pyN_a612, pyN_s612, pyN_g60, pyN_a613, pyN_s613, pyN_g74, pyN_a614, pyN_s614, pyN_g75, pyN_a615, pyN_s615, pyN_g76, pyN_a616, pyN_s616, pyN_g78, pyN_a617, pyN_s617, pyN_g79, pyN_a618, pyN_s618, e61, e62]
    rw [ew]
    refine pxW.mono (B8) fun v h' q => ?_
    obtain ⟨V2, Zd⟩ := q
    refine ⟨(V1.mono (fun k f z => by unfold pyQnd; omega)).trans (V2.mono (fun k f z => by unfold pyQw2 at z; unfold pyQnd; omega)), B, B0, B1, ?_, ?_, ?_, fun i d hd => ?_⟩
    · rw [V2.m (by unfold pyQw2; omega), pxM_ne (by omega)]; exact e61
    · rw [V2.m (by unfold pyQw2; omega), pxM_eq (by omega) (by omega), List.length_append, List.length_singleton]; omega
    · rw [List.length_append, List.length_singleton]; omega
    · by_cases y : i < D.length
      · rw [List.getElem?_append_left y] at hd
        have z := R i d hd
        exact (z.keep V1 (by omega) (fun k f z => by unfold pyQw2 at z; omega)).keep V2 (by omega) (fun k f z => by unfold pyQw2 at z ⊢; omega)
      · rw [List.getElem?_append_right (by omega)] at hd
        have i0 : i = D.length := by
          by_cases z : i - D.length = 0
          · omega
          · rw [List.getElem?_eq_none (by rw [List.length_singleton]; omega)] at hd; cases hd
        rw [i0, Nat.sub_self] at hd
        cases hd
        rw [i0]
        rw [pxM_ne (by omega)] at Zd
        exact Zd
  · rw [if_neg c]
    have c40 : (D.length : Int) = 40 := by omega
    have V1 : pyV (fun k f => k = 587 ∧ f = 61) h (jw_setI h 587 61 (pxJ ((B + 1) % 40))) := pyV.rfl.set ⟨rfl, rfl⟩
    have B8 := n_noteDeed_b48 (h := jw_setI h 587 61 (pxJ ((B + 1) % 40))) (w := (B + D.length) % 40) (T := T) H L K e16 (Z.keep V1 (fun k f z => by unfold pyQsv at z; omega)) (by omega) (by omega)
    have e1 : B + 1 - (B + 1) / 40 * 40 = (B + 1) % 40 := by omega
    rw [c40] at B8 ew
    try simp (maxSteps := 4000000) (disch := first | assumption | omega | (simp only [pyS_I]; assumption)) only [pxL0, pxL1, pxL2, pxL3, pxL4, pxL5, pxL6, pxL7, pxL8, pxL9, pxL10, pxL11, pxL12, pxL13, pxL14, pxL15, pxL16, pxL17, pxL18, pxL19, pxL20, pxL21, pxL22, pxL23, pxL24, pxL25, pxL26, pxL27, pxL28, pxL29, pxL30, pxL31, pxL32, pxL33, pxL34, pxL35, pxL36, pxL37, pxL38, pxL39, pxL40, pxL41, pxL42, pxL43, pxL44, pxL45, pxL46, pxL47, pxL48, pxL49, pxL51, pxL57, pxL58, pxL59, pxL60, pxL61, pxL62, pxL63, pxL64, pxL65, pxL66, pxL67, pxL68, pxL69, pxL70, pxL71, pxL72, pxL73, pxL74, pxL75, pxL76, pxL77, pxL78, pxL79, pxL80, pxL81, pxL82, pxL83, pxL84, pxL85, pxL86, pxL87, pxL88, pxL89, pxL90, pxL91, pxL92, pxL93, pxL94, pxL95, pxL96, pxL97, pxL98, pxL99, pxL100, pxL101, pxL102, pxL103, pxL104, pxL105, pxL106, pxL107, pxL108, pxL109, pxL110, pxL111, pxL112, pxL113, pxL114, pxL115, pxL116, pxL117, pxL118, pxL119, pxL120, pxL121, pxL122, pxL123, pxL124, pxL125, pxL126, pxL200, pxL240, pxL287, pxL388, pxL400, pxL429, pxL431, pxL440, pxL1240, pxL1600, pxL1681, pxL12028, pxL13849, pxL14880, pxL25173, pxL26908, pxL49600, pxL65535, pxL65536, ↓reduceIte, reduceCtorEq, pxJ_add, pxJ_sub, pxJ_mul, pxJ_neg, pxD_lt_t, pxD_lt_f, pxD_le_t, pxD_le_f, pxD_eq_t, pxD_eq_f, pxJ_lt, pxJ_le, pxJ_eq, pxJ_div, px_b2, px_bs, px_rb0, px_rb1, pxW_some, Option.some.injEq, pxM_eq, pxM_ne, pyN_gI, pyN_pI, pyN_rc, pyN_g1, pyN_a588, pyN_s588, pyN_g3, pyN_a589, pyN_s589, pyN_g4, pyN_a590, pyN_s590, pyN_g5, pyN_a591, pyN_s591, pyN_g6, pyN_a592, pyN_s592, pyN_g7, pyN_a593, pyN_s593, pyN_g8, pyN_a594, pyN_s594, pyN_g9, pyN_a595, pyN_s595, pyN_g10, pyN_a596, pyN_s596, pyN_g11, pyN_a597, pyN_s597, pyN_g19, pyN_a598, pyN_s598, pyN_g21, pyN_a599, pyN_s599, pyN_g31, pyN_a600, pyN_s600, pyN_g32, pyN_a601, pyN_s601, pyN_g38, pyN_a602, pyN_s602, pyN_g39, pyN_a603, pyN_s603, pyN_g46, pyN_a604, pyN_s604, pyN_g47, pyN_a605, pyN_s605, pyN_g48, pyN_a606, pyN_s606, pyN_g49, pyN_a607, pyN_s607, pyN_g55, pyN_a608, pyN_s608, pyN_g56, pyN_a609, pyN_s609, pyN_g57, pyN_a610, pyN_s610, pyN_g58, pyN_a611, pyN_s611, pyN_g59, pyN_a612, pyN_s612, pyN_g60, pyN_a613, pyN_s613, pyN_g74, pyN_a614, pyN_s614, pyN_g75, pyN_a615, pyN_s615, pyN_g76, pyN_a616, pyN_s616, pyN_g78, pyN_a617, pyN_s617, pyN_g79, pyN_a618, pyN_s618, e61, e62, c40]
    rw [ew, e1]
    refine pxW.mono (B8) fun v h' q => ?_
    obtain ⟨V2, Zd⟩ := q
    have tl : (D.tail ++ [(pxM h 587 63, pxSnap T)]).length = 40 := by rw [List.length_append, List.length_tail, List.length_singleton]; omega
    refine ⟨(V1.mono (fun k f z => by unfold pyQnd; omega)).trans (V2.mono (fun k f z => by unfold pyQw2 at z; unfold pyQnd; omega)), (B + 1) % 40, by omega, by omega, ?_, ?_, by omega, fun i d hd => ?_⟩
    · rw [V2.m (by unfold pyQw2; omega), pxM_eq (by omega) (by omega)]
    · rw [V2.m (by unfold pyQw2; omega), pxM_ne (by omega), e62, tl]; omega
    · by_cases y : i < D.tail.length
      · rw [List.getElem?_append_left y, List.getElem?_tail] at hd
        have z := R (i + 1) d hd
        rw [List.length_tail] at y
        rw [show (B + ((i + 1 : Nat) : Int)) % 40 = ((B + 1) % 40 + (i : Int)) % 40 by omega] at z
        exact (z.keep V1 (by omega) (fun k f z => by unfold pyQw2 at z; omega)).keep V2 (by omega) (fun k f z => by unfold pyQw2 at z ⊢; omega)
      · rw [List.getElem?_append_right (by omega)] at hd
        rw [List.length_tail] at y hd
        have i0 : i = D.length - 1 := by
          by_cases z : i - (D.length - 1) = 0
          · omega
          · rw [List.getElem?_eq_none (by rw [List.length_singleton]; omega)] at hd; cases hd
        rw [i0, Nat.sub_self] at hd
        cases hd
        rw [show ((B + 1) % 40 + (i : Int)) % 40 = (B + 40) % 40 by omega]
        rw [pxM_ne (by omega)] at Zd
        exact Zd
