/-! the reference: a pattern's elements -/
def pyEls (h : jw_H) : Int → List (Int × Int) → Prop
  | _, [] => True
  | e, x :: l => pxM h 600 e.toNat = x.1 ∧ pxM h 601 e.toNat = x.2 ∧ pyEls h (e + 1) l
def pyStn : List (Int × Int) → Int
  | [] => 0
  | x :: l => (if x.1 = 3 then 1 else 0) + pyStn l
theorem pyStn_0 : ∀ (l : List (Int × Int)), 0 ≤ pyStn l ∧ pyStn l ≤ l.length
  | [] => ⟨by decide, by decide⟩
  | x :: l => by
    have := pyStn_0 l
    unfold pyStn
    simp only [List.length_cons]
    split <;> omega
theorem pyEls.keep {P : Nat → Nat → Prop} {h h1 : jw_H} (V : pyV P h h1) : ∀ (l : List (Int × Int)) (e : Int), 0 ≤ e → pyEls h e l → (∀ f : Nat, e ≤ f → (f : Int) < e + l.length → ¬ P 600 f ∧ ¬ P 601 f) → pyEls h1 e l
  | [], _, _, _, _ => trivial
  | x :: l, e, e0, E, n => by
    obtain ⟨a, b, c⟩ := E
    simp only [List.length_cons] at n
    have n0 := n e.toNat (by omega) (by omega)
    exact ⟨by rw [V.m n0.1]; exact a, by rw [V.m n0.2]; exact b, pyEls.keep V l (e + 1) (by omega) c (fun f f1 f2 => n f (by omega) (by omega))⟩
def pyQke (e : Int) : Nat → Nat → Prop := fun k f => ((k = 600 ∨ k = 601) ∧ e ≤ f) ∨ (k = 587 ∧ 33 ≤ f ∧ f ≤ 37 ∧ f ≠ 35)
def pyQk : Nat → Nat → Prop := fun k f => k = 600 ∨ k = 601 ∨ (k = 587 ∧ 33 ≤ f ∧ f ≤ 37)
/-- the elements were noted -/
def pyCo (s : List Int) (e st : Int) (M : Bool × Int × List (Int × Int) × Int) (h h' : jw_H) : Prop :=
  pyV (pyQke e) h h' ∧ pyEls h' e M.2.2.1 ∧ pxM h' 587 33 = e + M.2.2.1.length ∧ pxM h' 587 34 = st + pyStn M.2.2.1 ∧ pxM h' 587 36 = (if pxP s M.2.1 = 36 then 1 else 0) ∧ pxM h' 587 37 = (if pxP s M.2.1 = 36 then M.2.1 + 1 else M.2.1)
set_option maxHeartbeats 8000000 in
theorem n_element {h : jw_H} {e a b : Int} (H : pyS h) (e33 : pxM h 587 33 = e) (e0 : 0 ≤ e) (e1 : e < 64) : f_X12_element h 587 (pxJ a) (pxJ b) = some ((), jw_setI (jw_setI (jw_setI h 600 e.toNat (pxJ a)) 601 e.toNat (pxJ b)) 587 33 (pxJ (e + 1))) := by
  unfold f_X12_element
  try simp (maxSteps := 4000000) (disch := first | assumption | omega | (simp only [pyS_I]; assumption)) only [pxL0, pxL1, pxL2, pxL3, pxL4, pxL5, pxL6, pxL7, pxL8, pxL9, pxL10, pxL11, pxL12, pxL13, pxL14, pxL15, pxL16, pxL17, pxL18, pxL19, pxL20, pxL21, pxL22, pxL23, pxL24, pxL25, pxL26, pxL27, pxL28, pxL29, pxL30, pxL31, pxL32, pxL33, pxL34, pxL35, pxL36, pxL37, pxL38, pxL39, pxL40, pxL41, pxL42, pxL43, pxL44, pxL45, pxL46, pxL47, pxL48, pxL49, pxL51, pxL57, pxL58, pxL59, pxL60, pxL61, pxL62, pxL63, pxL64, pxL65, pxL66, pxL67, pxL68, pxL69, pxL70, pxL71, pxL72, pxL73, pxL74, pxL75, pxL76, pxL77, pxL78, pxL79, pxL80, pxL81, pxL82, pxL83, pxL84, pxL85, pxL86, pxL87, pxL88, pxL89, pxL90, pxL91, pxL92, pxL93, pxL94, pxL95, pxL96, pxL97, pxL98, pxL99, pxL100, pxL101, pxL102, pxL103, pxL104, pxL105, pxL106, pxL107, pxL108, pxL109, pxL110, pxL111, pxL112, pxL113, pxL114, pxL115, pxL116, pxL117, pxL118, pxL119, pxL120, pxL121, pxL122, pxL123, pxL124, pxL125, pxL126, pxL200, pxL240, pxL287, pxL388, pxL400, pxL429, pxL431, pxL440, pxL1240, pxL1600, pxL1681, pxL12028, pxL13849, pxL14880, pxL25173, pxL26908, pxL49600, pxL65535, pxL65536, ↓reduceIte, reduceCtorEq, pxJ_add, pxJ_sub, pxJ_mul, pxJ_neg, pxD_lt_t, pxD_lt_f, pxD_le_t, pxD_le_f, pxD_eq_t, pxD_eq_f, pxJ_lt, pxJ_le, pxJ_eq, pxJ_div, px_b2, px_bs, px_rb0, px_rb1, pxW_some, Option.some.injEq, pxM_eq, pxM_ne, pyN_gI, pyN_pI, pyN_rc, pyN_g1, pyN_a588, pyN_s588, pyN_g3, pyN_a589, pyN_s589, pyN_g4, pyN_a590, pyN_s590, pyN_g5, pyN_a591, pyN_s591, pyN_g6, pyN_a592, pyN_s592, pyN_g7, pyN_a593, pyN_s593, pyN_g8, pyN_a594, pyN_s594, pyN_g9, pyN_a595, pyN_s595, pyN_g10, pyN_a596, pyN_s596, pyN_g11, pyN_a597, pyN_s597, pyN_g19, pyN_a598, pyN_s598, pyN_g21, pyN_a599, pyN_s599, pyN_g31, pyN_a600, pyN_s600, pyN_g32, pyN_a601, pyN_s601, pyN_g38, pyN_a602, pyN_s602, pyN_g39, pyN_a603, pyN_s603, pyN_g46, pyN_a604, pyN_s604, pyN_g47, pyN_a605, pyN_s605, pyN_g48, pyN_a606, pyN_s606, pyN_g49, pyN_a607, pyN_s607, pyN_g55, pyN_a608, pyN_s608, pyN_g56, pyN_a609, pyN_s609, pyN_g57, pyN_a610, pyN_s610, pyN_g58, pyN_a611, pyN_s611, pyN_g59, pyN_a612, pyN_s612, pyN_g60, pyN_a613, pyN_s613, pyN_g74, pyN_a614, pyN_s614, pyN_g75, pyN_a615, pyN_s615, pyN_g76, pyN_a616, pyN_s616, pyN_g78, pyN_a617, pyN_s617, pyN_g79, pyN_a618, pyN_s618, e33]
theorem pyG_600 {h : jw_H} {s : List Int} {k f : Nat} {v : Int32} (hk : k ≠ 587) (hk2 : k ≠ 599) : pyG (jw_setI h k f v) s = pyG h s := by
  unfold pyG
  simp only [pxM_ne (show (587 : Nat) ≠ k ∨ 22 ≠ f from Or.inl (Ne.symm hk)), show ∀ x, pxM (jw_setI h k f v) 599 x = pxM h 599 x from fun x => pxM_ne (Or.inl (Ne.symm hk2))]
set_option maxHeartbeats 8000000 in
theorem n_compile_b186 {s : List Int} {u x4 : Int} {k63 : jw_H → Nat → Int32 → Int32 → Int32 → Option (Unit × jw_H)} {h : jw_H} (H : pyS h) (G : pyG h s) : ∀ (m N : Nat) (p : Int), (∀ j : Int, p ≤ j → j < p + m → pxP s j ≠ 93) → pxP s (p + m) = 93 → 0 ≤ p → m < N →
    f_X12_compile_b186 k63 N h 587 (pxJ u) (pxJ p) (pxJ x4) = k63 h 587 (pxJ u) (pxJ (p + m + 1)) (pxJ x4) := by
  have l60 := G.2.1.1
  intro m
  induction m with
  | zero =>
    intro N p n e p0 hN
    obtain ⟨N, rfl, -⟩ := px_fu hN
    rw [show p + ((0 : Nat) : Int) = p by omega] at e ⊢
    have pl := (pxP_lt (s := s) (p := p) (by omega)).2
    have m0 := G.2.2 p p0 pl
    rw [← pxP_E p0 pl, e] at m0
    rw [u_X12_compile_b186]
    unfold g_X12_compile_b186 g_X12_compile_b253
    try simp (maxSteps := 4000000) (disch := first | assumption | omega | (simp only [pyS_I]; assumption)) only [pxL0, pxL1, pxL2, pxL3, pxL4, pxL5, pxL6, pxL7, pxL8, pxL9, pxL10, pxL11, pxL12, pxL13, pxL14, pxL15, pxL16, pxL17, pxL18, pxL19, pxL20, pxL21, pxL22, pxL23, pxL24, pxL25, pxL26, pxL27, pxL28, pxL29, pxL30, pxL31, pxL32, pxL33, pxL34, pxL35, pxL36, pxL37, pxL38, pxL39, pxL40, pxL41, pxL42, pxL43, pxL44, pxL45, pxL46, pxL47, pxL48, pxL49, pxL51, pxL57, pxL58, pxL59, pxL60, pxL61, pxL62, pxL63, pxL64, pxL65, pxL66, pxL67, pxL68, pxL69, pxL70, pxL71, pxL72, pxL73, pxL74, pxL75, pxL76, pxL77, pxL78, pxL79, pxL80, pxL81, pxL82, pxL83, pxL84, pxL85, pxL86, pxL87, pxL88, pxL89, pxL90, pxL91, pxL92, pxL93, pxL94, pxL95, pxL96, pxL97, pxL98, pxL99, pxL100, pxL101, pxL102, pxL103, pxL104, pxL105, pxL106, pxL107, pxL108, pxL109, pxL110, pxL111, pxL112, pxL113, pxL114, pxL115, pxL116, pxL117, pxL118, pxL119, pxL120, pxL121, pxL122, pxL123, pxL124, pxL125, pxL126, pxL200, pxL240, pxL287, pxL388, pxL400, pxL429, pxL431, pxL440, pxL1240, pxL1600, pxL1681, pxL12028, pxL13849, pxL14880, pxL25173, pxL26908, pxL49600, pxL65535, pxL65536, ↓reduceIte, reduceCtorEq, pxJ_add, pxJ_sub, pxJ_mul, pxJ_neg, pxD_lt_t, pxD_lt_f, pxD_le_t, pxD_le_f, pxD_eq_t, pxD_eq_f, pxJ_lt, pxJ_le, pxJ_eq, pxJ_div, px_b2, px_bs, px_rb0, px_rb1, pxW_some, Option.some.injEq, pxM_eq, pxM_ne, pyN_gI, pyN_pI, pyN_rc, pyN_g1, pyN_a588, pyN_s588, pyN_g3, pyN_a589, pyN_s589, pyN_g4, pyN_a590, pyN_s590, pyN_g5, pyN_a591, pyN_s591, pyN_g6, pyN_a592, pyN_s592, pyN_g7, pyN_a593, pyN_s593, pyN_g8, pyN_a594, pyN_s594, pyN_g9, pyN_a595, pyN_s595, pyN_g10, pyN_a596, pyN_s596, pyN_g11, pyN_a597, pyN_s597, pyN_g19, pyN_a598, pyN_s598, pyN_g21, pyN_a599, pyN_s599, pyN_g31, pyN_a600, pyN_s600, pyN_g32, pyN_a601, pyN_s601, pyN_g38, pyN_a602, pyN_s602, pyN_g39, pyN_a603, pyN_s603, pyN_g46, pyN_a604, pyN_s604, pyN_g47, pyN_a605, pyN_s605, pyN_g48, pyN_a606, pyN_s606, pyN_g49, pyN_a607, pyN_s607, pyN_g55, pyN_a608, pyN_s608, pyN_g56, pyN_a609, pyN_s609, pyN_g57, pyN_a610, pyN_s610, pyN_g58, pyN_a611, pyN_s611, pyN_g59, pyN_a612, pyN_s612, pyN_g60, pyN_a613, pyN_s613, pyN_g74, pyN_a614, pyN_s614, pyN_g75, pyN_a615, pyN_s615, pyN_g76, pyN_a616, pyN_s616, pyN_g78, pyN_a617, pyN_s617, pyN_g79, pyN_a618, pyN_s618, m0]
  | succ m ih =>
    intro N p n e p0 hN
    obtain ⟨N, rfl, hN⟩ := px_fu hN
    have pl := (pxP_lt (s := s) (p := p + ((m + 1 : Nat) : Int)) (by omega)).2
    have m0 := G.2.2 p p0 (by omega)
    rw [← pxP_E p0 (by omega)] at m0
    have ne := n p (by omega) (by omega)
    have i1 := pxP_in G.2.1 p
    have ih' := ih N (p + 1) (fun j a b => n j (by omega) (by omega)) (by rw [show p + 1 + (m : Int) = p + ((m + 1 : Nat) : Int) by omega]; exact e) (by omega) (by omega)
    rw [u_X12_compile_b186]
    unfold g_X12_compile_b186
    try simp (maxSteps := 4000000) (disch := first | assumption | omega | (simp only [pyS_I]; assumption)) only [pxL0, pxL1, pxL2, pxL3, pxL4, pxL5, pxL6, pxL7, pxL8, pxL9, pxL10, pxL11, pxL12, pxL13, pxL14, pxL15, pxL16, pxL17, pxL18, pxL19, pxL20, pxL21, pxL22, pxL23, pxL24, pxL25, pxL26, pxL27, pxL28, pxL29, pxL30, pxL31, pxL32, pxL33, pxL34, pxL35, pxL36, pxL37, pxL38, pxL39, pxL40, pxL41, pxL42, pxL43, pxL44, pxL45, pxL46, pxL47, pxL48, pxL49, pxL51, pxL57, pxL58, pxL59, pxL60, pxL61, pxL62, pxL63, pxL64, pxL65, pxL66, pxL67, pxL68, pxL69, pxL70, pxL71, pxL72, pxL73, pxL74, pxL75, pxL76, pxL77, pxL78, pxL79, pxL80, pxL81, pxL82, pxL83, pxL84, pxL85, pxL86, pxL87, pxL88, pxL89, pxL90, pxL91, pxL92, pxL93, pxL94, pxL95, pxL96, pxL97, pxL98, pxL99, pxL100, pxL101, pxL102, pxL103, pxL104, pxL105, pxL106, pxL107, pxL108, pxL109, pxL110, pxL111, pxL112, pxL113, pxL114, pxL115, pxL116, pxL117, pxL118, pxL119, pxL120, pxL121, pxL122, pxL123, pxL124, pxL125, pxL126, pxL200, pxL240, pxL287, pxL388, pxL400, pxL429, pxL431, pxL440, pxL1240, pxL1600, pxL1681, pxL12028, pxL13849, pxL14880, pxL25173, pxL26908, pxL49600, pxL65535, pxL65536, ↓reduceIte, reduceCtorEq, pxJ_add, pxJ_sub, pxJ_mul, pxJ_neg, pxD_lt_t, pxD_lt_f, pxD_le_t, pxD_le_f, pxD_eq_t, pxD_eq_f, pxJ_lt, pxJ_le, pxJ_eq, pxJ_div, px_b2, px_bs, px_rb0, px_rb1, pxW_some, Option.some.injEq, pxM_eq, pxM_ne, pyN_gI, pyN_pI, pyN_rc, pyN_g1, pyN_a588, pyN_s588, pyN_g3, pyN_a589, pyN_s589, pyN_g4, pyN_a590, pyN_s590, pyN_g5, pyN_a591, pyN_s591, pyN_g6, pyN_a592, pyN_s592, pyN_g7, pyN_a593, pyN_s593, pyN_g8, pyN_a594, pyN_s594, pyN_g9, pyN_a595, pyN_s595, pyN_g10, pyN_a596, pyN_s596, pyN_g11, pyN_a597, pyN_s597, pyN_g19, pyN_a598, pyN_s598, pyN_g21, pyN_a599, pyN_s599, pyN_g31, pyN_a600, pyN_s600, pyN_g32, pyN_a601, pyN_s601, pyN_g38, pyN_a602, pyN_s602, pyN_g39, pyN_a603, pyN_s603, pyN_g46, pyN_a604, pyN_s604, pyN_g47, pyN_a605, pyN_s605, pyN_g48, pyN_a606, pyN_s606, pyN_g49, pyN_a607, pyN_s607, pyN_g55, pyN_a608, pyN_s608, pyN_g56, pyN_a609, pyN_s609, pyN_g57, pyN_a610, pyN_s610, pyN_g58, pyN_a611, pyN_s611, pyN_g59, pyN_a612, pyN_s612, pyN_g60, pyN_a613, pyN_s613, pyN_g74, pyN_a614, pyN_s614, pyN_g75, pyN_a615, pyN_s615, pyN_g76, pyN_a616, pyN_s616, pyN_g78, pyN_a617, pyN_s617, pyN_g79, pyN_a618, pyN_s618, m0, ih']
    rw [show p + 1 + (m : Int) + 1 = p + ((m + 1 : Nat) : Int) + 1 by omega]
theorem pxCls_i {s : List Int} {p : Int} (p0 : 0 ≤ p) (h : (pxCls s p).1 = true) : pxSpan s (pxCl0 s p) ≠ [] ∧ pxP s (pxCl1 s p) = 93 ∧ (pxCls s p).2 = pxCl1 s p + 1 ∧ ∀ j : Int, p ≤ j → j < pxCl1 s p → pxP s j ≠ 93 := by
  unfold pxCls at h ⊢
  by_cases a : pxSpan s (pxCl0 s p) = []
  · rw [if_pos a] at h; cases h
  rw [if_neg a] at h ⊢
  by_cases b : pxP s (pxCl1 s p) = 93
  · rw [if_pos b]
    refine ⟨a, b, rfl, fun j j0 j1 => ?_⟩
    have c0 : pxCl0 s p = p ∨ (pxCl0 s p = p + 1 ∧ pxP s p = 94) := by
      unfold pxCl0
      by_cases c : pxP s p = 94
      · rw [if_pos c]; exact Or.inr ⟨rfl, c⟩
      · rw [if_neg c]; exact Or.inl rfl
    have key : pxCl0 s p ≤ j → pxP s j ≠ 93 := by
      intro z
      have := (pxSpan_at (s := s) (p := pxCl0 s p) (y := j - pxCl0 s p) (by omega) (by omega) (by unfold pxCl1 at j1; omega)).2
      rw [show pxCl0 s p + (j - pxCl0 s p) = j by omega, pxIsCh_i] at this
      omega
    rcases c0 with c | ⟨c, d⟩
    · exact key (by omega)
    · by_cases z : j = p
      · rw [z, d]; decide
      · exact key (by omega)
  · rw [if_neg b] at h; cases h
set_option maxHeartbeats 8000000 in
theorem n_compile_b63 {s : List Int} {u : Int} (hu : u = 47 ∨ u = 63 ∨ u = 0) : ∀ (m N : Nat) (h : jw_H) (g : Bool) (a i t k p e st : Int), pyS h → pyG h s → pxM h 587 33 = e → pxM h 587 34 = st → pxM h 587 36 = 0 → 0 ≤ p → p ≤ s.length → 0 ≤ e → e ≤ p → 0 ≤ st → st ≤ p → 0 ≤ k → k ≤ 2 → m + 1 < N → (pxMach s m g a i t k p).1 = true →
    ((pxP s (pxMach s m g a i t k p).2.1 = 36 ∧ pyC s ((pxMach s m g a i t k p).2.1 + 1) = u) ∨ (pxP s (pxMach s m g a i t k p).2.1 ≠ 36 ∧ pyC s (pxMach s m g a i t k p).2.1 = u)) →
    pxW (f_X12_compile_b63 N h 587 (pxJ u) (pxJ p) (pxJ k)) fun _ h' => pyCo s e st (pxMach s m g a i t k p) h h' := by
  intro m
  induction m with
  | zero => intro N h g a i t k p e st _ _ _ _ _ _ _ _ _ _ _ _ _ _ hM; unfold pxMach at hM; cases hM
  | succ m ih =>
    intro N h g a i t k p e st H G e33 e34 e36 p0 p1 e0 e1 st0 st1 k0 k1 hN hM hS
    obtain ⟨N, rfl, hN⟩ := px_fu hN
    have l60 := G.2.1.1
    have c0 := pyC_f G.2.1 p0
    have i1 := pxP_in G.2.1 p
    -- the loop ends
    have fin : ∀ (h1 : jw_H) (q : Int), pyS h1 → pyG h1 s → 0 ≤ q → q ≤ 100 → pyC s q = u → ∀ N : Nat, 0 < N → f_X12_compile_b63 N h1 587 (pxJ u) (pxJ q) (pxJ k) = some ((), jw_setI h1 587 37 (pxJ q)) := by
      intro h1 q H1 G1 q0 q1 cq N hN
      obtain ⟨N, rfl, -⟩ := px_fu hN
      rw [u_X12_compile_b63]
      unfold g_X12_compile_b63 g_X12_compile_b256
      by_cases en : (s.length : Int) ≤ q
      · try simp (maxSteps := 4000000) (disch := first | assumption | omega | (simp only [pyS_I]; assumption)) only [pxL0, pxL1, pxL2, pxL3, pxL4, pxL5, pxL6, pxL7, pxL8, pxL9, pxL10, pxL11, pxL12, pxL13, pxL14, pxL15, pxL16, pxL17, pxL18, pxL19, pxL20, pxL21, pxL22, pxL23, pxL24, pxL25, pxL26, pxL27, pxL28, pxL29, pxL30, pxL31, pxL32, pxL33, pxL34, pxL35, pxL36, pxL37, pxL38, pxL39, pxL40, pxL41, pxL42, pxL43, pxL44, pxL45, pxL46, pxL47, pxL48, pxL49, pxL51, pxL57, pxL58, pxL59, pxL60, pxL61, pxL62, pxL63, pxL64, pxL65, pxL66, pxL67, pxL68, pxL69, pxL70, pxL71, pxL72, pxL73, pxL74, pxL75, pxL76, pxL77, pxL78, pxL79, pxL80, pxL81, pxL82, pxL83, pxL84, pxL85, pxL86, pxL87, pxL88, pxL89, pxL90, pxL91, pxL92, pxL93, pxL94, pxL95, pxL96, pxL97, pxL98, pxL99, pxL100, pxL101, pxL102, pxL103, pxL104, pxL105, pxL106, pxL107, pxL108, pxL109, pxL110, pxL111, pxL112, pxL113, pxL114, pxL115, pxL116, pxL117, pxL118, pxL119, pxL120, pxL121, pxL122, pxL123, pxL124, pxL125, pxL126, pxL200, pxL240, pxL287, pxL388, pxL400, pxL429, pxL431, pxL440, pxL1240, pxL1600, pxL1681, pxL12028, pxL13849, pxL14880, pxL25173, pxL26908, pxL49600, pxL65535, pxL65536, ↓reduceIte, reduceCtorEq, pxJ_add, pxJ_sub, pxJ_mul, pxJ_neg, pxD_lt_t, pxD_lt_f, pxD_le_t, pxD_le_f, pxD_eq_t, pxD_eq_f, pxJ_lt, pxJ_le, pxJ_eq, pxJ_div, px_b2, px_bs, px_rb0, px_rb1, pxW_some, Option.some.injEq, pxM_eq, pxM_ne, pyN_gI, pyN_pI, pyN_rc, pyN_g1, pyN_a588, pyN_s588, pyN_g3, pyN_a589, pyN_s589, pyN_g4, pyN_a590, pyN_s590, pyN_g5, pyN_a591, pyN_s591, pyN_g6, pyN_a592, pyN_s592, pyN_g7, pyN_a593, pyN_s593, pyN_g8, pyN_a594, pyN_s594, pyN_g9, pyN_a595, pyN_s595, pyN_g10, pyN_a596, pyN_s596, pyN_g11, pyN_a597, pyN_s597, pyN_g19, pyN_a598, pyN_s598, pyN_g21, pyN_a599, pyN_s599, pyN_g31, pyN_a600, pyN_s600, pyN_g32, pyN_a601, pyN_s601, pyN_g38, pyN_a602, pyN_s602, pyN_g39, pyN_a603, pyN_s603, pyN_g46, pyN_a604, pyN_s604, pyN_g47, pyN_a605, pyN_s605, pyN_g48, pyN_a606, pyN_s606, pyN_g49, pyN_a607, pyN_s607, pyN_g55, pyN_a608, pyN_s608, pyN_g56, pyN_a609, pyN_s609, pyN_g57, pyN_a610, pyN_s610, pyN_g58, pyN_a611, pyN_s611, pyN_g59, pyN_a612, pyN_s612, pyN_g60, pyN_a613, pyN_s613, pyN_g74, pyN_a614, pyN_s614, pyN_g75, pyN_a615, pyN_s615, pyN_g76, pyN_a616, pyN_s616, pyN_g78, pyN_a617, pyN_s617, pyN_g79, pyN_a618, pyN_s618, G1.1]
      · have m0 := G1.2.2 q q0 (by omega)
        have cc := pyC_f G1.2.1 q0
        rw [← pxP_E q0 (by omega)] at m0
        have mu : pxM h1 599 q.toNat = u := by omega
        try simp (maxSteps := 4000000) (disch := first | assumption | omega | (simp only [pyS_I]; assumption)) only [pxL0, pxL1, pxL2, pxL3, pxL4, pxL5, pxL6, pxL7, pxL8, pxL9, pxL10, pxL11, pxL12, pxL13, pxL14, pxL15, pxL16, pxL17, pxL18, pxL19, pxL20, pxL21, pxL22, pxL23, pxL24, pxL25, pxL26, pxL27, pxL28, pxL29, pxL30, pxL31, pxL32, pxL33, pxL34, pxL35, pxL36, pxL37, pxL38, pxL39, pxL40, pxL41, pxL42, pxL43, pxL44, pxL45, pxL46, pxL47, pxL48, pxL49, pxL51, pxL57, pxL58, pxL59, pxL60, pxL61, pxL62, pxL63, pxL64, pxL65, pxL66, pxL67, pxL68, pxL69, pxL70, pxL71, pxL72, pxL73, pxL74, pxL75, pxL76, pxL77, pxL78, pxL79, pxL80, pxL81, pxL82, pxL83, pxL84, pxL85, pxL86, pxL87, pxL88, pxL89, pxL90, pxL91, pxL92, pxL93, pxL94, pxL95, pxL96, pxL97, pxL98, pxL99, pxL100, pxL101, pxL102, pxL103, pxL104, pxL105, pxL106, pxL107, pxL108, pxL109, pxL110, pxL111, pxL112, pxL113, pxL114, pxL115, pxL116, pxL117, pxL118, pxL119, pxL120, pxL121, pxL122, pxL123, pxL124, pxL125, pxL126, pxL200, pxL240, pxL287, pxL388, pxL400, pxL429, pxL431, pxL440, pxL1240, pxL1600, pxL1681, pxL12028, pxL13849, pxL14880, pxL25173, pxL26908, pxL49600, pxL65535, pxL65536, ↓reduceIte, reduceCtorEq, pxJ_add, pxJ_sub, pxJ_mul, pxJ_neg, pxD_lt_t, pxD_lt_f, pxD_le_t, pxD_le_f, pxD_eq_t, pxD_eq_f, pxJ_lt, pxJ_le, pxJ_eq, pxJ_div, px_b2, px_bs, px_rb0, px_rb1, pxW_some, Option.some.injEq, pxM_eq, pxM_ne, pyN_gI, pyN_pI, pyN_rc, pyN_g1, pyN_a588, pyN_s588, pyN_g3, pyN_a589, pyN_s589, pyN_g4, pyN_a590, pyN_s590, pyN_g5, pyN_a591, pyN_s591, pyN_g6, pyN_a592, pyN_s592, pyN_g7, pyN_a593, pyN_s593, pyN_g8, pyN_a594, pyN_s594, pyN_g9, pyN_a595, pyN_s595, pyN_g10, pyN_a596, pyN_s596, pyN_g11, pyN_a597, pyN_s597, pyN_g19, pyN_a598, pyN_s598, pyN_g21, pyN_a599, pyN_s599, pyN_g31, pyN_a600, pyN_s600, pyN_g32, pyN_a601, pyN_s601, pyN_g38, pyN_a602, pyN_s602, pyN_g39, pyN_a603, pyN_s603, pyN_g46, pyN_a604, pyN_s604, pyN_g47, pyN_a605, pyN_s605, pyN_g48, pyN_a606, pyN_s606, pyN_g49, pyN_a607, pyN_s607, pyN_g55, pyN_a608, pyN_s608, pyN_g56, pyN_a609, pyN_s609, pyN_g57, pyN_a610, pyN_s610, pyN_g58, pyN_a611, pyN_s611, pyN_g59, pyN_a612, pyN_s612, pyN_g60, pyN_a613, pyN_s613, pyN_g74, pyN_a614, pyN_s614, pyN_g75, pyN_a615, pyN_s615, pyN_g76, pyN_a616, pyN_s616, pyN_g78, pyN_a617, pyN_s617, pyN_g79, pyN_a618, pyN_s618, G1.1, mu]
    -- one element more
    have em : ∀ (el : Int × Int) (M' : Bool × Int × List (Int × Int) × Int) (h1 h' : jw_H), pyV (pyQke e) h h1 → pxM h1 600 e.toNat = el.1 → pxM h1 601 e.toNat = el.2 → pyCo s (e + 1) (if el.1 = 3 then st + 1 else st) M' h1 h' → pyCo s e st (pxEm el M') h h' := by
      intro el M' h1 h' V1 a1 a2 C
      obtain ⟨V2, E, f33, f34, f36, f37⟩ := C
      refine ⟨V1.trans (V2.mono (fun k f z => by unfold pyQke at z ⊢; omega)), ⟨?_, ?_, E⟩, ?_, ?_, f36, f37⟩
      · rw [V2.m (by unfold pyQke; omega)]; exact a1
      · rw [V2.m (by unfold pyQke; omega)]; exact a2
      · rw [f33]
        show e + 1 + (M'.2.2.1.length : Int) = e + ((el :: M'.2.2.1).length : Int)
        simp only [List.length_cons]; omega
      · rw [f34]
        show _ = st + ((if el.1 = 3 then 1 else 0) + pyStn M'.2.2.1)
        split <;> omega
    have stop : pxMach s (m + 1) g a i t k p = (true, p, [], k) → pxW (f_X12_compile_b63 (N + 1) h 587 (pxJ u) (pxJ p) (pxJ k)) fun _ h' => pyCo s e st (pxMach s (m + 1) g a i t k p) h h' := by
      intro eM
      rw [eM] at hS ⊢
      dsimp only at hS
      have V : ∀ q : Int, pyV (pyQke e) h (jw_setI h 587 37 (pxJ q)) := fun q => pyV.rfl.set (by unfold pyQke; omega)
      rcases hS with ⟨c36, cu⟩ | ⟨c36, cu⟩
      · have pl := (pxP_lt (s := s) (p := p) (by omega)).2
        have m0 := G.2.2 p p0 pl
        rw [← pxP_E p0 pl, c36] at m0
        rw [u_X12_compile_b63]
        unfold g_X12_compile_b63 g_X12_compile_b253
        have pb := pyN_pB H 36 (pxJ 1) (Or.inr rfl)
        have R := fin (jw_setI h 587 36 (pxJ 1)) (p + 1) H (by rw [pyG_I (by decide)]; exact G) (by omega) (by omega) cu N (by omega)
        try simp (maxSteps := 4000000) (disch := first | assumption | omega | (simp only [pyS_I]; assumption)) only [pxL0, pxL1, pxL2, pxL3, pxL4, pxL5, pxL6, pxL7, pxL8, pxL9, pxL10, pxL11, pxL12, pxL13, pxL14, pxL15, pxL16, pxL17, pxL18, pxL19, pxL20, pxL21, pxL22, pxL23, pxL24, pxL25, pxL26, pxL27, pxL28, pxL29, pxL30, pxL31, pxL32, pxL33, pxL34, pxL35, pxL36, pxL37, pxL38, pxL39, pxL40, pxL41, pxL42, pxL43, pxL44, pxL45, pxL46, pxL47, pxL48, pxL49, pxL51, pxL57, pxL58, pxL59, pxL60, pxL61, pxL62, pxL63, pxL64, pxL65, pxL66, pxL67, pxL68, pxL69, pxL70, pxL71, pxL72, pxL73, pxL74, pxL75, pxL76, pxL77, pxL78, pxL79, pxL80, pxL81, pxL82, pxL83, pxL84, pxL85, pxL86, pxL87, pxL88, pxL89, pxL90, pxL91, pxL92, pxL93, pxL94, pxL95, pxL96, pxL97, pxL98, pxL99, pxL100, pxL101, pxL102, pxL103, pxL104, pxL105, pxL106, pxL107, pxL108, pxL109, pxL110, pxL111, pxL112, pxL113, pxL114, pxL115, pxL116, pxL117, pxL118, pxL119, pxL120, pxL121, pxL122, pxL123, pxL124, pxL125, pxL126, pxL200, pxL240, pxL287, pxL388, pxL400, pxL429, pxL431, pxL440, pxL1240, pxL1600, pxL1681, pxL12028, pxL13849, pxL14880, pxL25173, pxL26908, pxL49600, pxL65535, pxL65536, ↓reduceIte, reduceCtorEq, pxJ_add, pxJ_sub, pxJ_mul, pxJ_neg, pxD_lt_t, pxD_lt_f, pxD_le_t, pxD_le_f, pxD_eq_t, pxD_eq_f, pxJ_lt, pxJ_le, pxJ_eq, pxJ_div, px_b2, px_bs, px_rb0, px_rb1, pxW_some, Option.some.injEq, pxM_eq, pxM_ne, pyN_gI, pyN_pI, pyN_rc, pyN_g1, pyN_a588, pyN_s588, pyN_g3, pyN_a589, pyN_s589, pyN_g4, pyN_a590, pyN_s590, pyN_g5, pyN_a591, pyN_s591, pyN_g6, pyN_a592, pyN_s592, pyN_g7, pyN_a593, pyN_s593, pyN_g8, pyN_a594, pyN_s594, pyN_g9, pyN_a595, pyN_s595, pyN_g10, pyN_a596, pyN_s596, pyN_g11, pyN_a597, pyN_s597, pyN_g19, pyN_a598, pyN_s598, pyN_g21, pyN_a599, pyN_s599, pyN_g31, pyN_a600, pyN_s600, pyN_g32, pyN_a601, pyN_s601, pyN_g38, pyN_a602, pyN_s602, pyN_g39, pyN_a603, pyN_s603, pyN_g46, pyN_a604, pyN_s604, pyN_g47, pyN_a605, pyN_s605, pyN_g48, pyN_a606, pyN_s606, pyN_g49, pyN_a607, pyN_s607, pyN_g55, pyN_a608, pyN_s608, pyN_g56, pyN_a609, pyN_s609, pyN_g57, pyN_a610, pyN_s610, pyN_g58, pyN_a611, pyN_s611, pyN_g59, pyN_a612, pyN_s612, pyN_g60, pyN_a613, pyN_s613, pyN_g74, pyN_a614, pyN_s614, pyN_g75, pyN_a615, pyN_s615, pyN_g76, pyN_a616, pyN_s616, pyN_g78, pyN_a617, pyN_s617, pyN_g79, pyN_a618, pyN_s618, G.1, m0, pb]
        rw [R]
        refine pxW_some.mpr ⟨(pyV.rfl.set (by unfold pyQke; omega)).set (by unfold pyQke; omega), trivial, ?_, ?_, ?_, ?_⟩
        · show _ = e + (([] : List (Int × Int)).length : Int); (first | omega | (simp (disch := omega) only [pxM_eq, pxM_ne, e33, List.length_nil]; done) | (simp (disch := omega) only [pxM_eq, pxM_ne, e33, List.length_nil]; omega))
        · show _ = st + pyStn []; unfold pyStn; (first | omega | (simp (disch := omega) only [pxM_eq, pxM_ne, e34]; done) | (simp (disch := omega) only [pxM_eq, pxM_ne, e34]; omega))
        · show _ = if pxP s p = 36 then (1 : Int) else 0; rw [if_pos c36]; (first | omega | (simp (disch := omega) only [pxM_eq, pxM_ne]; done) | (simp (disch := omega) only [pxM_eq, pxM_ne]; omega))
        · show _ = if pxP s p = 36 then p + 1 else p; rw [if_pos c36]; (first | omega | (simp (disch := omega) only [pxM_eq, pxM_ne]; done) | (simp (disch := omega) only [pxM_eq, pxM_ne]; omega))
      · rw [fin h p H G p0 (by omega) cu (N + 1) (by omega)]
        refine pxW_some.mpr ⟨V p, trivial, ?_, ?_, ?_, ?_⟩
        · show _ = e + (([] : List (Int × Int)).length : Int); (first | omega | (simp (disch := omega) only [pxM_eq, pxM_ne, e33, List.length_nil]; done) | (simp (disch := omega) only [pxM_eq, pxM_ne, e33, List.length_nil]; omega))
        · show _ = st + pyStn []; unfold pyStn; (first | omega | (simp (disch := omega) only [pxM_eq, pxM_ne, e34]; done) | (simp (disch := omega) only [pxM_eq, pxM_ne, e34]; omega))
        · show _ = if pxP s p = 36 then (1 : Int) else 0; rw [if_neg c36]; (first | omega | (simp (disch := omega) only [pxM_eq, pxM_ne, e36]; done) | (simp (disch := omega) only [pxM_eq, pxM_ne, e36]; omega))
        · show _ = if pxP s p = 36 then p + 1 else p; rw [if_neg c36]; (first | omega | (simp (disch := omega) only [pxM_eq, pxM_ne]; done) | (simp (disch := omega) only [pxM_eq, pxM_ne]; omega))
    have eN := n_element (a := 0) (b := 0) H e33 e0 (by omega)
    have el : ∀ a b : Int, f_X12_element h 587 (pxJ a) (pxJ b) = some ((), jw_setI (jw_setI (jw_setI h 600 e.toNat (pxJ a)) 601 e.toNat (pxJ b)) 587 33 (pxJ (e + 1))) := fun a b => n_element H e33 e0 (by omega)
    have GI : ∀ a b : Int, pyG (jw_setI (jw_setI (jw_setI h 600 e.toNat (pxJ a)) 601 e.toNat (pxJ b)) 587 33 (pxJ (e + 1))) s := fun a b => by rw [pyG_I (by decide), pyG_600 (by decide) (by decide), pyG_600 (by decide) (by decide)]; exact G
    have VI : ∀ a b : Int, pyV (pyQke e) h (jw_setI (jw_setI (jw_setI h 600 e.toNat (pxJ a)) 601 e.toNat (pxJ b)) 587 33 (pxJ (e + 1))) := fun a b => ((pyV.rfl.set (by unfold pyQke; omega)).set (by unfold pyQke; omega)).set (by unfold pyQke; omega)
    -- a sign that goes on
    have go : ∀ (x y p' k' a' i' t' : Int) (g' : Bool), -1000 ≤ x → x ≤ 1000 → -1000 ≤ y → y ≤ 1000 → x ≠ 3 → p < p' → p' ≤ s.length → 0 ≤ k' → k' ≤ 2 → pxMach s (m + 1) g a i t k p = pxEm (x, y) (pxMach s m g' a' i' t' k' p') →
        pxW (f_X12_compile_b63 N (jw_setI (jw_setI (jw_setI h 600 e.toNat (pxJ x)) 601 e.toNat (pxJ y)) 587 33 (pxJ (e + 1))) 587 (pxJ u) (pxJ p') (pxJ k')) fun _ h' => pyCo s e st (pxMach s (m + 1) g a i t k p) h h' := by
      intro x y p' k' a' i' t' g' x0 x1 y0 y1 x3 pp p1' k0' k1' eM
      rw [eM] at hM hS ⊢
      refine pxW.mono (ih N _ g' a' i' t' k' p' (e + 1) st H (GI x y) (by (first | omega | (simp (disch := omega) only [pxM_eq, pxM_ne]; done) | (simp (disch := omega) only [pxM_eq, pxM_ne]; omega))) (by (first | omega | (simp (disch := omega) only [pxM_eq, pxM_ne, e34]; done) | (simp (disch := omega) only [pxM_eq, pxM_ne, e34]; omega))) (by (first | omega | (simp (disch := omega) only [pxM_eq, pxM_ne, e36]; done) | (simp (disch := omega) only [pxM_eq, pxM_ne, e36]; omega))) (by omega) p1' (by omega) (by omega) st0 (by omega) k0' k1' (by omega) hM hS) fun _ h' C => ?_
      refine em (x, y) _ _ h' (VI x y) (by (first | omega | (simp (disch := omega) only [pxM_eq, pxM_ne]; done) | (simp (disch := omega) only [pxM_eq, pxM_ne]; omega))) (by (first | omega | (simp (disch := omega) only [pxM_eq, pxM_ne]; done) | (simp (disch := omega) only [pxM_eq, pxM_ne]; omega))) ?_
      rw [if_neg (show ¬ (x, y).1 = 3 from x3)]
      exact C
    have eM := hM
    unfold pxMach at eM
    have mE : ∀ M' : Bool × Int × List (Int × Int) × Int, pxMach s (m + 1) g a i t k p = M' → pxMach s (m + 1) g a i t k p = M' := fun _ z => z
    by_cases c1 : g = true ∧ pxP s p = 41
    · have e1' : pxMach s (m + 1) g a i t k p = pxEm (6, k) (pxMach s m false a i t k (p + 1)) := by rw [pxMach, if_pos c1]
      have pl := (pxP_lt (s := s) (p := p) (by omega)).2
      have m0 := G.2.2 p p0 pl
      rw [← pxP_E p0 pl, c1.2] at m0
      have R := go 6 k (p + 1) k a i t false (by omega) (by omega) (by omega) (by omega) (by omega) (by omega) (by omega) k0 k1 e1'
      rw [u_X12_compile_b63]
      unfold g_X12_compile_b63 g_X12_compile_b253
      try simp (maxSteps := 4000000) (disch := first | assumption | omega | (simp only [pyS_I]; assumption)) only [pxL0, pxL1, pxL2, pxL3, pxL4, pxL5, pxL6, pxL7, pxL8, pxL9, pxL10, pxL11, pxL12, pxL13, pxL14, pxL15, pxL16, pxL17, pxL18, pxL19, pxL20, pxL21, pxL22, pxL23, pxL24, pxL25, pxL26, pxL27, pxL28, pxL29, pxL30, pxL31, pxL32, pxL33, pxL34, pxL35, pxL36, pxL37, pxL38, pxL39, pxL40, pxL41, pxL42, pxL43, pxL44, pxL45, pxL46, pxL47, pxL48, pxL49, pxL51, pxL57, pxL58, pxL59, pxL60, pxL61, pxL62, pxL63, pxL64, pxL65, pxL66, pxL67, pxL68, pxL69, pxL70, pxL71, pxL72, pxL73, pxL74, pxL75, pxL76, pxL77, pxL78, pxL79, pxL80, pxL81, pxL82, pxL83, pxL84, pxL85, pxL86, pxL87, pxL88, pxL89, pxL90, pxL91, pxL92, pxL93, pxL94, pxL95, pxL96, pxL97, pxL98, pxL99, pxL100, pxL101, pxL102, pxL103, pxL104, pxL105, pxL106, pxL107, pxL108, pxL109, pxL110, pxL111, pxL112, pxL113, pxL114, pxL115, pxL116, pxL117, pxL118, pxL119, pxL120, pxL121, pxL122, pxL123, pxL124, pxL125, pxL126, pxL200, pxL240, pxL287, pxL388, pxL400, pxL429, pxL431, pxL440, pxL1240, pxL1600, pxL1681, pxL12028, pxL13849, pxL14880, pxL25173, pxL26908, pxL49600, pxL65535, pxL65536, ↓reduceIte, reduceCtorEq, pxJ_add, pxJ_sub, pxJ_mul, pxJ_neg, pxD_lt_t, pxD_lt_f, pxD_le_t, pxD_le_f, pxD_eq_t, pxD_eq_f, pxJ_lt, pxJ_le, pxJ_eq, pxJ_div, px_b2, px_bs, px_rb0, px_rb1, pxW_some, Option.some.injEq, pxM_eq, pxM_ne, pyN_gI, pyN_pI, pyN_rc, pyN_g1, pyN_a588, pyN_s588, pyN_g3, pyN_a589, pyN_s589, pyN_g4, pyN_a590, pyN_s590, pyN_g5, pyN_a591, pyN_s591, pyN_g6, pyN_a592, pyN_s592, pyN_g7, pyN_a593, pyN_s593, pyN_g8, pyN_a594, pyN_s594, pyN_g9, pyN_a595, pyN_s595, pyN_g10, pyN_a596, pyN_s596, pyN_g11, pyN_a597, pyN_s597, pyN_g19, pyN_a598, pyN_s598, pyN_g21, pyN_a599, pyN_s599, pyN_g31, pyN_a600, pyN_s600, pyN_g32, pyN_a601, pyN_s601, pyN_g38, pyN_a602, pyN_s602, pyN_g39, pyN_a603, pyN_s603, pyN_g46, pyN_a604, pyN_s604, pyN_g47, pyN_a605, pyN_s605, pyN_g48, pyN_a606, pyN_s606, pyN_g49, pyN_a607, pyN_s607, pyN_g55, pyN_a608, pyN_s608, pyN_g56, pyN_a609, pyN_s609, pyN_g57, pyN_a610, pyN_s610, pyN_g58, pyN_a611, pyN_s611, pyN_g59, pyN_a612, pyN_s612, pyN_g60, pyN_a613, pyN_s613, pyN_g74, pyN_a614, pyN_s614, pyN_g75, pyN_a615, pyN_s615, pyN_g76, pyN_a616, pyN_s616, pyN_g78, pyN_a617, pyN_s617, pyN_g79, pyN_a618, pyN_s618, G.1, m0, el]
      exact R
    rw [if_neg c1] at eM
    by_cases c2 : 12 ≤ (if g = true then a else i)
    · rw [if_pos c2] at eM
      cases g with
      | true => cases eM
      | false => exact stop (by rw [pxMach, if_neg c1, if_pos c2]; rfl)
    rw [if_neg c2] at eM
    by_cases c3 : g = false ∧ pxP s p = 40 ∧ k < 2
    · have e1' : pxMach s (m + 1) g a i t k p = pxEm (5, k + 1) (pxMach s m true 0 (i + 1) t (k + 1) (p + 1)) := by rw [pxMach, if_neg c1, if_neg c2, if_pos c3]
      have pl := (pxP_lt (s := s) (p := p) (by omega)).2
      have m0 := G.2.2 p p0 pl
      rw [← pxP_E p0 pl, c3.2.1] at m0
      have R := go 5 (k + 1) (p + 1) (k + 1) 0 (i + 1) t true (by omega) (by omega) (by omega) (by omega) (by omega) (by omega) (by omega) (by omega) (by omega) e1'
      rw [u_X12_compile_b63]
      unfold g_X12_compile_b63 g_X12_compile_b253
      try simp (maxSteps := 4000000) (disch := first | assumption | omega | (simp only [pyS_I]; assumption)) only [pxL0, pxL1, pxL2, pxL3, pxL4, pxL5, pxL6, pxL7, pxL8, pxL9, pxL10, pxL11, pxL12, pxL13, pxL14, pxL15, pxL16, pxL17, pxL18, pxL19, pxL20, pxL21, pxL22, pxL23, pxL24, pxL25, pxL26, pxL27, pxL28, pxL29, pxL30, pxL31, pxL32, pxL33, pxL34, pxL35, pxL36, pxL37, pxL38, pxL39, pxL40, pxL41, pxL42, pxL43, pxL44, pxL45, pxL46, pxL47, pxL48, pxL49, pxL51, pxL57, pxL58, pxL59, pxL60, pxL61, pxL62, pxL63, pxL64, pxL65, pxL66, pxL67, pxL68, pxL69, pxL70, pxL71, pxL72, pxL73, pxL74, pxL75, pxL76, pxL77, pxL78, pxL79, pxL80, pxL81, pxL82, pxL83, pxL84, pxL85, pxL86, pxL87, pxL88, pxL89, pxL90, pxL91, pxL92, pxL93, pxL94, pxL95, pxL96, pxL97, pxL98, pxL99, pxL100, pxL101, pxL102, pxL103, pxL104, pxL105, pxL106, pxL107, pxL108, pxL109, pxL110, pxL111, pxL112, pxL113, pxL114, pxL115, pxL116, pxL117, pxL118, pxL119, pxL120, pxL121, pxL122, pxL123, pxL124, pxL125, pxL126, pxL200, pxL240, pxL287, pxL388, pxL400, pxL429, pxL431, pxL440, pxL1240, pxL1600, pxL1681, pxL12028, pxL13849, pxL14880, pxL25173, pxL26908, pxL49600, pxL65535, pxL65536, ↓reduceIte, reduceCtorEq, pxJ_add, pxJ_sub, pxJ_mul, pxJ_neg, pxD_lt_t, pxD_lt_f, pxD_le_t, pxD_le_f, pxD_eq_t, pxD_eq_f, pxJ_lt, pxJ_le, pxJ_eq, pxJ_div, px_b2, px_bs, px_rb0, px_rb1, pxW_some, Option.some.injEq, pxM_eq, pxM_ne, pyN_gI, pyN_pI, pyN_rc, pyN_g1, pyN_a588, pyN_s588, pyN_g3, pyN_a589, pyN_s589, pyN_g4, pyN_a590, pyN_s590, pyN_g5, pyN_a591, pyN_s591, pyN_g6, pyN_a592, pyN_s592, pyN_g7, pyN_a593, pyN_s593, pyN_g8, pyN_a594, pyN_s594, pyN_g9, pyN_a595, pyN_s595, pyN_g10, pyN_a596, pyN_s596, pyN_g11, pyN_a597, pyN_s597, pyN_g19, pyN_a598, pyN_s598, pyN_g21, pyN_a599, pyN_s599, pyN_g31, pyN_a600, pyN_s600, pyN_g32, pyN_a601, pyN_s601, pyN_g38, pyN_a602, pyN_s602, pyN_g39, pyN_a603, pyN_s603, pyN_g46, pyN_a604, pyN_s604, pyN_g47, pyN_a605, pyN_s605, pyN_g48, pyN_a606, pyN_s606, pyN_g49, pyN_a607, pyN_s607, pyN_g55, pyN_a608, pyN_s608, pyN_g56, pyN_a609, pyN_s609, pyN_g57, pyN_a610, pyN_s610, pyN_g58, pyN_a611, pyN_s611, pyN_g59, pyN_a612, pyN_s612, pyN_g60, pyN_a613, pyN_s613, pyN_g74, pyN_a614, pyN_s614, pyN_g75, pyN_a615, pyN_s615, pyN_g76, pyN_a616, pyN_s616, pyN_g78, pyN_a617, pyN_s617, pyN_g79, pyN_a618, pyN_s618, G.1, m0, el]
      exact R
    rw [if_neg c3] at eM
    by_cases c4 : g = false ∧ pxP s p = 92 ∧ 0 < k
    · rw [if_pos c4] at eM
      by_cases c5 : 49 ≤ pxP s (p + 1) ∧ pxP s (p + 1) ≤ 48 + k
      · have e1' : pxMach s (m + 1) g a i t k p = pxEm (7, pxP s (p + 1) - 48) (pxMach s m g a (i + 1) t k (p + 2)) := by rw [pxMach, if_neg c1, if_neg c2, if_neg c3, if_pos c4, if_pos c5]
        have pl := (pxP_lt (s := s) (p := p) (by omega)).2
        have pl1 := (pxP_lt (s := s) (p := p + 1) (by omega)).2
        have m0 := G.2.2 p p0 pl
        have m1 := G.2.2 (p + 1) (by omega) pl1
        rw [← pxP_E p0 pl, c4.2.1] at m0
        rw [← pxP_E (by omega) pl1] at m1
        have R := go 7 (pxP s (p + 1) - 48) (p + 2) k a (i + 1) t g (by omega) (by omega) (by omega) (by omega) (by omega) (by omega) (by omega) k0 k1 e1'
        rw [show p + 2 = p + 1 + 1 by omega] at R
        rw [u_X12_compile_b63]
        unfold g_X12_compile_b63 g_X12_compile_b253
        try simp (maxSteps := 4000000) (disch := first | assumption | omega | (simp only [pyS_I]; assumption)) only [pxL0, pxL1, pxL2, pxL3, pxL4, pxL5, pxL6, pxL7, pxL8, pxL9, pxL10, pxL11, pxL12, pxL13, pxL14, pxL15, pxL16, pxL17, pxL18, pxL19, pxL20, pxL21, pxL22, pxL23, pxL24, pxL25, pxL26, pxL27, pxL28, pxL29, pxL30, pxL31, pxL32, pxL33, pxL34, pxL35, pxL36, pxL37, pxL38, pxL39, pxL40, pxL41, pxL42, pxL43, pxL44, pxL45, pxL46, pxL47, pxL48, pxL49, pxL51, pxL57, pxL58, pxL59, pxL60, pxL61, pxL62, pxL63, pxL64, pxL65, pxL66, pxL67, pxL68, pxL69, pxL70, pxL71, pxL72, pxL73, pxL74, pxL75, pxL76, pxL77, pxL78, pxL79, pxL80, pxL81, pxL82, pxL83, pxL84, pxL85, pxL86, pxL87, pxL88, pxL89, pxL90, pxL91, pxL92, pxL93, pxL94, pxL95, pxL96, pxL97, pxL98, pxL99, pxL100, pxL101, pxL102, pxL103, pxL104, pxL105, pxL106, pxL107, pxL108, pxL109, pxL110, pxL111, pxL112, pxL113, pxL114, pxL115, pxL116, pxL117, pxL118, pxL119, pxL120, pxL121, pxL122, pxL123, pxL124, pxL125, pxL126, pxL200, pxL240, pxL287, pxL388, pxL400, pxL429, pxL431, pxL440, pxL1240, pxL1600, pxL1681, pxL12028, pxL13849, pxL14880, pxL25173, pxL26908, pxL49600, pxL65535, pxL65536, ↓reduceIte, reduceCtorEq, pxJ_add, pxJ_sub, pxJ_mul, pxJ_neg, pxD_lt_t, pxD_lt_f, pxD_le_t, pxD_le_f, pxD_eq_t, pxD_eq_f, pxJ_lt, pxJ_le, pxJ_eq, pxJ_div, px_b2, px_bs, px_rb0, px_rb1, pxW_some, Option.some.injEq, pxM_eq, pxM_ne, pyN_gI, pyN_pI, pyN_rc, pyN_g1, pyN_a588, pyN_s588, pyN_g3, pyN_a589, pyN_s589, pyN_g4, pyN_a590, pyN_s590, pyN_g5, pyN_a591, pyN_s591, pyN_g6, pyN_a592, pyN_s592, pyN_g7, pyN_a593, pyN_s593, pyN_g8, pyN_a594, pyN_s594, pyN_g9, pyN_a595, pyN_s595, pyN_g10, pyN_a596, pyN_s596, pyN_g11, pyN_a597, pyN_s597, pyN_g19, pyN_a598, pyN_s598, pyN_g21, pyN_a599, pyN_s599, pyN_g31, pyN_a600, pyN_s600, pyN_g32, pyN_a601, pyN_s601, pyN_g38, pyN_a602, pyN_s602, pyN_g39, pyN_a603, pyN_s603, pyN_g46, pyN_a604, pyN_s604, pyN_g47, pyN_a605, pyN_s605, pyN_g48, pyN_a606, pyN_s606, pyN_g49, pyN_a607, pyN_s607, pyN_g55, pyN_a608, pyN_s608, pyN_g56, pyN_a609, pyN_s609, pyN_g57, pyN_a610, pyN_s610, pyN_g58, pyN_a611, pyN_s611, pyN_g59, pyN_a612, pyN_s612, pyN_g60, pyN_a613, pyN_s613, pyN_g74, pyN_a614, pyN_s614, pyN_g75, pyN_a615, pyN_s615, pyN_g76, pyN_a616, pyN_s616, pyN_g78, pyN_a617, pyN_s617, pyN_g79, pyN_a618, pyN_s618, G.1, m0, m1, el]
        exact R
      · rw [if_neg c5] at eM; cases eM
    rw [if_neg c4] at eM
    by_cases c5 : pxP s p = 42 ∧ t < 2
    · have e1' : pxMach s (m + 1) g a i t k p = pxEm (3, 0) (pxMach s m g (if g = true then a + 1 else a) (if g = true then i else i + 1) (t + 1) k (p + 1)) := by rw [pxMach, if_neg c1, if_neg c2, if_neg c3, if_neg c4, if_pos c5]
      have pl := (pxP_lt (s := s) (p := p) (by omega)).2
      have m0 := G.2.2 p p0 pl
      rw [← pxP_E p0 pl, c5.1] at m0
      rw [u_X12_compile_b63]
      unfold g_X12_compile_b63 g_X12_compile_b253
      rw [e1'] at hM hS ⊢
      try simp (maxSteps := 4000000) (disch := first | assumption | omega | (simp only [pyS_I]; assumption)) only [pxL0, pxL1, pxL2, pxL3, pxL4, pxL5, pxL6, pxL7, pxL8, pxL9, pxL10, pxL11, pxL12, pxL13, pxL14, pxL15, pxL16, pxL17, pxL18, pxL19, pxL20, pxL21, pxL22, pxL23, pxL24, pxL25, pxL26, pxL27, pxL28, pxL29, pxL30, pxL31, pxL32, pxL33, pxL34, pxL35, pxL36, pxL37, pxL38, pxL39, pxL40, pxL41, pxL42, pxL43, pxL44, pxL45, pxL46, pxL47, pxL48, pxL49, pxL51, pxL57, pxL58, pxL59, pxL60, pxL61, pxL62, pxL63, pxL64, pxL65, pxL66, pxL67, pxL68, pxL69, pxL70, pxL71, pxL72, pxL73, pxL74, pxL75, pxL76, pxL77, pxL78, pxL79, pxL80, pxL81, pxL82, pxL83, pxL84, pxL85, pxL86, pxL87, pxL88, pxL89, pxL90, pxL91, pxL92, pxL93, pxL94, pxL95, pxL96, pxL97, pxL98, pxL99, pxL100, pxL101, pxL102, pxL103, pxL104, pxL105, pxL106, pxL107, pxL108, pxL109, pxL110, pxL111, pxL112, pxL113, pxL114, pxL115, pxL116, pxL117, pxL118, pxL119, pxL120, pxL121, pxL122, pxL123, pxL124, pxL125, pxL126, pxL200, pxL240, pxL287, pxL388, pxL400, pxL429, pxL431, pxL440, pxL1240, pxL1600, pxL1681, pxL12028, pxL13849, pxL14880, pxL25173, pxL26908, pxL49600, pxL65535, pxL65536, ↓reduceIte, reduceCtorEq, pxJ_add, pxJ_sub, pxJ_mul, pxJ_neg, pxD_lt_t, pxD_lt_f, pxD_le_t, pxD_le_f, pxD_eq_t, pxD_eq_f, pxJ_lt, pxJ_le, pxJ_eq, pxJ_div, px_b2, px_bs, px_rb0, px_rb1, pxW_some, Option.some.injEq, pxM_eq, pxM_ne, pyN_gI, pyN_pI, pyN_rc, pyN_g1, pyN_a588, pyN_s588, pyN_g3, pyN_a589, pyN_s589, pyN_g4, pyN_a590, pyN_s590, pyN_g5, pyN_a591, pyN_s591, pyN_g6, pyN_a592, pyN_s592, pyN_g7, pyN_a593, pyN_s593, pyN_g8, pyN_a594, pyN_s594, pyN_g9, pyN_a595, pyN_s595, pyN_g10, pyN_a596, pyN_s596, pyN_g11, pyN_a597, pyN_s597, pyN_g19, pyN_a598, pyN_s598, pyN_g21, pyN_a599, pyN_s599, pyN_g31, pyN_a600, pyN_s600, pyN_g32, pyN_a601, pyN_s601, pyN_g38, pyN_a602, pyN_s602, pyN_g39, pyN_a603, pyN_s603, pyN_g46, pyN_a604, pyN_s604, pyN_g47, pyN_a605, pyN_s605, pyN_g48, pyN_a606, pyN_s606, pyN_g49, pyN_a607, pyN_s607, pyN_g55, pyN_a608, pyN_s608, pyN_g56, pyN_a609, pyN_s609, pyN_g57, pyN_a610, pyN_s610, pyN_g58, pyN_a611, pyN_s611, pyN_g59, pyN_a612, pyN_s612, pyN_g60, pyN_a613, pyN_s613, pyN_g74, pyN_a614, pyN_s614, pyN_g75, pyN_a615, pyN_s615, pyN_g76, pyN_a616, pyN_s616, pyN_g78, pyN_a617, pyN_s617, pyN_g79, pyN_a618, pyN_s618, G.1, m0, el, e34]
      have V2 : pyV (pyQke e) h (jw_setI (jw_setI (jw_setI (jw_setI h 600 e.toNat (pxJ 3)) 601 e.toNat (pxJ 0)) 587 33 (pxJ (e + 1))) 587 34 (pxJ (st + 1))) := (VI 3 0).set (by unfold pyQke; omega)
      refine pxW.mono (ih N _ g _ _ (t + 1) k (p + 1) (e + 1) (st + 1) H (by rw [pyG_I (by decide)]; exact GI 3 0) (by (first | omega | (simp (disch := omega) only [pxM_eq, pxM_ne]; done) | (simp (disch := omega) only [pxM_eq, pxM_ne]; omega))) (by (first | omega | (simp (disch := omega) only [pxM_eq, pxM_ne]; done) | (simp (disch := omega) only [pxM_eq, pxM_ne]; omega))) (by (first | omega | (simp (disch := omega) only [pxM_eq, pxM_ne, e36]; done) | (simp (disch := omega) only [pxM_eq, pxM_ne, e36]; omega))) (by omega) (by omega) (by omega) (by omega) (by omega) (by omega) k0 k1 (by omega) hM hS) fun _ h' C => ?_
      refine em (3, 0) _ _ h' V2 (by (first | omega | (simp (disch := omega) only [pxM_eq, pxM_ne]; done) | (simp (disch := omega) only [pxM_eq, pxM_ne]; omega))) (by (first | omega | (simp (disch := omega) only [pxM_eq, pxM_ne]; done) | (simp (disch := omega) only [pxM_eq, pxM_ne]; omega))) ?_
      rw [if_pos (show ((3 : Int), (0 : Int)).1 = 3 from rfl)]
      exact C
    rw [if_neg c5] at eM
    by_cases c6 : pxP s p = 46
    · have e1' : pxMach s (m + 1) g a i t k p = pxEm (2, 46) (pxMach s m g (if g = true then a + 1 else a) (if g = true then i else i + 1) t k (p + 1)) := by rw [pxMach, if_neg c1, if_neg c2, if_neg c3, if_neg c4, if_neg c5, if_pos c6]
      have pl := (pxP_lt (s := s) (p := p) (by omega)).2
      have m0 := G.2.2 p p0 pl
      rw [← pxP_E p0 pl, c6] at m0
      have R := go 2 46 (p + 1) k _ _ t g (by omega) (by omega) (by omega) (by omega) (by omega) (by omega) (by omega) k0 k1 e1'
      rw [u_X12_compile_b63]
      unfold g_X12_compile_b63 g_X12_compile_b248 g_X12_compile_b253
      try simp (maxSteps := 4000000) (disch := first | assumption | omega | (simp only [pyS_I]; assumption)) only [pxL0, pxL1, pxL2, pxL3, pxL4, pxL5, pxL6, pxL7, pxL8, pxL9, pxL10, pxL11, pxL12, pxL13, pxL14, pxL15, pxL16, pxL17, pxL18, pxL19, pxL20, pxL21, pxL22, pxL23, pxL24, pxL25, pxL26, pxL27, pxL28, pxL29, pxL30, pxL31, pxL32, pxL33, pxL34, pxL35, pxL36, pxL37, pxL38, pxL39, pxL40, pxL41, pxL42, pxL43, pxL44, pxL45, pxL46, pxL47, pxL48, pxL49, pxL51, pxL57, pxL58, pxL59, pxL60, pxL61, pxL62, pxL63, pxL64, pxL65, pxL66, pxL67, pxL68, pxL69, pxL70, pxL71, pxL72, pxL73, pxL74, pxL75, pxL76, pxL77, pxL78, pxL79, pxL80, pxL81, pxL82, pxL83, pxL84, pxL85, pxL86, pxL87, pxL88, pxL89, pxL90, pxL91, pxL92, pxL93, pxL94, pxL95, pxL96, pxL97, pxL98, pxL99, pxL100, pxL101, pxL102, pxL103, pxL104, pxL105, pxL106, pxL107, pxL108, pxL109, pxL110, pxL111, pxL112, pxL113, pxL114, pxL115, pxL116, pxL117, pxL118, pxL119, pxL120, pxL121, pxL122, pxL123, pxL124, pxL125, pxL126, pxL200, pxL240, pxL287, pxL388, pxL400, pxL429, pxL431, pxL440, pxL1240, pxL1600, pxL1681, pxL12028, pxL13849, pxL14880, pxL25173, pxL26908, pxL49600, pxL65535, pxL65536, ↓reduceIte, reduceCtorEq, pxJ_add, pxJ_sub, pxJ_mul, pxJ_neg, pxD_lt_t, pxD_lt_f, pxD_le_t, pxD_le_f, pxD_eq_t, pxD_eq_f, pxJ_lt, pxJ_le, pxJ_eq, pxJ_div, px_b2, px_bs, px_rb0, px_rb1, pxW_some, Option.some.injEq, pxM_eq, pxM_ne, pyN_gI, pyN_pI, pyN_rc, pyN_g1, pyN_a588, pyN_s588, pyN_g3, pyN_a589, pyN_s589, pyN_g4, pyN_a590, pyN_s590, pyN_g5, pyN_a591, pyN_s591, pyN_g6, pyN_a592, pyN_s592, pyN_g7, pyN_a593, pyN_s593, pyN_g8, pyN_a594, pyN_s594, pyN_g9, pyN_a595, pyN_s595, pyN_g10, pyN_a596, pyN_s596, pyN_g11, pyN_a597, pyN_s597, pyN_g19, pyN_a598, pyN_s598, pyN_g21, pyN_a599, pyN_s599, pyN_g31, pyN_a600, pyN_s600, pyN_g32, pyN_a601, pyN_s601, pyN_g38, pyN_a602, pyN_s602, pyN_g39, pyN_a603, pyN_s603, pyN_g46, pyN_a604, pyN_s604, pyN_g47, pyN_a605, pyN_s605, pyN_g48, pyN_a606, pyN_s606, pyN_g49, pyN_a607, pyN_s607, pyN_g55, pyN_a608, pyN_s608, pyN_g56, pyN_a609, pyN_s609, pyN_g57, pyN_a610, pyN_s610, pyN_g58, pyN_a611, pyN_s611, pyN_g59, pyN_a612, pyN_s612, pyN_g60, pyN_a613, pyN_s613, pyN_g74, pyN_a614, pyN_s614, pyN_g75, pyN_a615, pyN_s615, pyN_g76, pyN_a616, pyN_s616, pyN_g78, pyN_a617, pyN_s617, pyN_g79, pyN_a618, pyN_s618, G.1, m0, el]
      exact R
    rw [if_neg c6] at eM
    by_cases c7 : pxIsCh (pxP s p) = true
    · have e1' : pxMach s (m + 1) g a i t k p = pxEm (1, pxP s p) (pxMach s m g (if g = true then a + 1 else a) (if g = true then i else i + 1) t k (p + 1)) := by rw [pxMach, if_neg c1, if_neg c2, if_neg c3, if_neg c4, if_neg c5, if_neg c6, if_pos c7]
      have c7' := c7
      rw [pxIsCh_i] at c7'
      have pl := (pxP_lt (s := s) (p := p) (by omega)).2
      have m0 := G.2.2 p p0 pl
      rw [← pxP_E p0 pl] at m0
      have R := go 1 (pxP s p) (p + 1) k _ _ t g (by omega) (by omega) (by omega) (by omega) (by omega) (by omega) (by omega) k0 k1 e1'
      rw [u_X12_compile_b63]
      unfold g_X12_compile_b63 g_X12_compile_b248 g_X12_compile_b253
      try simp (maxSteps := 4000000) (disch := first | assumption | omega | (simp only [pyS_I]; assumption)) only [pxL0, pxL1, pxL2, pxL3, pxL4, pxL5, pxL6, pxL7, pxL8, pxL9, pxL10, pxL11, pxL12, pxL13, pxL14, pxL15, pxL16, pxL17, pxL18, pxL19, pxL20, pxL21, pxL22, pxL23, pxL24, pxL25, pxL26, pxL27, pxL28, pxL29, pxL30, pxL31, pxL32, pxL33, pxL34, pxL35, pxL36, pxL37, pxL38, pxL39, pxL40, pxL41, pxL42, pxL43, pxL44, pxL45, pxL46, pxL47, pxL48, pxL49, pxL51, pxL57, pxL58, pxL59, pxL60, pxL61, pxL62, pxL63, pxL64, pxL65, pxL66, pxL67, pxL68, pxL69, pxL70, pxL71, pxL72, pxL73, pxL74, pxL75, pxL76, pxL77, pxL78, pxL79, pxL80, pxL81, pxL82, pxL83, pxL84, pxL85, pxL86, pxL87, pxL88, pxL89, pxL90, pxL91, pxL92, pxL93, pxL94, pxL95, pxL96, pxL97, pxL98, pxL99, pxL100, pxL101, pxL102, pxL103, pxL104, pxL105, pxL106, pxL107, pxL108, pxL109, pxL110, pxL111, pxL112, pxL113, pxL114, pxL115, pxL116, pxL117, pxL118, pxL119, pxL120, pxL121, pxL122, pxL123, pxL124, pxL125, pxL126, pxL200, pxL240, pxL287, pxL388, pxL400, pxL429, pxL431, pxL440, pxL1240, pxL1600, pxL1681, pxL12028, pxL13849, pxL14880, pxL25173, pxL26908, pxL49600, pxL65535, pxL65536, ↓reduceIte, reduceCtorEq, pxJ_add, pxJ_sub, pxJ_mul, pxJ_neg, pxD_lt_t, pxD_lt_f, pxD_le_t, pxD_le_f, pxD_eq_t, pxD_eq_f, pxJ_lt, pxJ_le, pxJ_eq, pxJ_div, px_b2, px_bs, px_rb0, px_rb1, pxW_some, Option.some.injEq, pxM_eq, pxM_ne, pyN_gI, pyN_pI, pyN_rc, pyN_g1, pyN_a588, pyN_s588, pyN_g3, pyN_a589, pyN_s589, pyN_g4, pyN_a590, pyN_s590, pyN_g5, pyN_a591, pyN_s591, pyN_g6, pyN_a592, pyN_s592, pyN_g7, pyN_a593, pyN_s593, pyN_g8, pyN_a594, pyN_s594, pyN_g9, pyN_a595, pyN_s595, pyN_g10, pyN_a596, pyN_s596, pyN_g11, pyN_a597, pyN_s597, pyN_g19, pyN_a598, pyN_s598, pyN_g21, pyN_a599, pyN_s599, pyN_g31, pyN_a600, pyN_s600, pyN_g32, pyN_a601, pyN_s601, pyN_g38, pyN_a602, pyN_s602, pyN_g39, pyN_a603, pyN_s603, pyN_g46, pyN_a604, pyN_s604, pyN_g47, pyN_a605, pyN_s605, pyN_g48, pyN_a606, pyN_s606, pyN_g49, pyN_a607, pyN_s607, pyN_g55, pyN_a608, pyN_s608, pyN_g56, pyN_a609, pyN_s609, pyN_g57, pyN_a610, pyN_s610, pyN_g58, pyN_a611, pyN_s611, pyN_g59, pyN_a612, pyN_s612, pyN_g60, pyN_a613, pyN_s613, pyN_g74, pyN_a614, pyN_s614, pyN_g75, pyN_a615, pyN_s615, pyN_g76, pyN_a616, pyN_s616, pyN_g78, pyN_a617, pyN_s617, pyN_g79, pyN_a618, pyN_s618, G.1, m0, el]
      exact R
    rw [if_neg c7] at eM
    by_cases c8 : pxP s p = 91
    · rw [if_pos c8] at eM
      by_cases c9 : (pxCls s (p + 1)).1 = true
      · have e1' : pxMach s (m + 1) g a i t k p = pxEm (4, p + 1) (pxMach s m g (if g = true then a + 1 else a) (if g = true then i else i + 1) t k (pxCls s (p + 1)).2) := by rw [pxMach, if_neg c1, if_neg c2, if_neg c3, if_neg c4, if_neg c5, if_neg c6, if_neg c7, if_pos c8, if_pos c9]
        have pl := (pxP_lt (s := s) (p := p) (by omega)).2
        have m0 := G.2.2 p p0 pl
        rw [← pxP_E p0 pl, c8] at m0
        have kb := pxCls_b (s := s) (p := p + 1) (by omega) (by omega)
        obtain ⟨y1, y2, y3, y4⟩ := pxCls_i (s := s) (p := p + 1) (by omega) c9
        have z0 : p + 1 ≤ pxCl1 s (p + 1) := by
          unfold pxCl1 pxCl0
          split <;> omega
        have R := go 4 (p + 1) (pxCls s (p + 1)).2 k _ _ t g (by omega) (by omega) (by omega) (by omega) (by omega) (by omega) (by omega) k0 k1 e1'
        have S := n_compile_b186 (k63 := f_X12_compile_b63 N) (u := u) (x4 := k) (h := jw_setI (jw_setI (jw_setI h 600 e.toNat (pxJ 4)) 601 e.toNat (pxJ (p + 1))) 587 33 (pxJ (e + 1))) (s := s) H (GI 4 (p + 1)) (pxCl1 s (p + 1) - (p + 1)).toNat jw_FU (p + 1) (fun j a b => y4 j a (by omega)) (by rw [show p + 1 + ((pxCl1 s (p + 1) - (p + 1)).toNat : Int) = pxCl1 s (p + 1) by omega]; exact y2) (by omega) (by unfold jw_FU; omega)
        rw [show p + 1 + ((pxCl1 s (p + 1) - (p + 1)).toNat : Int) + 1 = (pxCls s (p + 1)).2 by omega] at S
        rw [u_X12_compile_b63]
        unfold g_X12_compile_b63
        try simp (maxSteps := 4000000) (disch := first | assumption | omega | (simp only [pyS_I]; assumption)) only [pxL0, pxL1, pxL2, pxL3, pxL4, pxL5, pxL6, pxL7, pxL8, pxL9, pxL10, pxL11, pxL12, pxL13, pxL14, pxL15, pxL16, pxL17, pxL18, pxL19, pxL20, pxL21, pxL22, pxL23, pxL24, pxL25, pxL26, pxL27, pxL28, pxL29, pxL30, pxL31, pxL32, pxL33, pxL34, pxL35, pxL36, pxL37, pxL38, pxL39, pxL40, pxL41, pxL42, pxL43, pxL44, pxL45, pxL46, pxL47, pxL48, pxL49, pxL51, pxL57, pxL58, pxL59, pxL60, pxL61, pxL62, pxL63, pxL64, pxL65, pxL66, pxL67, pxL68, pxL69, pxL70, pxL71, pxL72, pxL73, pxL74, pxL75, pxL76, pxL77, pxL78, pxL79, pxL80, pxL81, pxL82, pxL83, pxL84, pxL85, pxL86, pxL87, pxL88, pxL89, pxL90, pxL91, pxL92, pxL93, pxL94, pxL95, pxL96, pxL97, pxL98, pxL99, pxL100, pxL101, pxL102, pxL103, pxL104, pxL105, pxL106, pxL107, pxL108, pxL109, pxL110, pxL111, pxL112, pxL113, pxL114, pxL115, pxL116, pxL117, pxL118, pxL119, pxL120, pxL121, pxL122, pxL123, pxL124, pxL125, pxL126, pxL200, pxL240, pxL287, pxL388, pxL400, pxL429, pxL431, pxL440, pxL1240, pxL1600, pxL1681, pxL12028, pxL13849, pxL14880, pxL25173, pxL26908, pxL49600, pxL65535, pxL65536, ↓reduceIte, reduceCtorEq, pxJ_add, pxJ_sub, pxJ_mul, pxJ_neg, pxD_lt_t, pxD_lt_f, pxD_le_t, pxD_le_f, pxD_eq_t, pxD_eq_f, pxJ_lt, pxJ_le, pxJ_eq, pxJ_div, px_b2, px_bs, px_rb0, px_rb1, pxW_some, Option.some.injEq, pxM_eq, pxM_ne, pyN_gI, pyN_pI, pyN_rc, pyN_g1, pyN_a588, pyN_s588, pyN_g3, pyN_a589, pyN_s589, pyN_g4, pyN_a590, pyN_s590, pyN_g5, pyN_a591, pyN_s591, pyN_g6, pyN_a592, pyN_s592, pyN_g7, pyN_a593, pyN_s593, pyN_g8, pyN_a594, pyN_s594, pyN_g9, pyN_a595, pyN_s595, pyN_g10, pyN_a596, pyN_s596, pyN_g11, pyN_a597, pyN_s597, pyN_g19, pyN_a598, pyN_s598, pyN_g21, pyN_a599, pyN_s599, pyN_g31, pyN_a600, pyN_s600, pyN_g32, pyN_a601, pyN_s601, pyN_g38, pyN_a602, pyN_s602, pyN_g39, pyN_a603, pyN_s603, pyN_g46, pyN_a604, pyN_s604, pyN_g47, pyN_a605, pyN_s605, pyN_g48, pyN_a606, pyN_s606, pyN_g49, pyN_a607, pyN_s607, pyN_g55, pyN_a608, pyN_s608, pyN_g56, pyN_a609, pyN_s609, pyN_g57, pyN_a610, pyN_s610, pyN_g58, pyN_a611, pyN_s611, pyN_g59, pyN_a612, pyN_s612, pyN_g60, pyN_a613, pyN_s613, pyN_g74, pyN_a614, pyN_s614, pyN_g75, pyN_a615, pyN_s615, pyN_g76, pyN_a616, pyN_s616, pyN_g78, pyN_a617, pyN_s617, pyN_g79, pyN_a618, pyN_s618, G.1, m0, el]
        rw [S]
        exact R
      · rw [if_neg c9] at eM; cases eM
    rw [if_neg c8] at eM
    cases g with
    | true => cases eM
    | false => exact stop (by rw [pxMach, if_neg c1, if_neg c2, if_neg c3, if_neg c4, if_neg c5, if_neg c6, if_neg c7, if_neg c8]; rfl)
/-- a pattern stands ready -/
def pyPt' (h : jw_H) (s : List Int) (p : Int) : Prop :=
  pyEls h 0 (pxPtM s p).2.2.1 ∧ pxM h 587 33 = (pxPtM s p).2.2.1.length ∧ pxM h 587 34 = pyStn (pxPtM s p).2.2.1 ∧ (pxM h 587 35 = if pxP s p = 94 then 1 else 0) ∧ (pxM h 587 36 = if pxP s (pxPtM s p).2.1 = 36 then 1 else 0)
theorem pyPt'.keep {P : Nat → Nat → Prop} {h h1 : jw_H} {s : List Int} {p : Int} (C : pyPt' h s p) (V : pyV P h h1) (n : ∀ f, 33 ≤ f → f ≤ 36 → ¬ P 587 f) (n2 : ∀ f, ¬ P 600 f ∧ ¬ P 601 f) : pyPt' h1 s p := by
  obtain ⟨a, b, c, d, e⟩ := C
  refine ⟨a.keep V _ _ (by omega) (fun f _ _ => n2 f), ?_, ?_, ?_, ?_⟩
  · rw [V.m (n 33 (by omega) (by omega))]; exact b
  · rw [V.m (n 34 (by omega) (by omega))]; exact c
  · rw [V.m (n 35 (by omega) (by omega))]; exact d
  · rw [V.m (n 36 (by omega) (by omega))]; exact e
set_option maxHeartbeats 8000000 in
theorem n_compile {h : jw_H} {s : List Int} {u p : Int} (hu : u = 47 ∨ u = 63 ∨ u = 0) (H : pyS h) (G : pyG h s) (p0 : 0 ≤ p) (p1 : p ≤ s.length) (ok : (pxPat s p).1 = true) (cu : pyC s (pxPat s p).2 = u) :
    pxW (f_X12_compile h 587 (pxJ p) (pxJ u)) fun _ h' => pyV pyQk h h' ∧ pyPt' h' s p ∧ pxM h' 587 37 = (pxPat s p).2 := by
  have l60 := G.2.1.1
  have c0 := pyC_f G.2.1 p0
  have pb := pxPt0_b p0 p1
  have hM : (pxPtM s p).1 = true := by
    unfold pxPat at ok
    by_cases c : (pxPtM s p).1 = true
    · exact c
    · rw [if_neg c] at ok; cases ok
  have e2 : (pxPat s p).2 = pxPt1 s p := by
    unfold pxPat at ok ⊢
    rw [if_pos hM] at ok ⊢
    by_cases c : pxPt1 s p = p
    · rw [if_pos c] at ok; cases ok
    · rw [if_neg c]
  rw [e2] at cu ⊢
  have hS : (pxP s (pxPtM s p).2.1 = 36 ∧ pyC s ((pxPtM s p).2.1 + 1) = u) ∨ (pxP s (pxPtM s p).2.1 ≠ 36 ∧ pyC s (pxPtM s p).2.1 = u) := by
    unfold pxPt1 at cu
    by_cases c : pxP s (pxPtM s p).2.1 = 36
    · rw [if_pos c] at cu; exact Or.inl ⟨c, cu⟩
    · rw [if_neg c] at cu; exact Or.inr ⟨c, cu⟩
  have fin : ∀ (h1 : jw_H), pyS h1 → pyG h1 s → pyV pyQk h h1 → pxM h1 587 33 = 0 → pxM h1 587 34 = 0 → pxM h1 587 36 = 0 → (pxM h1 587 35 = if pxP s p = 94 then 1 else 0) →
      pxW (f_X12_compile_b63 jw_FU h1 587 (pxJ u) (pxJ (pxPt0 s p)) (pxJ 0)) fun _ h' => pyV pyQk h h' ∧ pyPt' h' s p ∧ pxM h' 587 37 = pxPt1 s p := by
    intro h1 H1 G1 V1 f33 f34 f36 f35
    refine pxW.mono (n_compile_b63 hu 61 jw_FU h1 false 0 0 0 0 (pxPt0 s p) 0 0 H1 G1 f33 f34 f36 (by omega) (by omega) (by omega) (by omega) (by omega) (by omega) (by omega) (by omega) (by unfold jw_FU; omega) hM hS) fun _ h' C => ?_
    obtain ⟨V2, E, g33, g34, g36, g37⟩ := C
    refine ⟨V1.trans (V2.mono (fun k f z => by unfold pyQke at z; unfold pyQk; omega)), ⟨E, ?_, ?_, ?_, g36⟩, g37⟩
    · rw [g33]; show 0 + ((pxPtM s p).2.2.1.length : Int) = _; omega
    · rw [g34]; show 0 + pyStn (pxPtM s p).2.2.1 = _; omega
    · rw [V2.m (by unfold pyQke; omega)]; exact f35
  have VK : ∀ {h1 : jw_H} {f : Nat} {v : Int32}, pyV pyQk h h1 → 33 ≤ f → f ≤ 37 → pyV pyQk h (jw_setI h1 587 f v) := fun V a b => V.set (by unfold pyQk; omega)
  unfold f_X12_compile g_X12_compile_b39 g_X12_compile_b40 g_X12_compile_b61
  have b0 := fun (h1 : jw_H) (H1 : pyS h1) (f : Nat) => pyN_pB H1 f (pxJ 0) (Or.inl rfl)
  have b1 := fun (h1 : jw_H) (H1 : pyS h1) (f : Nat) => pyN_pB H1 f (pxJ 1) (Or.inr rfl)
  by_cases en : (s.length : Int) ≤ p
  · have n94 : ¬ pxP s p = 94 := by omega
    have e0 : pxPt0 s p = p := by unfold pxPt0; rw [if_neg n94]
    rw [e0] at fin
    try simp (maxSteps := 4000000) (disch := first | assumption | omega | (simp only [pyS_I]; assumption)) only [pxL0, pxL1, pxL2, pxL3, pxL4, pxL5, pxL6, pxL7, pxL8, pxL9, pxL10, pxL11, pxL12, pxL13, pxL14, pxL15, pxL16, pxL17, pxL18, pxL19, pxL20, pxL21, pxL22, pxL23, pxL24, pxL25, pxL26, pxL27, pxL28, pxL29, pxL30, pxL31, pxL32, pxL33, pxL34, pxL35, pxL36, pxL37, pxL38, pxL39, pxL40, pxL41, pxL42, pxL43, pxL44, pxL45, pxL46, pxL47, pxL48, pxL49, pxL51, pxL57, pxL58, pxL59, pxL60, pxL61, pxL62, pxL63, pxL64, pxL65, pxL66, pxL67, pxL68, pxL69, pxL70, pxL71, pxL72, pxL73, pxL74, pxL75, pxL76, pxL77, pxL78, pxL79, pxL80, pxL81, pxL82, pxL83, pxL84, pxL85, pxL86, pxL87, pxL88, pxL89, pxL90, pxL91, pxL92, pxL93, pxL94, pxL95, pxL96, pxL97, pxL98, pxL99, pxL100, pxL101, pxL102, pxL103, pxL104, pxL105, pxL106, pxL107, pxL108, pxL109, pxL110, pxL111, pxL112, pxL113, pxL114, pxL115, pxL116, pxL117, pxL118, pxL119, pxL120, pxL121, pxL122, pxL123, pxL124, pxL125, pxL126, pxL200, pxL240, pxL287, pxL388, pxL400, pxL429, pxL431, pxL440, pxL1240, pxL1600, pxL1681, pxL12028, pxL13849, pxL14880, pxL25173, pxL26908, pxL49600, pxL65535, pxL65536, ↓reduceIte, reduceCtorEq, pxJ_add, pxJ_sub, pxJ_mul, pxJ_neg, pxD_lt_t, pxD_lt_f, pxD_le_t, pxD_le_f, pxD_eq_t, pxD_eq_f, pxJ_lt, pxJ_le, pxJ_eq, pxJ_div, px_b2, px_bs, px_rb0, px_rb1, pxW_some, Option.some.injEq, pxM_eq, pxM_ne, pyN_gI, pyN_pI, pyN_rc, pyN_g1, pyN_a588, pyN_s588, pyN_g3, pyN_a589, pyN_s589, pyN_g4, pyN_a590, pyN_s590, pyN_g5, pyN_a591, pyN_s591, pyN_g6, pyN_a592, pyN_s592, pyN_g7, pyN_a593, pyN_s593, pyN_g8, pyN_a594, pyN_s594, pyN_g9, pyN_a595, pyN_s595, pyN_g10, pyN_a596, pyN_s596, pyN_g11, pyN_a597, pyN_s597, pyN_g19, pyN_a598, pyN_s598, pyN_g21, pyN_a599, pyN_s599, pyN_g31, pyN_a600, pyN_s600, pyN_g32, pyN_a601, pyN_s601, pyN_g38, pyN_a602, pyN_s602, pyN_g39, pyN_a603, pyN_s603, pyN_g46, pyN_a604, pyN_s604, pyN_g47, pyN_a605, pyN_s605, pyN_g48, pyN_a606, pyN_s606, pyN_g49, pyN_a607, pyN_s607, pyN_g55, pyN_a608, pyN_s608, pyN_g56, pyN_a609, pyN_s609, pyN_g57, pyN_a610, pyN_s610, pyN_g58, pyN_a611, pyN_s611, pyN_g59, pyN_a612, pyN_s612, pyN_g60, pyN_a613, pyN_s613, pyN_g74, pyN_a614, pyN_s614, pyN_g75, pyN_a615, pyN_s615, pyN_g76, pyN_a616, pyN_s616, pyN_g78, pyN_a617, pyN_s617, pyN_g79, pyN_a618, pyN_s618, G.1, b0]
    rw [show p + 0 = p by omega]
    apply fin
    · exact H
    · repeat (first | exact G | rw [pyG_I (by decide)])
    · exact VK (VK (VK (VK pyV.rfl (by omega) (by omega)) (by omega) (by omega)) (by omega) (by omega)) (by omega) (by omega)
    · (first | omega | (simp (disch := omega) only [pxM_eq, pxM_ne]; done) | (simp (disch := omega) only [pxM_eq, pxM_ne]; omega))
    · (first | omega | (simp (disch := omega) only [pxM_eq, pxM_ne]; done) | (simp (disch := omega) only [pxM_eq, pxM_ne]; omega))
    · (first | omega | (simp (disch := omega) only [pxM_eq, pxM_ne]; done) | (simp (disch := omega) only [pxM_eq, pxM_ne]; omega))
    · rw [if_neg n94]; (first | omega | (simp (disch := omega) only [pxM_eq, pxM_ne]; done) | (simp (disch := omega) only [pxM_eq, pxM_ne]; omega))
  · have m0 := G.2.2 p p0 (by omega)
    rw [← pxP_E p0 (by omega)] at m0
    by_cases c94 : pxP s p = 94
    · have e0 : pxPt0 s p = p + 1 := pb.2.2.2.mpr c94
      rw [e0] at fin
      try simp (maxSteps := 4000000) (disch := first | assumption | omega | (simp only [pyS_I]; assumption)) only [pxL0, pxL1, pxL2, pxL3, pxL4, pxL5, pxL6, pxL7, pxL8, pxL9, pxL10, pxL11, pxL12, pxL13, pxL14, pxL15, pxL16, pxL17, pxL18, pxL19, pxL20, pxL21, pxL22, pxL23, pxL24, pxL25, pxL26, pxL27, pxL28, pxL29, pxL30, pxL31, pxL32, pxL33, pxL34, pxL35, pxL36, pxL37, pxL38, pxL39, pxL40, pxL41, pxL42, pxL43, pxL44, pxL45, pxL46, pxL47, pxL48, pxL49, pxL51, pxL57, pxL58, pxL59, pxL60, pxL61, pxL62, pxL63, pxL64, pxL65, pxL66, pxL67, pxL68, pxL69, pxL70, pxL71, pxL72, pxL73, pxL74, pxL75, pxL76, pxL77, pxL78, pxL79, pxL80, pxL81, pxL82, pxL83, pxL84, pxL85, pxL86, pxL87, pxL88, pxL89, pxL90, pxL91, pxL92, pxL93, pxL94, pxL95, pxL96, pxL97, pxL98, pxL99, pxL100, pxL101, pxL102, pxL103, pxL104, pxL105, pxL106, pxL107, pxL108, pxL109, pxL110, pxL111, pxL112, pxL113, pxL114, pxL115, pxL116, pxL117, pxL118, pxL119, pxL120, pxL121, pxL122, pxL123, pxL124, pxL125, pxL126, pxL200, pxL240, pxL287, pxL388, pxL400, pxL429, pxL431, pxL440, pxL1240, pxL1600, pxL1681, pxL12028, pxL13849, pxL14880, pxL25173, pxL26908, pxL49600, pxL65535, pxL65536, ↓reduceIte, reduceCtorEq, pxJ_add, pxJ_sub, pxJ_mul, pxJ_neg, pxD_lt_t, pxD_lt_f, pxD_le_t, pxD_le_f, pxD_eq_t, pxD_eq_f, pxJ_lt, pxJ_le, pxJ_eq, pxJ_div, px_b2, px_bs, px_rb0, px_rb1, pxW_some, Option.some.injEq, pxM_eq, pxM_ne, pyN_gI, pyN_pI, pyN_rc, pyN_g1, pyN_a588, pyN_s588, pyN_g3, pyN_a589, pyN_s589, pyN_g4, pyN_a590, pyN_s590, pyN_g5, pyN_a591, pyN_s591, pyN_g6, pyN_a592, pyN_s592, pyN_g7, pyN_a593, pyN_s593, pyN_g8, pyN_a594, pyN_s594, pyN_g9, pyN_a595, pyN_s595, pyN_g10, pyN_a596, pyN_s596, pyN_g11, pyN_a597, pyN_s597, pyN_g19, pyN_a598, pyN_s598, pyN_g21, pyN_a599, pyN_s599, pyN_g31, pyN_a600, pyN_s600, pyN_g32, pyN_a601, pyN_s601, pyN_g38, pyN_a602, pyN_s602, pyN_g39, pyN_a603, pyN_s603, pyN_g46, pyN_a604, pyN_s604, pyN_g47, pyN_a605, pyN_s605, pyN_g48, pyN_a606, pyN_s606, pyN_g49, pyN_a607, pyN_s607, pyN_g55, pyN_a608, pyN_s608, pyN_g56, pyN_a609, pyN_s609, pyN_g57, pyN_a610, pyN_s610, pyN_g58, pyN_a611, pyN_s611, pyN_g59, pyN_a612, pyN_s612, pyN_g60, pyN_a613, pyN_s613, pyN_g74, pyN_a614, pyN_s614, pyN_g75, pyN_a615, pyN_s615, pyN_g76, pyN_a616, pyN_s616, pyN_g78, pyN_a617, pyN_s617, pyN_g79, pyN_a618, pyN_s618, G.1, m0, c94, b0, b1]
      apply fin
      · exact H
      · repeat (first | exact G | rw [pyG_I (by decide)])
      · exact VK (VK (VK (VK pyV.rfl (by omega) (by omega)) (by omega) (by omega)) (by omega) (by omega)) (by omega) (by omega)
      · (first | omega | (simp (disch := omega) only [pxM_eq, pxM_ne]; done) | (simp (disch := omega) only [pxM_eq, pxM_ne]; omega))
      · (first | omega | (simp (disch := omega) only [pxM_eq, pxM_ne]; done) | (simp (disch := omega) only [pxM_eq, pxM_ne]; omega))
      · (first | omega | (simp (disch := omega) only [pxM_eq, pxM_ne]; done) | (simp (disch := omega) only [pxM_eq, pxM_ne]; omega))
      · rw [if_pos c94]; (first | omega | (simp (disch := omega) only [pxM_eq, pxM_ne]; done) | (simp (disch := omega) only [pxM_eq, pxM_ne]; omega))
    · have e0 : pxPt0 s p = p := by unfold pxPt0; rw [if_neg c94]
      rw [e0] at fin
      try simp (maxSteps := 4000000) (disch := first | assumption | omega | (simp only [pyS_I]; assumption)) only [pxL0, pxL1, pxL2, pxL3, pxL4, pxL5, pxL6, pxL7, pxL8, pxL9, pxL10, pxL11, pxL12, pxL13, pxL14, pxL15, pxL16, pxL17, pxL18, pxL19, pxL20, pxL21, pxL22, pxL23, pxL24, pxL25, pxL26, pxL27, pxL28, pxL29, pxL30, pxL31, pxL32, pxL33, pxL34, pxL35, pxL36, pxL37, pxL38, pxL39, pxL40, pxL41, pxL42, pxL43, pxL44, pxL45, pxL46, pxL47, pxL48, pxL49, pxL51, pxL57, pxL58, pxL59, pxL60, pxL61, pxL62, pxL63, pxL64, pxL65, pxL66, pxL67, pxL68, pxL69, pxL70, pxL71, pxL72, pxL73, pxL74, pxL75, pxL76, pxL77, pxL78, pxL79, pxL80, pxL81, pxL82, pxL83, pxL84, pxL85, pxL86, pxL87, pxL88, pxL89, pxL90, pxL91, pxL92, pxL93, pxL94, pxL95, pxL96, pxL97, pxL98, pxL99, pxL100, pxL101, pxL102, pxL103, pxL104, pxL105, pxL106, pxL107, pxL108, pxL109, pxL110, pxL111, pxL112, pxL113, pxL114, pxL115, pxL116, pxL117, pxL118, pxL119, pxL120, pxL121, pxL122, pxL123, pxL124, pxL125, pxL126, pxL200, pxL240, pxL287, pxL388, pxL400, pxL429, pxL431, pxL440, pxL1240, pxL1600, pxL1681, pxL12028, pxL13849, pxL14880, pxL25173, pxL26908, pxL49600, pxL65535, pxL65536, ↓reduceIte, reduceCtorEq, pxJ_add, pxJ_sub, pxJ_mul, pxJ_neg, pxD_lt_t, pxD_lt_f, pxD_le_t, pxD_le_f, pxD_eq_t, pxD_eq_f, pxJ_lt, pxJ_le, pxJ_eq, pxJ_div, px_b2, px_bs, px_rb0, px_rb1, pxW_some, Option.some.injEq, pxM_eq, pxM_ne, pyN_gI, pyN_pI, pyN_rc, pyN_g1, pyN_a588, pyN_s588, pyN_g3, pyN_a589, pyN_s589, pyN_g4, pyN_a590, pyN_s590, pyN_g5, pyN_a591, pyN_s591, pyN_g6, pyN_a592, pyN_s592, pyN_g7, pyN_a593, pyN_s593, pyN_g8, pyN_a594, pyN_s594, pyN_g9, pyN_a595, pyN_s595, pyN_g10, pyN_a596, pyN_s596, pyN_g11, pyN_a597, pyN_s597, pyN_g19, pyN_a598, pyN_s598, pyN_g21, pyN_a599, pyN_s599, pyN_g31, pyN_a600, pyN_s600, pyN_g32, pyN_a601, pyN_s601, pyN_g38, pyN_a602, pyN_s602, pyN_g39, pyN_a603, pyN_s603, pyN_g46, pyN_a604, pyN_s604, pyN_g47, pyN_a605, pyN_s605, pyN_g48, pyN_a606, pyN_s606, pyN_g49, pyN_a607, pyN_s607, pyN_g55, pyN_a608, pyN_s608, pyN_g56, pyN_a609, pyN_s609, pyN_g57, pyN_a610, pyN_s610, pyN_g58, pyN_a611, pyN_s611, pyN_g59, pyN_a612, pyN_s612, pyN_g60, pyN_a613, pyN_s613, pyN_g74, pyN_a614, pyN_s614, pyN_g75, pyN_a615, pyN_s615, pyN_g76, pyN_a616, pyN_s616, pyN_g78, pyN_a617, pyN_s617, pyN_g79, pyN_a618, pyN_s618, G.1, m0, b0]
      rw [show p + 0 = p by omega]
      apply fin
      · exact H
      · repeat (first | exact G | rw [pyG_I (by decide)])
      · exact VK (VK (VK (VK pyV.rfl (by omega) (by omega)) (by omega) (by omega)) (by omega) (by omega)) (by omega) (by omega)
      · (first | omega | (simp (disch := omega) only [pxM_eq, pxM_ne]; done) | (simp (disch := omega) only [pxM_eq, pxM_ne]; omega))
      · (first | omega | (simp (disch := omega) only [pxM_eq, pxM_ne]; done) | (simp (disch := omega) only [pxM_eq, pxM_ne]; omega))
      · (first | omega | (simp (disch := omega) only [pxM_eq, pxM_ne]; done) | (simp (disch := omega) only [pxM_eq, pxM_ne]; omega))
      · rw [if_neg c94]; (first | omega | (simp (disch := omega) only [pxM_eq, pxM_ne]; done) | (simp (disch := omega) only [pxM_eq, pxM_ne]; omega))
