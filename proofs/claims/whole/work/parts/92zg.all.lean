/-! the reference: all of a run -/
theorem pyCb.w {P : Nat → Nat → Prop} {h0 h' : jw_H} (C : pyCb h0 h') (V : pyV P h0 h') : pyV (fun k f => P k f ∧ ¬ (pyQcb k f ∧ (k = 593 → f < 41) ∧ (k = 596 → f < 5) ∧ (k = 597 → f < 4))) h0 h' := by
  refine V.less fun k f p n => ?_
  obtain ⟨c1, c2, c3, c4, c5, c6, c7, c8, c9⟩ := C
  have q : pyQcb k f ∧ (k = 593 → f < 41) ∧ (k = 596 → f < 5) ∧ (k = 597 → f < 4) := Classical.byContradiction fun z => n ⟨p, z⟩
  obtain ⟨q, i1, i2, i3⟩ := q
  unfold pyQcb at q
  rcases q with ⟨a, b⟩ | a | a | a | ⟨a, b⟩
  · rw [a]; have := c1 f (by omega) (by omega); rwa [show (f : Int).toNat = f by omega] at this
  · have := i1 a; rw [a]; have := c2 f (by omega) (by omega); rwa [show (f : Int).toNat = f by omega] at this
  · have := i2 a; rw [a]; have := c3 f (by omega) (by omega); rwa [show (f : Int).toNat = f by omega] at this
  · have := i3 a; rw [a]; have := c4 f (by omega) (by omega); rwa [show (f : Int).toNat = f by omega] at this
  · rw [a]
    rcases b with b | b | b | b | b <;> rw [b] <;> assumption
theorem pyCb.xy {h0 h' : jw_H} {T : pxTx} {S : pxSto} (C : pyCb h0 h') (V : pyV (fun _ _ => True) h0 h') (X : pyX h0 T) (Y : pyY h0 S) : pyX h' T ∧ pyY h' S :=
  ⟨X.keep (C.w V) (fun k f z y => y.2 ⟨by unfold pyQcb; omega, by omega, by omega, by omega⟩), Y.keep (C.w V) (fun k f z y => y.2 ⟨by unfold pyQcb; omega, by omega, by omega, by omega⟩)⟩
theorem pyDI.keep {P : Nat → Nat → Prop} {h h1 : jw_H} {D : List (Int × pxSn)} (R : pyDI h D) (V : pyV P h h1) (n : ∀ k f, pyQnd k f → ¬ P k f) : pyDI h1 D := by
  obtain ⟨B, B0, B1, e61, e62, d40, R⟩ := R
  refine ⟨B, B0, B1, ?_, ?_, d40, fun i d hd => (R i d hd).keep V (by omega) (fun k f z => n _ _ (by unfold pyQw2 at z; unfold pyQnd; omega))⟩
  · rw [V.m (n _ _ (by unfold pyQnd; omega))]; exact e61
  · rw [V.m (n _ _ (by unfold pyQnd; omega))]; exact e62
theorem n_isDeed {h : jw_H} {s : List Int} {p : Int} (H : pyS h) (G : pyG h s) (p0 : 0 ≤ p) (p1 : p ≤ s.length) (ok : (pxWh s p).1 = true) (pn : pxAc s p ≠ -1) :
    pxW (f_X12_isDeed h 587 (pxJ p)) fun v h' => pyV pyQp h h' ∧ v = pxJ (if pxAc s p = 58 ∨ pxAc s p = 98 ∨ pxAc s p = 84 ∨ pxAc s p = 113 then 0 else 1) := by
  have l60 := G.2.1.1
  have wb := pxWh_b (s := s) p0 p1
  unfold f_X12_isDeed
  rw [pyN_rc H, px_bs]
  refine pxW_b2 (n_readWhere H G p0 p1 ok) fun _ h4 w => ?_
  obtain ⟨V4, Wh⟩ := w
  have H4 := V4.s H
  have G4 := G.p V4
  have pl := (pxP_lt pn).2
  have m := G4.2.2 (pxWh s p).2.1 (by omega) pl
  rw [← pxP_E (by omega) pl] at m
  have pb := pyP_200 G4.2.1 (pxWh s p).2.1
  have ea : pxP s (pxWh s p).2.1 = pxAc s p := rfl
  rw [pyN_g21 H4, px_bs, pyN_gI H4, px_bs, Wh.2.2.2, pyN_a599 H4 (by omega) (by omega), px_bs, m, ea]
  rw [ea] at pb
  have no : pxW (g_X12_isDeed_b43 h4) fun v h' => pyV pyQp h h' ∧ v = pxJ 0 := by
    unfold g_X12_isDeed_b43 g_X12_isDeed_b44
    rw [show (0 : Int32) = pxJ 0 from rfl]
    try simp (maxSteps := 4000000) (disch := first | assumption | omega | (simp only [pyS_I]; assumption)) only [pxL0, pxL1, pxL2, pxL3, pxL4, pxL5, pxL6, pxL7, pxL8, pxL9, pxL10, pxL11, pxL12, pxL13, pxL14, pxL15, pxL16, pxL17, pxL18, pxL19, pxL20, pxL21, pxL22, pxL23, pxL24, pxL25, pxL26, pxL27, pxL28, pxL29, pxL30, pxL31, pxL32, pxL33, pxL34, pxL35, pxL36, pxL37, pxL38, pxL39, pxL40, pxL41, pxL42, pxL43, pxL44, pxL45, pxL46, pxL47, pxL48, pxL49, pxL51, pxL57, pxL58, pxL59, pxL60, pxL61, pxL62, pxL63, pxL64, pxL65, pxL66, pxL67, pxL68, pxL69, pxL70, pxL71, pxL72, pxL73, pxL74, pxL75, pxL76, pxL77, pxL78, pxL79, pxL80, pxL81, pxL82, pxL83, pxL84, pxL85, pxL86, pxL87, pxL88, pxL89, pxL90, pxL91, pxL92, pxL93, pxL94, pxL95, pxL96, pxL97, pxL98, pxL99, pxL100, pxL101, pxL102, pxL103, pxL104, pxL105, pxL106, pxL107, pxL108, pxL109, pxL110, pxL111, pxL112, pxL113, pxL114, pxL115, pxL116, pxL117, pxL118, pxL119, pxL120, pxL121, pxL122, pxL123, pxL124, pxL125, pxL126, pxL200, pxL240, pxL287, pxL388, pxL400, pxL429, pxL431, pxL440, pxL1240, pxL1600, pxL1681, pxL12028, pxL13849, pxL14880, pxL25173, pxL26908, pxL49600, pxL65535, pxL65536, ↓reduceIte, reduceCtorEq, pxJ_add, pxJ_sub, pxJ_mul, pxJ_neg, pxD_lt_t, pxD_lt_f, pxD_le_t, pxD_le_f, pxD_eq_t, pxD_eq_f, pxJ_lt, pxJ_le, pxJ_eq, pxJ_div, px_b2, px_bs, px_rb0, px_rb1, pxW_some, Option.some.injEq, pxM_eq, pxM_ne, pyN_gI, pyN_pI, pyN_rc, pyN_g1, pyN_a588, pyN_s588, pyN_g3, pyN_a589, pyN_s589, pyN_g4, pyN_a590, pyN_s590, pyN_g5, pyN_a591, pyN_s591, pyN_g6, pyN_a592, pyN_s592, pyN_g7, pyN_a593, pyN_s593, pyN_g8, pyN_a594, pyN_s594, pyN_g9, pyN_a595, pyN_s595, pyN_g10, pyN_a596, pyN_s596, pyN_g11, pyN_a597, pyN_s597, pyN_g19, pyN_a598, pyN_s598, pyN_g21, pyN_a599, pyN_s599, pyN_g31, pyN_a600, pyN_s600, pyN_g32, pyN_a601, pyN_s601, pyN_g38, pyN_a602, pyN_s602, pyN_g39, pyN_a603, pyN_s603, pyN_g46, pyN_a604, pyN_s604, pyN_g47, pyN_a605, pyN_s605, pyN_g48, pyN_a606, pyN_s606, pyN_g49, pyN_a607, pyN_s607, pyN_g55, pyN_a608, pyN_s608, pyN_g56, pyN_a609, pyN_s609, pyN_g57, pyN_a610, pyN_s610, pyN_g58, pyN_a611, pyN_s611, pyN_g59, pyN_a612, pyN_s612, pyN_g60, pyN_a613, pyN_s613, pyN_g74, pyN_a614, pyN_s614, pyN_g75, pyN_a615, pyN_s615, pyN_g76, pyN_a616, pyN_s616, pyN_g78, pyN_a617, pyN_s617, pyN_g79, pyN_a618, pyN_s618]
    exact ⟨V4, (by first | exact True.intro | rfl)⟩
  have yes : pxW (g_X12_isDeed_b44 h4 (1 : Int32)) fun v h' => pyV pyQp h h' ∧ v = pxJ 1 := by
    unfold g_X12_isDeed_b44
    rw [show (1 : Int32) = pxJ 1 from rfl]
    try simp (maxSteps := 4000000) (disch := first | assumption | omega | (simp only [pyS_I]; assumption)) only [pxL0, pxL1, pxL2, pxL3, pxL4, pxL5, pxL6, pxL7, pxL8, pxL9, pxL10, pxL11, pxL12, pxL13, pxL14, pxL15, pxL16, pxL17, pxL18, pxL19, pxL20, pxL21, pxL22, pxL23, pxL24, pxL25, pxL26, pxL27, pxL28, pxL29, pxL30, pxL31, pxL32, pxL33, pxL34, pxL35, pxL36, pxL37, pxL38, pxL39, pxL40, pxL41, pxL42, pxL43, pxL44, pxL45, pxL46, pxL47, pxL48, pxL49, pxL51, pxL57, pxL58, pxL59, pxL60, pxL61, pxL62, pxL63, pxL64, pxL65, pxL66, pxL67, pxL68, pxL69, pxL70, pxL71, pxL72, pxL73, pxL74, pxL75, pxL76, pxL77, pxL78, pxL79, pxL80, pxL81, pxL82, pxL83, pxL84, pxL85, pxL86, pxL87, pxL88, pxL89, pxL90, pxL91, pxL92, pxL93, pxL94, pxL95, pxL96, pxL97, pxL98, pxL99, pxL100, pxL101, pxL102, pxL103, pxL104, pxL105, pxL106, pxL107, pxL108, pxL109, pxL110, pxL111, pxL112, pxL113, pxL114, pxL115, pxL116, pxL117, pxL118, pxL119, pxL120, pxL121, pxL122, pxL123, pxL124, pxL125, pxL126, pxL200, pxL240, pxL287, pxL388, pxL400, pxL429, pxL431, pxL440, pxL1240, pxL1600, pxL1681, pxL12028, pxL13849, pxL14880, pxL25173, pxL26908, pxL49600, pxL65535, pxL65536, ↓reduceIte, reduceCtorEq, pxJ_add, pxJ_sub, pxJ_mul, pxJ_neg, pxD_lt_t, pxD_lt_f, pxD_le_t, pxD_le_f, pxD_eq_t, pxD_eq_f, pxJ_lt, pxJ_le, pxJ_eq, pxJ_div, px_b2, px_bs, px_rb0, px_rb1, pxW_some, Option.some.injEq, pxM_eq, pxM_ne, pyN_gI, pyN_pI, pyN_rc, pyN_g1, pyN_a588, pyN_s588, pyN_g3, pyN_a589, pyN_s589, pyN_g4, pyN_a590, pyN_s590, pyN_g5, pyN_a591, pyN_s591, pyN_g6, pyN_a592, pyN_s592, pyN_g7, pyN_a593, pyN_s593, pyN_g8, pyN_a594, pyN_s594, pyN_g9, pyN_a595, pyN_s595, pyN_g10, pyN_a596, pyN_s596, pyN_g11, pyN_a597, pyN_s597, pyN_g19, pyN_a598, pyN_s598, pyN_g21, pyN_a599, pyN_s599, pyN_g31, pyN_a600, pyN_s600, pyN_g32, pyN_a601, pyN_s601, pyN_g38, pyN_a602, pyN_s602, pyN_g39, pyN_a603, pyN_s603, pyN_g46, pyN_a604, pyN_s604, pyN_g47, pyN_a605, pyN_s605, pyN_g48, pyN_a606, pyN_s606, pyN_g49, pyN_a607, pyN_s607, pyN_g55, pyN_a608, pyN_s608, pyN_g56, pyN_a609, pyN_s609, pyN_g57, pyN_a610, pyN_s610, pyN_g58, pyN_a611, pyN_s611, pyN_g59, pyN_a612, pyN_s612, pyN_g60, pyN_a613, pyN_s613, pyN_g74, pyN_a614, pyN_s614, pyN_g75, pyN_a615, pyN_s615, pyN_g76, pyN_a616, pyN_s616, pyN_g78, pyN_a617, pyN_s617, pyN_g79, pyN_a618, pyN_s618]
    exact ⟨V4, (by first | exact True.intro | rfl)⟩
  by_cases c58 : pxAc s p = 58
  · rw [if_pos (show pxJ (pxAc s p) = (58 : Int32) by rw [c58]; rfl), if_pos (Or.inl c58)]; exact no
  rw [if_neg (show ¬ (pxJ (pxAc s p) = (58 : Int32)) from py32 (a := (pxAc s p)) (b := 58) c58 (by omega) (by omega) (by omega) (by omega))]
  by_cases c98 : pxAc s p = 98
  · rw [if_pos (show pxJ (pxAc s p) = (98 : Int32) by rw [c98]; rfl), if_pos (Or.inr (Or.inl c98))]; exact no
  rw [if_neg (show ¬ (pxJ (pxAc s p) = (98 : Int32)) from py32 (a := (pxAc s p)) (b := 98) c98 (by omega) (by omega) (by omega) (by omega))]
  by_cases c84 : pxAc s p = 84
  · rw [if_pos (show pxJ (pxAc s p) = (84 : Int32) by rw [c84]; rfl), if_pos (Or.inr (Or.inr (Or.inl c84)))]; exact no
  rw [if_neg (show ¬ (pxJ (pxAc s p) = (84 : Int32)) from py32 (a := (pxAc s p)) (b := 84) c84 (by omega) (by omega) (by omega) (by omega))]
  by_cases c113 : pxAc s p = 113
  · rw [if_pos (show pxJ (pxAc s p) = (113 : Int32) by rw [c113]; rfl), if_pos (Or.inr (Or.inr (Or.inr c113)))]; exact no
  rw [if_neg (show ¬ (pxJ (pxAc s p) = (113 : Int32)) from py32 (a := (pxAc s p)) (b := 113) c113 (by omega) (by omega) (by omega) (by omega)), if_neg (by omega)]
  exact yes
def pyQr1 : Nat → Nat → Prop := fun k f => pyQO k f ∨ pyQsv k f ∨ pyQcb k f ∨ pyQnd k f ∨ (k = 587 ∧ (f = 18 ∨ f = 45))
/-- what a run comes to -/
def pyRE (nB call : Int) (s : List Int) (R : Int × Int × pxTx × pxSto × List (Int × pxSn)) (v : Int32) (h' : jw_H) : Prop :=
  v = pxJ R.1 ∧ pyX h' R.2.2.1 ∧ pyY h' R.2.2.2.1 ∧ pyDI h' R.2.2.2.2 ∧ pxM h' 587 18 = R.2.1 ∧ pxInv R.2.2.1 ∧ R.2.2.1.2.2.2 ≤ nB ∧ 0 ≤ R.1 ∧ R.1 ≤ 60
theorem pyTop_pn {s : List Int} {p : Int} (ok : (pxTop s p).1 = true) : pxAc s p ≠ -1 := by
  intro z
  have aok := ((pyTop_a ok).2.2.1 (by omega)).1
  unfold pxAc at z
  unfold pxAct at aok
  rw [z] at aok
  have aok' : (false, (pxWh s p).2.1).1 = true := aok
  cases aok'
set_option maxHeartbeats 8000000 in
theorem n_doAll_b29 {nB call : Int} {s : List Int} {L : List (Int × List Int)} (A : pyLs s 0 L) (ne : L ≠ []) (len : L.length ≤ 100) (cl0 : -2147483648 ≤ call) (cl1 : call ≤ 2147483647) : ∀ (m N : Nat) (h : jw_H) (j : Nat) (dn came : Int) (T : pxTx) (S : pxSto) (rep rep2 : Bool) (D : List (Int × pxSn)), 60 - came < m → m ≤ N → pyGs nB h s T S rep2 came → (rep2 = rep ∨ L.length ≤ j) → pyDI h D → pxM h 587 63 = call → pxM h 587 18 = 0 → 0 ≤ dn → dn ≤ came →
    pxW (f_X12_doAll_b29 N h 587 (pxJ (pyAp s L j)) (pxJ dn)) fun v h' => pyV pyQr1 h h' ∧ pyRE nB call s (pxRunL s L call m j dn came T S rep D) v h' := by
  intro m
  induction m with
  | zero =>
    intro N h j dn came T S rep rep2 D hm hN W er R e63 e18 d0 d1
    have := W.2.2.2.2.2.2.2.2.1
    omega
  | succ m ih =>
    intro N h j dn came T S rep rep2 D hm hN W er R e63 e18 d0 d1
    obtain ⟨N, rfl⟩ : ∃ N', N = N' + 1 := ⟨N - 1, by omega⟩
    have W0 := W
    obtain ⟨H, G, X, Y, I, e44, e45, ca0, ca1, nb, nB1⟩ := W
    have l60 := G.2.1.1
    have eR : pxRunL s L call (m + 1) j dn came T S rep D = (L[j]?).elim (dn, 0, T, S, D) fun t =>
      if (pxStep s L j t came T S rep).1 ≠ 0 then (dn, (pxStep s L j t came T S rep).1, T, S, D)
      else pxRunL s L call m (pxStep s L j t came T S rep).2.1 (dn + 1) (pxStep s L j t came T S rep).2.2.1 (pxStep s L j t came T S rep).2.2.2.1 (pxStep s L j t came T S rep).2.2.2.2.1 (pxStep s L j t came T S rep).2.2.2.2.2 (pxDeed (pxAc s t.1) call T D) := rfl
    rw [u_X12_doAll_b29]
    unfold g_X12_doAll_b29
    rw [pyN_gI H, px_bs, G.1]
    cases e : L[j]? with
    | none =>
      rw [eR, e]
      dsimp only [Option.elim]
      have jl : L.length ≤ j := List.getElem?_eq_none_iff.mp e
      rw [pyAp_end jl, if_pos (Int32.le_refl _)]
      exact pxW_some.mpr ⟨pyV.rfl, rfl, X, Y, R, e18, I, by show T.2.2.2 ≤ nB; omega, d0, by show dn ≤ 60; omega⟩
    | some t =>
      have jl : j < L.length := (List.getElem?_eq_some_iff.mp e).1
      obtain ⟨t0, t1, ok, et2, nx, eap⟩ := pyLs_at L 0 j t A e
      have er' : rep2 = rep := by
        rcases er with z | z
        · exact z
        · omega
      rw [er'] at W0 e44
      rw [eR, e]
      dsimp only [Option.elim]
      rw [pyAp_at e, if_neg (show ¬ (pxJ (s.length : Int) ≤ pxJ t.1) from fun z => by have := (pxJ_le (a := (s.length : Int)) (b := t.1) (by omega) (by omega) (by omega) (by omega)).mp z; omega), pyN_gI H, px_bs, e18, if_pos (show pxJ 0 = 0 from rfl), pyN_gI H, px_bs, e45]
      by_cases c : 60 ≤ came
      · have e7 : pxStep s L j t came T S rep = (7, j, came, T, S, rep) := by unfold pxStep; rw [if_pos c]
        rw [e7, if_pos (show pxJ came = (60 : Int32) by rw [show came = 60 by omega]; rfl), pyN_pI H, px_bs, if_pos (show ((7, j, came, T, S, rep) : Int × Nat × Int × pxTx × pxSto × Bool).1 ≠ 0 from fun z => absurd z (by show ¬ (7 : Int) = 0; decide)), show (7 : Int32) = pxJ 7 from rfl]
        have V1 : pyV (fun k f => k = 587 ∧ f = 18) h (jw_setI h 587 18 (pxJ 7)) := pyV.rfl.set ⟨rfl, rfl⟩
        exact pxW_some.mpr ⟨V1.mono (fun k f z => Or.inr (Or.inr (Or.inr (Or.inr ⟨z.1, Or.inl z.2⟩)))), rfl, X.keep V1 (fun k f z => by omega), Y.keep V1 (fun k f z => by omega), R.keep V1 (fun k f z => by unfold pyQnd at z; omega), by rw [pxM_eq (by omega) (by omega)], I, by show T.2.2.2 ≤ nB; omega, d0, by show dn ≤ 60; omega⟩
      rw [if_neg (show ¬ (pxJ came = (60 : Int32)) from py32 (a := came) (b := 60) (by omega) (by omega) (by omega) (by omega) (by omega)), px_bs, show pxJ came + (1 : Int32) = pxJ (came + 1) from pxJ_add came 1, pyN_pI H, px_bs]
      have V8 : pyV (fun k f => k = 587 ∧ f = 45) h (jw_setI h 587 45 (pxJ (came + 1))) := pyV.rfl.set ⟨rfl, rfl⟩
      have f45 : pxM (jw_setI h 587 45 (pxJ (came + 1))) 587 45 = came + 1 := by rw [pxM_eq (by omega) (by omega)]
      generalize jw_setI h 587 45 (pxJ (came + 1)) = h8 at *
      have H8 := V8.s H
      have X8 : pyX h8 T := X.keep V8 (fun k f z => by omega)
      have Y8 : pyY h8 S := Y.keep V8 (fun k f z => by omega)
      have W8 : pyGs nB h8 s T S rep (came + 1) := ⟨H8, G.keep V8 (by omega) (fun f _ => by omega), X8, Y8, I, by rw [V8.m (by omega)]; exact e44, f45, by omega, by omega, by omega, nB1⟩
      rw [pyN_rc H8, px_bs]
      refine pxW_b2 (n_save H8) fun _ h10 q => ?_
      obtain ⟨V10, Z10⟩ := q
      have W10 : pyGs nB h10 s T S rep (came + 1) := W8.keep V10 (fun k f z => by unfold pyQGs at z; unfold pyQsv; omega)
      rw [pyN_rc W10.1, px_bs]
      refine pxW_b2 (n_doOrder W10 ca0 (by omega) nb A ne len e) fun v h13 q => ?_
      obtain ⟨V13, rfl, r0, r1, R13⟩ := q
      have H13 := V13.s W10.1
      rw [pyN_pI H13, px_bs]
      have cm := pyStep_cm (s := s) (L := L) (j := j) (t := t) (T := T) (S := S) (rep := rep) (show came < 60 by omega)
      generalize pxStep s L j t came T S rep = St at *
      have V15 : pyV (fun k f => pyQO k f ∨ (k = 587 ∧ f = 18)) h10 (jw_setI h13 587 18 (pxJ St.1)) := (V13.mono (fun k f z => Or.inl z)).set (Or.inr ⟨rfl, rfl⟩)
      have V15' : pyV (fun k f => k = 587 ∧ f = 18) h13 (jw_setI h13 587 18 (pxJ St.1)) := pyV.rfl.set ⟨rfl, rfl⟩
      have f18 : pxM (jw_setI h13 587 18 (pxJ St.1)) 587 18 = St.1 := by rw [pxM_eq (by omega) (by omega)]
      generalize jw_setI h13 587 18 (pxJ St.1) = h15 at *
      have H15 := V15.s W10.1
      have Z15 : pySv h8 h15 := Z10.keep V15 (fun k f z => by unfold pyQsv at z; unfold pyQO pyQE pyQI pyQA4 pyQA pyQst pyQg2 pyQl pyQj pyQp; omega)
      have V815 : pyV (fun k f => pyQO k f ∨ pyQsv k f ∨ (k = 587 ∧ f = 18)) h8 h15 := (V10.mono (fun k f z => Or.inr (Or.inl z))).trans (V15.mono (fun k f z => z.elim Or.inl (fun y => Or.inr (Or.inr y))))
      have V015 : pyV pyQr1 h h15 := (V8.mono (fun k f z => Or.inr (Or.inr (Or.inr (Or.inr ⟨z.1, Or.inr z.2⟩))))).trans (V815.mono (fun k f z => z.elim Or.inl (fun z => z.elim (fun y => Or.inr (Or.inl y)) (fun y => Or.inr (Or.inr (Or.inr (Or.inr ⟨y.1, Or.inl y.2⟩)))))))
      have R15 : pyDI h15 D := (R.keep V8 (fun k f z => by unfold pyQnd at z; omega)).keep V815 (fun k f z => by unfold pyQnd at z; unfold pyQO pyQE pyQI pyQA4 pyQA pyQst pyQg2 pyQl pyQj pyQp pyQsv; omega)
      have f63 : pxM h15 587 63 = call := by
        rw [V815.m (by unfold pyQO pyQE pyQI pyQA4 pyQA pyQst pyQg2 pyQl pyQj pyQp pyQsv; omega), V8.m (by omega)]
        exact e63
      rw [pyN_gI H15, px_bs, f18]
      by_cases d : St.1 = 0
      · obtain ⟨f64, rep3, W13, er3⟩ := R13 d
        have W15 : pyGs nB h15 s St.2.2.2.1 St.2.2.2.2.1 rep3 St.2.2.1 := W13.keep V15' (fun k f z => by unfold pyQGs at z; omega)
        have g64 : pxM h15 587 64 = pyAp s L St.2.1 := by rw [V15'.m (by omega)]; exact f64
        rw [if_neg (show ¬ St.1 ≠ 0 from fun z => z d), if_pos (show pxJ St.1 ≤ (0 : Int32) by rw [d]; decide), pyN_gI H15, px_bs, g64, pyN_rc H15, px_bs]
        refine pxW_b2 (n_isDeed H15 W15.2.1 t0 (by omega) (pyTop_a ok).1 (pyTop_pn ok)) fun v h20 q => ?_
        obtain ⟨V20, rfl⟩ := q
        have H20 := V20.s H15
        have W20 : pyGs nB h20 s St.2.2.2.1 St.2.2.2.2.1 rep3 St.2.2.1 := W15.keep V20 (fun k f z => by unfold pyQGs at z; unfold pyQp; omega)
        have R20 : pyDI h20 D := R15.keep V20 (fun k f z => by unfold pyQnd at z; unfold pyQp; omega)
        have Z20 : pySv h8 h20 := Z15.keep V20 (fun k f z => by unfold pyQsv at z; unfold pyQp; omega)
        have g63 : pxM h20 587 63 = call := by rw [V20.m (by unfold pyQp; omega)]; exact f63
        have g18 : pxM h20 587 18 = 0 := by rw [V20.m (by unfold pyQp; omega), f18]; exact d
        have V020 : pyV pyQr1 h h20 := V015.trans (V20.mono (fun k f z => Or.inl (Or.inr (Or.inr (Or.inl (Or.inl z))))))
        unfold g_X12_doAll_b114 pxDeed
        by_cases g : pxAc s t.1 = 58 ∨ pxAc s t.1 = 98 ∨ pxAc s t.1 = 84 ∨ pxAc s t.1 = 113
        · rw [if_pos g, if_pos (show pxJ 0 = 0 from rfl), if_pos g, show pxJ dn + (1 : Int32) = pxJ (dn + 1) from pxJ_add _ 1]
          refine pxW.mono (ih N h20 St.2.1 (dn + 1) _ _ _ _ rep3 D (by omega) (by omega) W20 er3 R20 g63 g18 (by omega) (by omega)) fun v h' q => ?_
          exact ⟨V020.trans q.1, q.2⟩
        · rw [if_neg g, if_neg (show ¬ (pxJ 1 = 0) by decide), if_neg g, pyN_rc H20, px_bs]
          refine pxW_b2 (n_noteDeed H20 X8.1 X8.2.1 X8.2.2.1 Z20 R20) fun _ h24 q => ?_
          obtain ⟨V24, R24⟩ := q
          rw [g63] at R24
          have W24 : pyGs nB h24 s St.2.2.2.1 St.2.2.2.2.1 rep3 St.2.2.1 := W20.keep V24 (fun k f z => by unfold pyQGs at z; unfold pyQnd; omega)
          have k63 : pxM h24 587 63 = call := by rw [V24.m (by unfold pyQnd; omega)]; exact g63
          have k18 : pxM h24 587 18 = 0 := by rw [V24.m (by unfold pyQnd; omega)]; exact g18
          have V024 : pyV pyQr1 h h24 := V020.trans (V24.mono (fun k f z => Or.inr (Or.inr (Or.inr (Or.inl z)))))
          rw [show pxJ dn + (1 : Int32) = pxJ (dn + 1) from pxJ_add _ 1]
          refine pxW.mono (ih N h24 St.2.1 (dn + 1) _ _ _ _ rep3 _ (by omega) (by omega) W24 er3 R24 k63 k18 (by omega) (by omega)) fun v h' q => ?_
          exact ⟨V024.trans q.1, q.2⟩
      · rw [if_neg (pyLe0 d r0 (by omega)), if_pos (show St.1 ≠ 0 from d), pyN_rc H15, px_bs]
        refine pxW_b2 (n_comeBack H15 Z15) fun _ h27 q => pxW_some.mpr ?_
        obtain ⟨V27, C27⟩ := q
        have VT : pyV (fun _ _ => True) h8 h27 := (V815.mono (fun k f _ => True.intro)).trans (V27.mono (fun k f _ => True.intro))
        obtain ⟨X27, Y27⟩ := C27.xy VT X8 Y8
        exact ⟨V015.trans (V27.mono (fun k f z => Or.inr (Or.inr (Or.inl z)))), rfl, X27, Y27, R15.keep V27 (fun k f z => by unfold pyQnd at z; unfold pyQcb; omega), by rw [V27.m (by unfold pyQcb; omega)]; exact f18, I, by show T.2.2.2 ≤ nB; omega, d0, by show dn ≤ 60; omega⟩
def pyQr : Nat → Nat → Prop := fun k f => pyQr1 k f ∨ (k = 587 ∧ (f = 44 ∨ f = 63))
set_option maxHeartbeats 8000000 in
theorem n_doAll {nB c : Int} {h : jw_H} {s : List Int} {L : List (Int × List Int)} {T : pxTx} {S : pxSto} {D : List (Int × pxSn)} (H : pyS h) (G : pyG h s) (X : pyX h T) (Y : pyY h S) (I : pxInv T) (R : pyDI h D) (e63 : pxM h 587 63 = c) (c0 : -1 ≤ c) (c1 : c ≤ 2000000000) (nb : T.2.2.2 + 2400 ≤ nB) (nB1 : nB ≤ 2000000000) (A : pyLs s 0 L) (ne : L ≠ []) (len : L.length ≤ 100) :
    pxW (f_X12_doAll h 587) fun v h' => pyV pyQr h h' ∧ pxM h' 587 63 = c + 1 ∧ pyRE nB (c + 1) s (pxRunL s L (c + 1) 61 0 0 0 T S false D) v h' := by
  unfold f_X12_doAll
  rw [pyN_gI H, px_bs, e63, show pxJ c + (1 : Int32) = pxJ (c + 1) from pxJ_add _ 1, pyN_pI H, px_bs]
  have V1 : pyV (fun k f => k = 587 ∧ (f = 63 ∨ f = 45 ∨ f = 44 ∨ f = 18)) h (jw_setI (jw_setI (jw_setI (jw_setI h 587 63 (pxJ (c + 1))) 587 45 (pxJ 0)) 587 44 (pxJ 0)) 587 18 (pxJ 0)) := (((pyV.rfl.set (by omega)).set (by omega)).set (by omega)).set (by omega)
  have a63 : pxM (jw_setI (jw_setI (jw_setI (jw_setI h 587 63 (pxJ (c + 1))) 587 45 (pxJ 0)) 587 44 (pxJ 0)) 587 18 (pxJ 0)) 587 63 = c + 1 := by
    rw [pxM_ne (by omega), pxM_ne (by omega), pxM_ne (by omega), pxM_eq (by omega) (by omega)]
  have a45 : pxM (jw_setI (jw_setI (jw_setI (jw_setI h 587 63 (pxJ (c + 1))) 587 45 (pxJ 0)) 587 44 (pxJ 0)) 587 18 (pxJ 0)) 587 45 = 0 := by
    rw [pxM_ne (by omega), pxM_ne (by omega), pxM_eq (by omega) (by omega)]
  have a44 : pxM (jw_setI (jw_setI (jw_setI (jw_setI h 587 63 (pxJ (c + 1))) 587 45 (pxJ 0)) 587 44 (pxJ 0)) 587 18 (pxJ 0)) 587 44 = 0 := by
    rw [pxM_ne (by omega), pxM_eq (by omega) (by omega)]
  have a18 : pxM (jw_setI (jw_setI (jw_setI (jw_setI h 587 63 (pxJ (c + 1))) 587 45 (pxJ 0)) 587 44 (pxJ 0)) 587 18 (pxJ 0)) 587 18 = 0 := by
    rw [pxM_eq (by omega) (by omega)]
  have H1 : pyS (jw_setI h 587 63 (pxJ (c + 1))) := H
  rw [show (0 : Int32) = pxJ 0 from rfl, pyN_pI H1, px_bs]
  have H2 : pyS (jw_setI (jw_setI h 587 63 (pxJ (c + 1))) 587 45 (pxJ 0)) := H
  rw [pyN_pB H2 44 (pxJ 0) (Or.inl rfl), px_bs]
  have H3 : pyS (jw_setI (jw_setI (jw_setI h 587 63 (pxJ (c + 1))) 587 45 (pxJ 0)) 587 44 (pxJ 0)) := H
  rw [pyN_pI H3, px_bs]
  generalize jw_setI (jw_setI (jw_setI (jw_setI h 587 63 (pxJ (c + 1))) 587 45 (pxJ 0)) 587 44 (pxJ 0)) 587 18 (pxJ 0) = h1 at *
  have W1 : pyGs nB h1 s T S false 0 := ⟨V1.s H, G.keep V1 (by omega) (fun f _ => by omega), X.keep V1 (fun k f z => by omega), Y.keep V1 (fun k f z => by omega), I, a44, a45, by omega, by omega, by omega, nB1⟩
  have a0 : pyAp s L 0 = 0 := by
    cases L with
    | nil => exact absurd rfl ne
    | cons t r => rw [pyAp_at (t := t) rfl]; exact A.1
  have B := n_doAll_b29 (nB := nB) (call := c + 1) A ne len (by omega) (by omega) 61 jw_FU h1 0 0 0 T S false false D (by omega) (by unfold jw_FU; omega) W1 (Or.inl rfl) (R.keep V1 (fun k f z => by unfold pyQnd at z; omega)) a63 a18 (by omega) (by omega)
  rw [a0] at B
  refine pxW.mono (B) fun v h' q => ?_
  obtain ⟨V, q⟩ := q
  refine ⟨(V1.mono (fun k f z => by unfold pyQr pyQr1; omega)).trans (V.mono (fun k f z => Or.inl z)), ?_, q⟩
  rw [V.m (by unfold pyQr1 pyQO pyQE pyQI pyQA4 pyQA pyQst pyQg2 pyQl pyQj pyQp pyQsv pyQcb pyQnd; omega)]
  exact a63
