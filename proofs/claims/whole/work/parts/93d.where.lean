/-! the reference, line by line: whether an order is barred, and whether its where holds -/
set_option maxHeartbeats 8000000 in
theorem n_isBarredAddress {h : jw_H} {s : List Int} {q : Int} (H : pyS h) (G : pyG h s) (p0 : 0 ≤ q) (p1 : q ≤ s.length) (ok : (pxAddr s q).1 = true) :
    pxW (f_X12_isBarredAddress h 587 (pxJ q)) fun v h' => pyV pyQl h h' ∧ v = pxJ (if pxBarA s q = true then 1 else 0) := by
  have l60 := G.2.1.1
  obtain ⟨sok, hok⟩ := pyAddr ok
  have sb := pxSpot_b p0 p1
  have sb2 := sb.2.2 sok
  have b4 := sb2.2
  rw [pxSpot0_i] at b4
  have pl := (pxP_lt (s := s) (p := q) (by omega)).2
  have m0 := G.2.2 q p0 pl
  rw [← pxP_E p0 pl] at m0
  have pb := pyP_200 G.2.1 q
  -- the sign behind the spot
  have fin : ∀ h1, pyV pyQl h h1 → ¬ pxBIs s q = true → pxW (g_X12_isBarredAddress_b54 h1 587 (pxJ (pxSpot s q).2)) fun v h' => pyV pyQl h h' ∧ v = pxJ (if pxBarA s q = true then 1 else 0) := by
    intro h1 V1 nm
    have H1 := V1.s H
    have G1 := G.l V1
    have bi : pxBarA s q = true ↔ ((pxP s (pxSpot s q).2 = 43 ∨ pxP s (pxSpot s q).2 = 45) ∧ ¬ pxBIs s q = true) := decide_eq_true_iff
    have yes : (pxP s (pxSpot s q).2 = 43 ∨ pxP s (pxSpot s q).2 = 45) → pxW (g_X12_isBarredAddress_b84 h1) fun v h' => pyV pyQl h h' ∧ v = pxJ (if pxBarA s q = true then 1 else 0) := by
      intro z
      unfold g_X12_isBarredAddress_b84 g_X12_isBarredAddress_b89
      rw [pyRb1, px_bs, if_pos (bi.mpr ⟨z, nm⟩)]
      exact pxW_some.mpr ⟨V1, rfl⟩
    have no : ¬ (pxP s (pxSpot s q).2 = 43 ∨ pxP s (pxSpot s q).2 = 45) → pxW (g_X12_isBarredAddress_b88 h1) fun v h' => pyV pyQl h h' ∧ v = pxJ (if pxBarA s q = true then 1 else 0) := by
      intro z
      unfold g_X12_isBarredAddress_b88 g_X12_isBarredAddress_b89
      rw [pyRb0, px_bs, if_neg (fun y => z (bi.mp y).1)]
      exact pxW_some.mpr ⟨V1, rfl⟩
    unfold g_X12_isBarredAddress_b54
    rw [pyN_gI H1, px_bs, G1.1]
    by_cases en : (s.length : Int) ≤ (pxSpot s q).2
    · rw [if_pos (show pxJ (s.length : Int) ≤ pxJ (pxSpot s q).2 from (pxJ_le (by omega) (by omega) (by omega) (by omega)).mpr en)]
      refine no (fun z => ?_)
      have := (pxP_lt (s := s) (p := (pxSpot s q).2) (by omega)).2
      omega
    · have m1 := G1.2.2 (pxSpot s q).2 (by omega) (by omega)
      rw [← pxP_E (by omega) (by omega)] at m1
      have pb1 := pyP_200 G.2.1 (pxSpot s q).2
      rw [if_neg (show ¬ (pxJ (s.length : Int) ≤ pxJ (pxSpot s q).2) from fun z => en ((pxJ_le (by omega) (by omega) (by omega) (by omega)).mp z)), pyN_g21 H1, px_bs, pyN_a599 H1 (by omega) (by omega), px_bs, m1]
      by_cases c43 : pxP s (pxSpot s q).2 = 43
      · rw [if_pos (show pxJ (pxP s (pxSpot s q).2) = (43 : Int32) by rw [c43]; rfl)]
        exact yes (Or.inl c43)
      rw [if_neg (show ¬ (pxJ (pxP s (pxSpot s q).2) = (43 : Int32)) from py32 (a := (pxP s (pxSpot s q).2)) (b := 43) c43 (by omega) (by omega) (by omega) (by omega)), px_bs, pyN_a599 H1 (by omega) (by omega), px_bs, m1]
      by_cases c45 : pxP s (pxSpot s q).2 = 45
      · rw [if_pos (show pxJ (pxP s (pxSpot s q).2) = (45 : Int32) by rw [c45]; rfl)]
        exact yes (Or.inr c45)
      rw [if_neg (show ¬ (pxJ (pxP s (pxSpot s q).2) = (45 : Int32)) from py32 (a := (pxP s (pxSpot s q).2)) (b := 45) c45 (by omega) (by omega) (by omega) (by omega))]
      exact no (fun z => z.elim c43 c45)
  unfold f_X12_isBarredAddress
  rw [pyN_g21 H, px_bs, pyN_a599 H p0 (by omega), px_bs, m0, n_isNumeric (by omega) (by omega), px_b2]
  by_cases c1 : pxBIs s q = true
  · have c1' := pxBIs_i.mp c1
    rw [if_pos c1', if_neg (show ¬ (pxJ 1 = 0) by decide), if_neg (show ¬ pxBarA s q = true from fun z => (of_decide_eq_true z).2 c1)]
    exact pxW_some.mpr ⟨pyV.rfl, rfl⟩
  have c1' : ¬ ((48 ≤ pxP s q ∧ pxP s q ≤ 57) ∨ pxP s q = 36) := fun z => c1 (pxBIs_i.mpr z)
  rw [if_neg c1', if_pos (show pxJ 0 = 0 from rfl)]
  by_cases c3 : pxP s q = 39
  · obtain ⟨k0, k1, es⟩ := pySpot_k sok c3
    have B := fin h pyV.rfl c1
    rw [es] at B
    rw [if_pos (show pxJ (pxP s q) = (39 : Int32) by rw [c3]; rfl), show pxJ q + (2 : Int32) = pxJ (q + 2) from pxJ_add _ 2]
    exact B
  rw [if_neg (show ¬ (pxJ (pxP s q) = (39 : Int32)) from py32 (a := (pxP s q)) (b := 39) c3 (by omega) (by omega) (by omega) (by omega))]
  by_cases c4 : pxP s q = 46
  · have es := pySpot_d (s := s) (q := q) (Or.inl c4)
    have B := fin h pyV.rfl c1
    rw [es] at B
    rw [if_pos (show pxJ (pxP s q) = (46 : Int32) by rw [c4]; rfl), show pxJ q + (1 : Int32) = pxJ (q + 1) from pxJ_add _ 1]
    exact B
  have cu : pxP s q = 47 ∨ pxP s q = 63 := by omega
  obtain ⟨pok, pu, es⟩ := pySpot_p sok cu
  have pb2 := pxPat_b (s := s) (p := q + 1) (by omega) (by omega)
  have cp := pyC_f G.2.1 (p := (pxPat s (q + 1)).2) (by omega)
  rw [if_neg (show ¬ (pxJ (pxP s q) = (46 : Int32)) from py32 (a := (pxP s q)) (b := 46) c4 (by omega) (by omega) (by omega) (by omega)), pyN_rc H, px_bs, show pxJ q + (1 : Int32) = pxJ (q + 1) from pxJ_add _ 1]
  refine pxW_b2 (n_compile (u := pxP s q) (p := q + 1) (by omega) H G (by omega) (by omega) pok (by omega)) fun _ h1 w => ?_
  obtain ⟨V1, C, e37⟩ := w
  have H1 := V1.s H
  have V1' : pyV pyQl h h1 := V1.mono (fun k f z => by unfold pyQk at z; unfold pyQl; omega)
  have B := fin h1 V1' c1
  rw [es] at B
  rw [pyN_gI H1, px_bs, e37, show pxJ (pxPat s (q + 1)).2 + (1 : Int32) = pxJ ((pxPat s (q + 1)).2 + 1) from pxJ_add _ 1]
  exact B
set_option maxHeartbeats 8000000 in
theorem n_isBarred {h : jw_H} {s : List Int} {p : Int} (H : pyS h) (G : pyG h s) (Wh : pyWh s p h) (p0 : 0 ≤ p) (p1 : p ≤ s.length) (ok : (pxWh s p).1 = true) (pn : pxAc s p ≠ -1) :
    pxW (f_X12_isBarred h 587) fun v h' => pyV pyQl h h' ∧ v = pxJ (if pxBar s p = true then 1 else 0) := by
  have l60 := G.2.1.1
  have wb := pxWh_b (s := s) p0 p1
  have pl := (pxP_lt pn).2
  have m := G.2.2 (pxWh s p).2.1 (by omega) pl
  rw [← pxP_E (by omega) pl] at m
  have pb := pyP_200 G.2.1 (pxWh s p).2.1
  have ea : pxP s (pxWh s p).2.1 = pxAc s p := rfl
  rw [ea] at pb m
  have bi : pxBar s p = true ↔ ((pxAc s p = 108 ∨ pxAc s p = 111 ∨ pxAc s p = 79 ∨ pxAc s p = 109 ∨ pxAc s p = 116) ∨ (2 ≤ (pxWh s p).2.2.1 ∧ pxBarA s p = true) ∨ ((pxWh s p).2.2.1 = 3 ∧ pxBarA s (pxWh s p).2.2.2 = true)) := by
    unfold pxBar
    rw [Bool.or_eq_true, Bool.or_eq_true, Bool.and_eq_true, Bool.and_eq_true, decide_eq_true_iff, decide_eq_true_iff, decide_eq_true_iff, or_assoc]
  have yes : ∀ h1, pyV pyQl h h1 → pxBar s p = true → pxW (g_X12_isBarred_b88 h1) fun v h' => pyV pyQl h h' ∧ v = pxJ (if pxBar s p = true then 1 else 0) := by
    intro h1 V1 z
    unfold g_X12_isBarred_b88 g_X12_isBarred_b93
    rw [pyRb1, px_bs, if_pos z]
    exact pxW_some.mpr ⟨V1, rfl⟩
  have no : ∀ h1, pyV pyQl h h1 → ¬ pxBar s p = true → pxW (g_X12_isBarred_b92 h1) fun v h' => pyV pyQl h h' ∧ v = pxJ (if pxBar s p = true then 1 else 0) := by
    intro h1 V1 z
    unfold g_X12_isBarred_b92 g_X12_isBarred_b93
    rw [pyRb0, px_bs, if_neg z]
    exact pxW_some.mpr ⟨V1, rfl⟩
  have b69 : ∀ h1, pyV pyQl h h1 → ¬ (pxAc s p = 108 ∨ pxAc s p = 111 ∨ pxAc s p = 79 ∨ pxAc s p = 109 ∨ pxAc s p = 116) → ¬ (2 ≤ (pxWh s p).2.2.1 ∧ pxBarA s p = true) → pxW (g_X12_isBarred_b69 h1 587) fun v h' => pyV pyQl h h' ∧ v = pxJ (if pxBar s p = true then 1 else 0) := by
    intro h1 V1 n1 n2
    have H1 := V1.s H
    have G1 := G.l V1
    unfold g_X12_isBarred_b69
    rw [pyN_gI H1, px_bs, V1.m (by unfold pyQl; omega), Wh.1]
    by_cases k3 : (pxWh s p).2.2.1 = 3
    · obtain ⟨-, a3⟩ := pyWh_a ok (by omega) p0 p1
      obtain ⟨a3, a4, a5⟩ := a3 k3
      rw [if_pos (show pxJ (pxWh s p).2.2.1 = (3 : Int32) by rw [k3]; rfl), pyN_gI H1, px_bs, V1.m (by unfold pyQl; omega), Wh.2.2.1 k3, pyN_rc H1, px_bs]
      refine pxW_b2 (n_isBarredAddress H1 G1 a4 a5 a3) fun v h2 q => ?_
      obtain ⟨V2, rfl⟩ := q
      by_cases d : pxBarA s (pxWh s p).2.2.2 = true
      · rw [if_pos d, if_neg (show ¬ (pxJ 1 = 0) by decide)]
        exact yes h2 (V1.trans V2) (bi.mpr (Or.inr (Or.inr ⟨k3, d⟩)))
      · rw [if_neg d, if_pos (show pxJ 0 = 0 from rfl)]
        exact no h2 (V1.trans V2) (fun z => (bi.mp z).elim n1 (fun z => z.elim n2 (fun z => d z.2)))
    · rw [if_neg (show ¬ (pxJ (pxWh s p).2.2.1 = (3 : Int32)) from py32 (a := (pxWh s p).2.2.1) (b := 3) k3 (by omega) (by omega) (by omega) (by omega))]
      exact no h1 V1 (fun z => (bi.mp z).elim n1 (fun z => z.elim n2 (fun z => k3 z.1)))
  unfold f_X12_isBarred
  rw [pyN_g21 H, px_bs, pyN_gI H, px_bs, Wh.2.2.2, pyN_a599 H (by omega) (by omega), px_bs, m]
  have b40 : (pxAc s p = 108 ∨ pxAc s p = 111 ∨ pxAc s p = 79 ∨ pxAc s p = 109 ∨ pxAc s p = 116) → pxW (g_X12_isBarred_b40 h 587) fun v h' => pyV pyQl h h' ∧ v = pxJ (if pxBar s p = true then 1 else 0) := by
    intro z
    unfold g_X12_isBarred_b40 g_X12_isBarred_b45
    rw [if_neg (show ¬ ((1 : Int32) = 0) by decide)]
    exact yes h pyV.rfl (bi.mpr (Or.inl z))
  by_cases c1 : pxAc s p = 108
  · rw [if_pos (show pxJ (pxAc s p) = (108 : Int32) by rw [c1]; rfl)]
    exact b40 (by omega)
  rw [if_neg (show ¬ (pxJ (pxAc s p) = (108 : Int32)) from py32 (a := (pxAc s p)) (b := 108) c1 (by omega) (by omega) (by omega) (by omega))]
  by_cases c2 : pxAc s p = 111
  · rw [if_pos (show pxJ (pxAc s p) = (111 : Int32) by rw [c2]; rfl)]
    exact b40 (by omega)
  rw [if_neg (show ¬ (pxJ (pxAc s p) = (111 : Int32)) from py32 (a := (pxAc s p)) (b := 111) c2 (by omega) (by omega) (by omega) (by omega))]
  by_cases c3 : pxAc s p = 79
  · rw [if_pos (show pxJ (pxAc s p) = (79 : Int32) by rw [c3]; rfl)]
    exact b40 (by omega)
  rw [if_neg (show ¬ (pxJ (pxAc s p) = (79 : Int32)) from py32 (a := (pxAc s p)) (b := 79) c3 (by omega) (by omega) (by omega) (by omega))]
  by_cases c4 : pxAc s p = 109
  · rw [if_pos (show pxJ (pxAc s p) = (109 : Int32) by rw [c4]; rfl)]
    exact b40 (by omega)
  rw [if_neg (show ¬ (pxJ (pxAc s p) = (109 : Int32)) from py32 (a := (pxAc s p)) (b := 109) c4 (by omega) (by omega) (by omega) (by omega))]
  by_cases c5 : pxAc s p = 116
  · rw [if_pos (show pxJ (pxAc s p) = (116 : Int32) by rw [c5]; rfl)]
    exact b40 (by omega)
  rw [if_neg (show ¬ (pxJ (pxAc s p) = (116 : Int32)) from py32 (a := (pxAc s p)) (b := 116) c5 (by omega) (by omega) (by omega) (by omega))]
  have n5 : ¬ (pxAc s p = 108 ∨ pxAc s p = 111 ∨ pxAc s p = 79 ∨ pxAc s p = 109 ∨ pxAc s p = 116) := fun z => by omega
  unfold g_X12_isBarred_b45
  rw [if_pos rfl, pyN_gI H, px_bs, Wh.1]
  by_cases k2 : 2 ≤ (pxWh s p).2.2.1
  · obtain ⟨a1, -⟩ := pyWh_a ok k2 p0 p1
    rw [if_neg (show ¬ (pxJ (pxWh s p).2.2.1 < (2 : Int32)) from fun z => by have := (pxJ_lt (a := (pxWh s p).2.2.1) (b := 2) (by omega) (by omega) (by omega) (by omega)).mp z; omega), pyN_gI H, px_bs, Wh.2.1 k2, pyN_rc H, px_bs]
    refine pxW_b2 (n_isBarredAddress H G p0 p1 a1) fun v h2 q => ?_
    obtain ⟨V2, rfl⟩ := q
    by_cases d : pxBarA s p = true
    · rw [if_pos d, if_neg (show ¬ (pxJ 1 = 0) by decide)]
      exact yes h2 V2 (bi.mpr (Or.inr (Or.inl ⟨k2, d⟩)))
    · rw [if_neg d, if_pos (show pxJ 0 = 0 from rfl)]
      exact b69 h2 V2 n5 (fun z => d z.2)
  · rw [if_pos (show pxJ (pxWh s p).2.2.1 < (2 : Int32) from (pxJ_lt (a := (pxWh s p).2.2.1) (b := 2) (by omega) (by omega) (by omega) (by omega)).mpr (by omega))]
    exact b69 h pyV.rfl n5 (fun z => k2 z.1)
theorem pyBoo {a b : Bool} {x y : Int} : ((a && ! (b && decide (x < y))) = true) ↔ (a = true ∧ ¬ (b = true ∧ x < y)) := by
  by_cases p : x < y
  · rw [decide_eq_true p]
    cases a <;> cases b <;> simp [p]
  · rw [decide_eq_false p]
    cases a <;> cases b <;> simp [p]
/-- what is noted with the order at p -/
def pyRn (h : jw_H) (p : Int) (g : pxFg) : Prop := pxM h 614 p.toNat = pyB g.1 ∧ (1 ≤ g.2.2.2 → pxM h 616 p.toNat = pyB g.2.1) ∧ pxM h 615 p.toNat = g.2.2.2 ∧ (g.2.1 = true → g.2.2.1 = !g.1)
def pyQrn (p : Int) : Nat → Nat → Prop := fun k f => pyQl k f ∨ ((k = 614 ∨ k = 615 ∨ k = 616) ∧ (f : Int) = p)
theorem pyB_1 {b : Bool} : pyB b = 0 ∨ pyB b = 1 := by cases b <;> first | exact Or.inl rfl | exact Or.inr rfl
theorem pyNbB {b : Bool} : vp_nar .boolean (pxJ (pyB b)) = pxJ (pyB b) := by cases b <;> first | exact pyNb0 | exact pyNb1
theorem pyRbB {b : Bool} : jw_rb (pxJ (pyB b)) = some () := by cases b <;> first | exact px_rb0 | exact px_rb1
theorem pyV.s' {P Q : Nat → Nat → Prop} {h0 h h1 : jw_H} (V1 : pyV P h0 h1) (H : pyS h) (V0 : pyV Q h0 h) : pyS h1 := by
  obtain ⟨a, b⟩ := H
  refine ⟨by rw [V1.2.2.2.1, ← V0.2.2.2.1]; exact a, fun q hq => ?_⟩
  rw [V1.2.2.2.1, V1.2.2.2.2.2.1, ← V0.2.2.2.1, ← V0.2.2.2.2.2.1]
  exact b q hq
/-- a run: whether it holds, and whether it goes on -/
def pyRH (s : List Int) (p n : Int) (W : pxWk) (F : pxFh) (r1 : Bool) : Bool × Bool :=
  if r1 = true then (true, ! pxBAt s (pxWh s p).2.2.2 n W F) else (pxBAt s p n W F, pxBAt s p n W F && ! (pxBIs s (pxWh s p).2.2.2 && decide (pxBNum s (pxWh s p).2.2.2 n ≤ W.2.1)))
def pyQrh (p : Int) : Nat → Nat → Prop := fun k f => pyQl k f ∨ (k = 614 ∧ (f : Int) = p)
theorem pyIfB {b : Bool} : (if b = true then (1 : Int) else 0) = pyB b := rfl
set_option maxHeartbeats 8000000 in
theorem n_runHolds_b58 {h0 h : jw_H} {s : List Int} {T : pxTx} {came p sec : Int} {W : pxWk} {F : pxFh} {S : pxSto} {rep r1 : Bool} (A : pyWs h s T came W F S rep) (g : W.2.2.2.2.1 = false) (V0 : pyV (pyQrh p) h0 h) (Wh : pyWh s p h) (ok : (pxWh s p).1 = true) (k3 : (pxWh s p).2.2.1 = 3) (p0 : 0 ≤ p) (p1 : p < s.length) (e614 : pxM h 614 p.toNat = pyB r1) (es : pxBIs s (pxWh s p).2.2.2 = true → sec = pxBNum s (pxWh s p).2.2.2 T.1.length) (er : r1 = true → ¬ (pxBIs s (pxWh s p).2.2.2 = true ∧ pxBNum s (pxWh s p).2.2.2 T.1.length < W.2.1)) :
    pxW (g_X12_runHolds_b58 h 587 (pxJ p) (pxJ (pyB (pxBIs s (pxWh s p).2.2.2))) (pxJ sec)) fun v h' => pyV (pyQrh p) h0 h' ∧ v = pxJ (pyB (pyRH s p T.1.length W F r1).1) ∧ pxM h' 614 p.toNat = pyB (pyRH s p T.1.length W F r1).2 := by
  have A0 := A
  obtain ⟨H, G, L, Y, N, M, Wf, D, e17, e44, B⟩ := A
  obtain ⟨R, okr, w65, w66, w67, w68, w69, w70, b1, -, -⟩ := Wf
  have l60 := G.2.1.1
  have l40 := L.2.1
  obtain ⟨a1, a3⟩ := pyWh_a ok (by omega) p0 (by omega)
  obtain ⟨a3, a4, a5⟩ := a3 k3
  -- the note is written
  have wr : ∀ (h1 : jw_H) (bb : Bool), pyV (pyQrh p) h0 h1 → pyV (pyQrh p) h0 (jw_setI h1 614 p.toNat (pxJ (pyB bb))) ∧ pxM (jw_setI h1 614 p.toNat (pxJ (pyB bb))) 614 p.toNat = pyB bb ∧ jw_si h1 22 (some 614) (pxJ p) (pxJ (pyB bb)) = some (jw_setI h1 614 p.toNat (pxJ (pyB bb))) := by
    intro h1 bb V1
    have b2 := pyB_1 (b := bb)
    exact ⟨V1.set (Or.inr ⟨rfl, by omega⟩), by rw [pxM_eq (by omega) (by omega)], pyN_s614 ((V1.s' H V0)) p0 (by omega)⟩
  unfold g_X12_runHolds_b58 pyRH
  rw [pyN_g74 H, px_bs, pyN_a614 H p0 (by omega), px_bs, e614]
  cases r1 with
  | false =>
    rw [if_pos (show pxJ (pyB false) = 0 from rfl), if_neg (show ¬ (false = true) by decide), pyN_gI H, px_bs, Wh.2.1 (by omega), pyN_rc H, px_bs]
    refine pxW_b2 (n_holds A0 g p0 (by omega) a1) fun v h1 q => ?_
    obtain ⟨V1, rfl⟩ := q
    have H1 := V1.s H
    have V01 : pyV (pyQrh p) h0 h1 := V0.trans (V1.mono (fun k f z => Or.inl z))
    have f68 : pxM h1 587 68 = W.2.1 := by rw [V1.m (by unfold pyQl; omega)]; exact w68
    rw [pyN_g74 H1, px_bs, pyIfB]
    unfold g_X12_runHolds_b147 g_X12_runHolds_b143 g_X12_runHolds_b148
    cases hb : pxBAt s p T.1.length W F with
    | false =>
      obtain ⟨y1, y2, y3⟩ := wr h1 false V01
      rw [if_pos (show pxJ (pyB false) = 0 from rfl), pyNb0]
      have y3' : jw_si h1 22 (some 614) (pxJ p) (pxJ 0) = some (jw_setI h1 614 p.toNat (pxJ 0)) := y3
      rw [y3', px_bs, pyRbB, px_bs]
      exact pxW_some.mpr ⟨y1, rfl, y2⟩
    | true =>
      rw [if_neg (show ¬ (pxJ (pyB true) = 0) by decide)]
      cases nb : pxBIs s (pxWh s p).2.2.2 with
      | false =>
        obtain ⟨y1, y2, y3⟩ := wr h1 true V01
        rw [if_pos (show pxJ (pyB false) = 0 from rfl), pyNb1]
        have y3' : jw_si h1 22 (some 614) (pxJ p) (pxJ 1) = some (jw_setI h1 614 p.toNat (pxJ 1)) := y3
        rw [y3', px_bs, pyRbB, px_bs]
        exact pxW_some.mpr ⟨y1, rfl, y2⟩
      | true =>
        have nb2 := pyBNum_b (n := T.1.length) a3 nb (by omega) (by omega)
        rw [es nb, if_neg (show ¬ (pxJ (pyB true) = 0) by decide), pyN_gI H1, px_bs, f68]
        by_cases d : pxBNum s (pxWh s p).2.2.2 T.1.length ≤ W.2.1
        · obtain ⟨y1, y2, y3⟩ := wr h1 false V01
          rw [if_pos (show pxJ (pxBNum s (pxWh s p).2.2.2 T.1.length) ≤ pxJ W.2.1 from (pxJ_le (by omega) (by omega) (by omega) (by omega)).mpr d), pyNb0]
          have y3' : jw_si h1 22 (some 614) (pxJ p) (pxJ 0) = some (jw_setI h1 614 p.toNat (pxJ 0)) := y3
          rw [y3', px_bs, pyRbB, px_bs, decide_eq_true d]
          exact pxW_some.mpr ⟨y1, rfl, y2⟩
        · obtain ⟨y1, y2, y3⟩ := wr h1 true V01
          rw [if_neg (show ¬ (pxJ (pxBNum s (pxWh s p).2.2.2 T.1.length) ≤ pxJ W.2.1) from fun z => d ((pxJ_le (by omega) (by omega) (by omega) (by omega)).mp z)), pyNb1]
          have y3' : jw_si h1 22 (some 614) (pxJ p) (pxJ 1) = some (jw_setI h1 614 p.toNat (pxJ 1)) := y3
          rw [y3', px_bs, pyRbB, px_bs, decide_eq_false d]
          exact pxW_some.mpr ⟨y1, rfl, y2⟩
  | true =>
    rw [if_neg (show ¬ (pxJ (pyB true) = 0) by decide), if_pos rfl, px_bs]
    unfold g_X12_runHolds_b108
    cases nb : pxBIs s (pxWh s p).2.2.2 with
    | false =>
      rw [if_pos (show pxJ (pyB false) = 0 from rfl), pyN_gI H, px_bs, Wh.2.2.1 k3, pyN_rc H, px_bs]
      refine pxW_b2 (n_holds A0 g a4 a5 a3) fun v h1 q => ?_
      obtain ⟨V1, rfl⟩ := q
      have H1 := V1.s H
      have V01 : pyV (pyQrh p) h0 h1 := V0.trans (V1.mono (fun k f z => Or.inl z))
      rw [pyIfB]
      cases hb : pxBAt s (pxWh s p).2.2.2 T.1.length W F with
      | false =>
        obtain ⟨y1, y2, y3⟩ := wr h1 true V01
        rw [if_pos (show pxJ (pyB false) = 0 from rfl), pyNb1]
        have y3' : jw_si h1 22 (some 614) (pxJ p) (pxJ 1) = some (jw_setI h1 614 p.toNat (pxJ 1)) := y3
        rw [y3', px_bs]
        exact pxW_some.mpr ⟨y1, rfl, y2⟩
      | true =>
        obtain ⟨y1, y2, y3⟩ := wr h1 false V01
        rw [if_neg (show ¬ (pxJ (pyB true) = 0) by decide), pyNb0]
        have y3' : jw_si h1 22 (some 614) (pxJ p) (pxJ 0) = some (jw_setI h1 614 p.toNat (pxJ 0)) := y3
        rw [y3', px_bs]
        exact pxW_some.mpr ⟨y1, rfl, y2⟩
    | true =>
      have nb2 := pyBNum_b (n := T.1.length) a3 nb (by omega) (by omega)
      have ern := er rfl
      have ea : pxBAt s (pxWh s p).2.2.2 T.1.length W F = decide (W.2.1 = pxBNum s (pxWh s p).2.2.2 T.1.length) := by unfold pxBAt; rw [if_pos nb]
      rw [es nb, if_neg (show ¬ (pxJ (pyB true) = 0) by decide), pyN_gI H, px_bs, w68, ea]
      by_cases d : pxBNum s (pxWh s p).2.2.2 T.1.length ≤ W.2.1
      · obtain ⟨y1, y2, y3⟩ := wr h false V0
        have d2 : W.2.1 = pxBNum s (pxWh s p).2.2.2 T.1.length := by
          by_cases y : pxBNum s (pxWh s p).2.2.2 T.1.length < W.2.1
          · exact absurd ⟨nb, y⟩ ern
          · omega
        rw [if_pos (show pxJ (pxBNum s (pxWh s p).2.2.2 T.1.length) ≤ pxJ W.2.1 from (pxJ_le (by omega) (by omega) (by omega) (by omega)).mpr d), pyNb0]
        have y3' : jw_si h 22 (some 614) (pxJ p) (pxJ 0) = some (jw_setI h 614 p.toNat (pxJ 0)) := y3
        rw [y3', px_bs, decide_eq_true d2]
        exact pxW_some.mpr ⟨y1, rfl, y2⟩
      · obtain ⟨y1, y2, y3⟩ := wr h true V0
        rw [if_neg (show ¬ (pxJ (pxBNum s (pxWh s p).2.2.2 T.1.length) ≤ pxJ W.2.1) from fun z => d ((pxJ_le (by omega) (by omega) (by omega) (by omega)).mp z)), pyNb1]
        have y3' : jw_si h 22 (some 614) (pxJ p) (pxJ 1) = some (jw_setI h 614 p.toNat (pxJ 1)) := y3
        rw [y3', px_bs, decide_eq_false (show ¬ W.2.1 = pxBNum s (pxWh s p).2.2.2 T.1.length by omega)]
        exact pxW_some.mpr ⟨y1, rfl, y2⟩
set_option maxHeartbeats 8000000 in
theorem n_runHolds {h : jw_H} {s : List Int} {T : pxTx} {came p : Int} {W : pxWk} {F : pxFh} {S : pxSto} {rep r0 : Bool} (A : pyWs h s T came W F S rep) (g : W.2.2.2.2.1 = false) (Wh : pyWh s p h) (ok : (pxWh s p).1 = true) (k3 : (pxWh s p).2.2.1 = 3) (p0 : 0 ≤ p) (p1 : p < s.length) (e614 : pxM h 614 p.toNat = pyB r0) (r1 : Bool) (er : r1 = (r0 && ! (pxBIs s (pxWh s p).2.2.2 && decide (pxBNum s (pxWh s p).2.2.2 T.1.length < W.2.1)))) :
    pxW (f_X12_runHolds h 587 (pxJ p)) fun v h' => pyV (pyQrh p) h h' ∧ v = pxJ (pyB (pyRH s p T.1.length W F r1).1) ∧ pxM h' 614 p.toNat = pyB (pyRH s p T.1.length W F r1).2 := by
  have A0 := A
  obtain ⟨H, G, L, Y, N, M, Wf, D, e17, e44, B⟩ := A
  obtain ⟨R, okr, w65, w66, w67, w68, w69, w70, b1, -, -⟩ := Wf
  have l60 := G.2.1.1
  have l40 := L.2.1
  obtain ⟨a1, a3⟩ := pyWh_a ok (by omega) p0 (by omega)
  obtain ⟨a3, a4, a5⟩ := a3 k3
  have sb := pxSpot_b (s := s) a4 a5
  have b4 := (sb.2.2 (pyAddr a3).1).2
  rw [pxSpot0_i] at b4
  have pl := (pxP_lt (s := s) (p := (pxWh s p).2.2.2) (by omega)).2
  have m0 := G.2.2 (pxWh s p).2.2.2 a4 pl
  rw [← pxP_E a4 pl] at m0
  have pb := pyP_200 G.2.1 (pxWh s p).2.2.2
  unfold f_X12_runHolds
  rw [pyN_g21 H, px_bs, pyN_gI H, px_bs, Wh.2.2.1 k3, pyN_a599 H a4 (by omega), px_bs, m0, n_isNumeric (by omega) (by omega), px_b2]
  -- the run that is over
  have b29 : ∀ sec : Int, (pxBIs s (pxWh s p).2.2.2 = true → sec = pxBNum s (pxWh s p).2.2.2 T.1.length) → pxW (g_X12_runHolds_b29 h 587 (pxJ p) (pxJ (pyB (pxBIs s (pxWh s p).2.2.2))) (pxJ sec)) fun v h' => pyV (pyQrh p) h h' ∧ v = pxJ (pyB (pyRH s p T.1.length W F r1).1) ∧ pxM h' 614 p.toNat = pyB (pyRH s p T.1.length W F r1).2 := by
    intro sec es
    unfold g_X12_runHolds_b29
    rw [pyN_g74 H, px_bs, pyN_a614 H p0 (by omega), px_bs, e614]
    cases r0 with
    | false =>
      rw [Bool.false_and] at er
      rw [if_pos (show pxJ (pyB false) = 0 from rfl)]
      exact n_runHolds_b58 A0 g pyV.rfl Wh ok k3 p0 p1 (by rw [er]; exact e614) es (fun z => by rw [er] at z; cases z)
    | true =>
      rw [Bool.true_and] at er
      rw [if_neg (show ¬ (pxJ (pyB true) = 0) by decide)]
      cases nb : pxBIs s (pxWh s p).2.2.2 with
      | false =>
        rw [nb, Bool.false_and] at er
        have B := n_runHolds_b58 (sec := sec) (r1 := r1) A0 g pyV.rfl Wh ok k3 p0 p1 (by rw [er]; exact e614) es (fun z y => by rw [nb] at y; cases y.1)
        rw [nb] at B
        rw [if_pos (show pxJ (pyB false) = 0 from rfl)]
        exact B
      | true =>
        have nb2 := pyBNum_b (n := T.1.length) a3 nb (by omega) (by omega)
        have es' := es nb
        rw [nb, Bool.true_and] at er
        rw [if_neg (show ¬ (pxJ (pyB true) = 0) by decide), pyN_gI H, px_bs, w68, es']
        by_cases d : pxBNum s (pxWh s p).2.2.2 T.1.length < W.2.1
        · rw [decide_eq_true d] at er
          rw [if_neg (show ¬ (pxJ W.2.1 ≤ pxJ (pxBNum s (pxWh s p).2.2.2 T.1.length)) from fun z => by have := (pxJ_le (a := W.2.1) (b := pxBNum s (pxWh s p).2.2.2 T.1.length) (by omega) (by omega) (by omega) (by omega)).mp z; omega), px_bs, pyNb0, pyN_s614 H p0 (by omega), px_bs]
          have V1 : pyV (fun k f => k = 614 ∧ (f : Int) = p) h (jw_setI h 614 p.toNat (pxJ 0)) := pyV.rfl.set ⟨rfl, by omega⟩
          have f614 : pxM (jw_setI h 614 p.toNat (pxJ 0)) 614 p.toNat = pyB r1 := by rw [pxM_eq (by omega) (by omega), er]; rfl
          generalize jw_setI h 614 p.toNat (pxJ 0) = h1 at *
          have B := n_runHolds_b58 (h0 := h) (r1 := r1) (sec := pxBNum s (pxWh s p).2.2.2 T.1.length) (A0.keep V1 (Int.le_refl _) (fun k f z => by unfold pyQWs at z; omega)) g (V1.mono (fun k f z => Or.inr z)) ⟨by rw [V1.m (by omega)]; exact Wh.1, fun y => by rw [V1.m (by omega)]; exact Wh.2.1 y, fun y => by rw [V1.m (by omega)]; exact Wh.2.2.1 y, by rw [V1.m (by omega)]; exact Wh.2.2.2⟩ ok k3 p0 p1 f614 (fun _ => rfl) (fun z => by rw [er] at z; cases z)
          rw [nb] at B
          exact B
        · rw [decide_eq_false d] at er
          have B := n_runHolds_b58 (sec := pxBNum s (pxWh s p).2.2.2 T.1.length) A0 g pyV.rfl Wh ok k3 p0 p1 (r1 := r1) (by rw [er]; exact e614) (fun _ => rfl) (fun z y => d y.2)
          rw [nb] at B
          rw [if_pos (show pxJ W.2.1 ≤ pxJ (pxBNum s (pxWh s p).2.2.2 T.1.length) from (pxJ_le (by omega) (by omega) (by omega) (by omega)).mpr (by omega))]
          exact B
  by_cases nm : pxBIs s (pxWh s p).2.2.2 = true
  · have nm' := pxBIs_i.mp nm
    have B := b29 (pxBNum s (pxWh s p).2.2.2 T.1.length) (fun _ => rfl)
    rw [nm] at B
    rw [if_pos nm', if_neg (show ¬ (pxJ 1 = 0) by decide), pyN_gI H, px_bs, Wh.2.2.1 k3, pyN_rc H, px_bs, n_numericAt H G w65 (by omega) (by omega) a4 a5 a3 nm, px_b2]
    exact B
  · have nm' : ¬ ((48 ≤ pxP s (pxWh s p).2.2.2 ∧ pxP s (pxWh s p).2.2.2 ≤ 57) ∨ pxP s (pxWh s p).2.2.2 = 36) := fun z => nm (pxBIs_i.mpr z)
    have B := b29 0 (fun z => absurd z nm)
    rw [Bool.eq_false_iff.mpr nm] at B
    rw [if_neg nm', if_pos (show pxJ 0 = 0 from rfl)]
    exact B
set_option maxHeartbeats 8000000 in
theorem n_whereHolds {h : jw_H} {s : List Int} {T : pxTx} {came p : Int} {W : pxWk} {F : pxFh} {S : pxSto} {rep : Bool} {gg : pxFg} (A : pyWs h s T came W F S rep) (g : W.2.2.2.2.1 = false) (Wh : pyWh s p h) (ok : (pxWh s p).1 = true) (p0 : 0 ≤ p) (p1 : p < s.length) (Rn : pyRn h p gg) :
    pxW (f_X12_whereHolds h 587 (pxJ p)) fun v h' => pyV (pyQrn p) h h' ∧ v = pxJ (pyB (pxBHold s p T.1.length W F gg).1) ∧ pyRn h' p (pxBHold s p T.1.length W F gg).2 := by
  have A0 := A
  obtain ⟨H, G, L, Y, N, M, Wf, D, e17, e44, B⟩ := A
  obtain ⟨R, okr, w65, w66, w67, w68, w69, w70, b1, b2, b3⟩ := Wf
  obtain ⟨r1, r2, r3, r4⟩ := Rn
  have l60 := G.2.1.1
  have l40 := L.2.1
  have wb := pxWh_b (s := s) p0 (by omega)
  unfold f_X12_whereHolds pxBHold
  rw [pyN_gI H, px_bs, Wh.1]
  by_cases k2 : (pxWh s p).2.2.1 < 2
  · rw [if_pos k2, if_neg (show ¬ ((2 : Int32) ≤ pxJ (pxWh s p).2.2.1) from fun z => by have := (pxJ_le (a := 2) (b := (pxWh s p).2.2.1) (by omega) (by omega) (by omega) (by omega)).mp z; omega)]
    exact pxW_some.mpr ⟨pyV.rfl, rfl, r1, r2, r3, r4⟩
  obtain ⟨a1, a3⟩ := pyWh_a ok (by omega) p0 (by omega)
  rw [if_neg k2, if_pos (show (2 : Int32) ≤ pxJ (pxWh s p).2.2.1 from (pxJ_le (a := 2) (b := (pxWh s p).2.2.1) (by omega) (by omega) (by omega) (by omega)).mpr (by omega)), px_bs]
  by_cases k22 : (pxWh s p).2.2.1 = 2
  · rw [if_pos k22, if_pos (show pxJ (pxWh s p).2.2.1 = (2 : Int32) by rw [k22]; rfl), pyN_gI H, px_bs, Wh.2.1 (by omega), pyN_rc H, px_bs]
    refine pxW_b2 (n_holds A0 g p0 (by omega) a1) fun v h1 q => ?_
    obtain ⟨V1, rfl⟩ := q
    rw [pyIfB, pyRbB, px_bs]
    exact pxW_some.mpr ⟨V1.mono (fun k f z => Or.inl z), rfl, by rw [V1.m (by unfold pyQl; omega)]; exact r1, fun y => by rw [V1.m (by unfold pyQl; omega)]; exact r2 y, by rw [V1.m (by unfold pyQl; omega)]; exact r3, r4⟩
  have k3 : (pxWh s p).2.2.1 = 3 := by omega
  have lo := pxM_lo h 615 p.toNat
  have hi := pxM_hi h 615 p.toNat
  rw [r3] at lo hi
  rw [if_neg k22, if_neg (show ¬ (pxJ (pxWh s p).2.2.1 = (2 : Int32)) from py32 (a := (pxWh s p).2.2.1) (b := 2) k22 (by omega) (by omega) (by omega) (by omega)), pyN_g75 H, px_bs, pyN_a615 H p0 (by omega), px_bs, r3, pyN_gI H, px_bs, w69]
  unfold g_X12_whereHolds_b61
  by_cases d : gg.2.2.2 = W.2.2.2.1
  · rw [if_pos d, if_pos (show pxJ gg.2.2.2 = pxJ W.2.2.2.1 by rw [d]), pyN_g76 H, px_bs, pyN_a616 H p0 (by omega), px_bs, r2 (by omega), pyRbB, px_bs]
    exact pxW_some.mpr ⟨pyV.rfl, rfl, r1, r2, r3, r4⟩
  rw [if_neg d, if_neg (show ¬ (pxJ gg.2.2.2 = pxJ W.2.2.2.1) from fun z => d ((pxJ_eq lo hi (by omega) (by omega)).mp z)), px_bs, px_bs, pyN_s615 H p0 (by omega), px_bs]
  have V1 : pyV (fun k f => k = 615 ∧ (f : Int) = p) h (jw_setI h 615 p.toNat (pxJ W.2.2.2.1)) := pyV.rfl.set ⟨rfl, by omega⟩
  have f615 : pxM (jw_setI h 615 p.toNat (pxJ W.2.2.2.1)) 615 p.toNat = W.2.2.2.1 := by rw [pxM_eq (by omega) (by omega)]
  generalize jw_setI h 615 p.toNat (pxJ W.2.2.2.1) = h1 at *
  have H1 := V1.s H
  have A1 := A0.keep V1 (Int.le_refl came) (fun k f z => by unfold pyQWs at z; omega)
  have Wh1 : pyWh s p h1 := ⟨by rw [V1.m (by omega)]; exact Wh.1, fun y => by rw [V1.m (by omega)]; exact Wh.2.1 y, fun y => by rw [V1.m (by omega)]; exact Wh.2.2.1 y, by rw [V1.m (by omega)]; exact Wh.2.2.2⟩
  have f614 : pxM h1 614 p.toNat = pyB gg.1 := by rw [V1.m (by omega)]; exact r1
  rw [pyN_g76 H1, px_bs, pyN_rc H1, px_bs]
  refine pxW_b2 (n_runHolds A1 g Wh1 ok k3 p0 p1 f614 _ rfl) fun v h2 q => ?_
  obtain ⟨V2, rfl, g614⟩ := q
  have H2 := V2.s H1
  rw [pyNbB, pyN_s616 H2 p0 (by omega), px_bs]
  have bb : ∀ b : Bool, -2147483648 ≤ pyB b ∧ pyB b ≤ 2147483647 := fun b => by have := pyB_1 (b := b); omega
  have V3 : ∀ b : Bool, pyV (fun k f => k = 616 ∧ (f : Int) = p) h2 (jw_setI h2 616 p.toNat (pxJ (pyB b))) := fun b => pyV.rfl.set ⟨rfl, by omega⟩
  have VV : ∀ b : Bool, pyV (pyQrn p) h (jw_setI h2 616 p.toNat (pxJ (pyB b))) := fun b => ((V1.mono (fun k f z => Or.inr ⟨by omega, z.2⟩)).trans (V2.mono (fun k f z => z.elim Or.inl (fun z => Or.inr ⟨Or.inl z.1, z.2⟩)))).trans ((V3 b).mono (fun k f z => Or.inr ⟨by omega, z.2⟩))
  have H3 : ∀ b : Bool, pyS (jw_setI h2 616 p.toNat (pxJ (pyB b))) := fun b => H2
  have g616 : ∀ b : Bool, pxM (jw_setI h2 616 p.toNat (pxJ (pyB b))) 616 p.toNat = pyB b := fun b => by rw [pxM_eq (bb b).1 (bb b).2]
  have g615 : ∀ b : Bool, pxM (jw_setI h2 616 p.toNat (pxJ (pyB b))) 615 p.toNat = W.2.2.2.1 := fun b => by rw [pxM_ne (by omega), V2.m (by unfold pyQrh pyQl; omega)]; exact f615
  rw [pyN_g76 (H3 _), px_bs, pyN_a616 (H3 _) p0 (by omega), px_bs, g616, pyRbB, px_bs]
  have k614 : ∀ b : Bool, pxM (jw_setI h2 616 p.toNat (pxJ (pyB b))) 614 p.toNat = pxM h2 614 p.toNat := fun b => pxM_ne (by omega)
  by_cases c : gg.1 = true ∧ ¬ (pxBIs s (pxWh s p).2.2.2 = true ∧ pxBNum s (pxWh s p).2.2.2 T.1.length < W.2.1)
  · have er := pyBoo.mpr c
    have e2 : pyRH s p T.1.length W F (gg.1 && ! (pxBIs s (pxWh s p).2.2.2 && decide (pxBNum s (pxWh s p).2.2.2 T.1.length < W.2.1))) = (true, ! pxBAt s (pxWh s p).2.2.2 T.1.length W F) := by unfold pyRH; rw [if_pos er]
    rw [e2] at g614
    rw [e2, if_pos c]
    exact pxW_some.mpr ⟨VV _, rfl, by rw [k614]; exact g614, fun _ => g616 true, g615 true, fun _ => (Bool.not_not _).symm⟩
  · have er : ¬ ((gg.1 && ! (pxBIs s (pxWh s p).2.2.2 && decide (pxBNum s (pxWh s p).2.2.2 T.1.length < W.2.1))) = true) := fun z => c (pyBoo.mp z)
    have e2 : pyRH s p T.1.length W F (gg.1 && ! (pxBIs s (pxWh s p).2.2.2 && decide (pxBNum s (pxWh s p).2.2.2 T.1.length < W.2.1))) = (pxBAt s p T.1.length W F, pxBAt s p T.1.length W F && ! (pxBIs s (pxWh s p).2.2.2 && decide (pxBNum s (pxWh s p).2.2.2 T.1.length ≤ W.2.1))) := by unfold pyRH; rw [if_neg er]
    rw [e2] at g614
    rw [e2, if_neg c]
    refine pxW_some.mpr ⟨VV _, rfl, by rw [k614]; exact g614, fun _ => g616 _, g615 _, fun z => ?_⟩
    have z' : pxBAt s p T.1.length W F = true := z
    show (pxBIs s (pxWh s p).2.2.2 && decide (pxBNum s (pxWh s p).2.2.2 T.1.length ≤ W.2.1)) = !(pxBAt s p T.1.length W F && ! (pxBIs s (pxWh s p).2.2.2 && decide (pxBNum s (pxWh s p).2.2.2 T.1.length ≤ W.2.1)))
    rw [z', Bool.true_and, Bool.not_not]
