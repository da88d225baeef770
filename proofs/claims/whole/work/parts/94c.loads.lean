/-! the reference's calls: the tape and the scripts are loaded -/
theorem pxOrds_r {s : List Int} : ∀ (m : Nat) (p : Int), 0 ≤ p → p ≤ s.length → -1 ≤ (pxOrds s m p).1 ∧ (pxOrds s m p).1 ≤ s.length
  | 0, p, p0, p1 => by
    show -1 ≤ p ∧ p ≤ s.length
    omega
  | m + 1, p, p0, p1 => by
    have tb := pxTop_b (s := s) p0 p1
    have e : pxOrds s (m + 1) p = if (pxTop s p).1 = true then (if pxP s (pxTop s p).2.1 = 59 then ((pxOrds s m ((pxTop s p).2.1 + 1)).1, (p, (pxTop s p).2.2) :: (pxOrds s m ((pxTop s p).2.1 + 1)).2) else if s.length ≤ (pxTop s p).2.1 then (-1, [(p, (pxTop s p).2.2)]) else ((pxTop s p).2.1, [])) else ((pxTop s p).2.1, []) := rfl
    rw [e]
    by_cases c : (pxTop s p).1 = true
    · rw [if_pos c]
      by_cases d : pxP s (pxTop s p).2.1 = 59
      · rw [if_pos d]
        have pl := (pxP_lt (s := s) (p := (pxTop s p).2.1) (by omega)).2
        exact pxOrds_r m ((pxTop s p).2.1 + 1) (by omega) (by omega)
      · rw [if_neg d]
        by_cases g : (s.length : Int) ≤ (pxTop s p).2.1
        · rw [if_pos g]
          show -1 ≤ (-1 : Int) ∧ (-1 : Int) ≤ s.length
          omega
        · rw [if_neg g]
          show -1 ≤ (pxTop s p).2.1 ∧ (pxTop s p).2.1 ≤ s.length
          omega
    · rw [if_neg c]
      show -1 ≤ (pxTop s p).2.1 ∧ (pxTop s p).2.1 ≤ s.length
      omega
theorem pxOrds_n {s : List Int} : ∀ (m : Nat) (p : Int), (pxOrds s m p).2.length ≤ m
  | 0, p => Nat.le_refl _
  | m + 1, p => by
    have ih := pxOrds_n (s := s) m ((pxTop s p).2.1 + 1)
    have e : pxOrds s (m + 1) p = if (pxTop s p).1 = true then (if pxP s (pxTop s p).2.1 = 59 then ((pxOrds s m ((pxTop s p).2.1 + 1)).1, (p, (pxTop s p).2.2) :: (pxOrds s m ((pxTop s p).2.1 + 1)).2) else if s.length ≤ (pxTop s p).2.1 then (-1, [(p, (pxTop s p).2.2)]) else ((pxTop s p).2.1, [])) else ((pxTop s p).2.1, []) := rfl
    rw [e]
    by_cases c : (pxTop s p).1 = true
    · rw [if_pos c]
      by_cases d : pxP s (pxTop s p).2.1 = 59
      · rw [if_pos d]
        show ((pxOrds s m ((pxTop s p).2.1 + 1)).2).length + 1 ≤ m + 1
        omega
      · rw [if_neg d]
        by_cases g : (s.length : Int) ≤ (pxTop s p).2.1
        · rw [if_pos g]
          show 1 ≤ m + 1
          omega
        · rw [if_neg g]
          show 0 ≤ m + 1
          omega
    · rw [if_neg c]
      show 0 ≤ m + 1
      omega
theorem pxTpF_r {s : List Int} : -1 ≤ pxTpF s ∧ pxTpF s ≤ s.length := by
  have pb := pxPat_b (s := s) (p := 0) (by omega) (by omega)
  unfold pxTpF
  by_cases c : (pxPat s 0).1 = true ∧ (s.length : Int) ≤ (pxPat s 0).2
  · rw [if_pos c]
    omega
  · rw [if_neg c]
    omega
theorem pxTp_e {s : List Int} (T : pxTp s) {j : Int} (j0 : 0 ≤ j) (j1 : j < s.length) : 32 ≤ pxE s j ∧ pxE s j ≤ 126 := by
  have f := pyC_f T j0
  have e : pyC s j = pxE s j := by
    unfold pyC
    rw [if_pos j1]
  rw [e] at f
  omega
/-- what loading changes -/
def pyQld : Nat → Nat → Prop := fun k f => k = 599 ∨ (k = 587 ∧ f = 22)
section
variable {h : jw_H} {α : pzA} {n : Int}
theorem pyThr {γ : Type} {w : Int32} {t : Int} (H : pyS h) (e : w = pxJ t) (t0 : 0 ≤ t) (t1 : t ≤ 10) {f : Int32 → jw_H → Option γ} : ((jw_pI h 12 (some 587) 0 w).bind fun h1 => (jw_gI h1 12 (some 587) 0).bind fun v2 => f v2 h1) = f w (jw_setI h 587 0 w) := by
  subst e
  rw [pyN_pI H, px_bs]
  have H1 : pyS (jw_setI h 587 0 (pxJ t)) := H
  rw [pyN_gI H1, px_bs, pxM_eq (by omega) (by omega)]
theorem pyA.n00 (A : pyA h α) : pyV pyQZ h (jw_setI h 587 0 (0 : Int32)) ∧ pxM (jw_setI h 587 0 (0 : Int32)) 587 0 = 0 ∧ pyA (jw_setI h 587 0 (0 : Int32)) α := A.n0 0 (by omega) (by omega)
theorem pyZ_1 {v : Int} {w : Int32} (A : pyA h α) : pyZ h (1, v, α) w (jw_setI h 587 0 (1 : Int32)) := pyZ_0 (t := 1) A (by omega) (by omega) (fun z => absurd z (by decide))
theorem pyZ_2 {v : Int} {w : Int32} (A : pyA h α) : pyZ h (2, v, α) w (jw_setI h 587 0 (2 : Int32)) := pyZ_0 (t := 2) A (by omega) (by omega) (fun z => absurd z (by decide))
theorem pyA.ld {h1 : jw_H} (A : pyA h α) (V : pyV pyQld h h1) : pyA h1 α := A.keep V (fun k f z => by unfold pyQA0 at z; unfold pyQld; omega)
theorem pyQld.z {h1 : jw_H} (V : pyV pyQld h h1) : pyV pyQZ h h1 := V.mono (fun k f z => by unfold pyQld at z; unfold pyQZ; omega)
theorem pyA.qp {h1 : jw_H} (A : pyA h α) (V : pyV pyQp h h1) : pyA h1 α := A.keep V (fun k f z => by unfold pyQA0 at z; unfold pyQp; omega)
theorem pyQp.z {h1 : jw_H} (V : pyV pyQp h h1) : pyV pyQZ h h1 := V.mono (fun k f z => by unfold pyQp at z; unfold pyQZ; omega)
theorem n_loadTape_b10 {h0 : jw_H} {t : List Int} (Tp : pyTpe h0 t) (H0 : pyS h0) (T : pxTp t) : ∀ (m N : Nat) (h : jw_H) (j : Int), j + m = t.length → 0 ≤ j → m < N → pyV (fun k _ => k = 599) h0 h → (∀ y : Int, 0 ≤ y → y < j → pxM h 599 y.toNat = pxE t y) →
    pxW (f_X12_loadTape_b10 N h 587 (pxJ j)) fun _ h' => pyV (fun k _ => k = 599) h0 h' ∧ ∀ y : Int, 0 ≤ y → y < t.length → pxM h' 599 y.toNat = pxE t y := by
  have l60 := T.1
  intro m
  induction m with
  | zero =>
    intro N h j hj j0 hN V e
    obtain ⟨N, rfl, -⟩ := px_fu hN
    have H := V.s H0
    rw [u_X12_loadTape_b10]
    unfold g_X12_loadTape_b10
    rw [pyN_gI H, px_bs, V.m (by omega), Tp.1, if_pos (show pxJ (t.length : Int) ≤ pxJ j by rw [show j = t.length by omega]; exact Int32.le_refl _)]
    exact pxW_some.mpr ⟨V, fun y y0 y1 => e y y0 (by omega)⟩
  | succ m ih =>
    intro N h j hj j0 hN V e
    obtain ⟨N, rfl, hN⟩ := px_fu hN
    have H := V.s H0
    have te := pxTp_e T (j := j) j0 (by omega)
    have V1 : pyV (fun k _ => k = 599) h0 (jw_setI h 599 j.toNat (pxJ (pxE t j))) := V.set rfl
    rw [u_X12_loadTape_b10]
    unfold g_X12_loadTape_b10
    rw [pyN_gI H, px_bs, V.m (by omega), Tp.1, if_neg (show ¬ (pxJ (t.length : Int) ≤ pxJ j) from fun z => by
      have := (pxJ_le (a := (t.length : Int)) (b := j) (by omega) (by omega) (by omega) (by omega)).mp z
      omega), pyN_g21 H, px_bs, pyN_g1 H, px_bs, pyN_a588 H j0 (by omega), px_bs, V.m (by omega), Tp.2 j j0 (by omega), pyN_s599 H j0 (by omega), px_bs, show pxJ j + (1 : Int32) = pxJ (j + 1) from pxJ_add j 1]
    exact ih N _ (j + 1) (by omega) (by omega) (by omega) V1 (fun y y0 y1 => by
      by_cases c : y = j
      · subst c; rw [pxM_eq (by omega) (by omega)]
      · rw [pxM_ne (by omega)]; exact e y y0 (by omega))
theorem n_loadTape {t : List Int} (H : pyS h) (Tp : pyTpe h t) (T : pxTp t) : pxW (f_X12_loadTape h 587) fun _ h' => pyV pyQld h h' ∧ pyG h' t := by
  have l60 := T.1
  unfold f_X12_loadTape
  rw [pyN_gI H, px_bs, Tp.1, pyN_pI H, px_bs]
  have V0 : pyV (fun k f => k = 587 ∧ f = 22) h (jw_setI h 587 22 (pxJ (t.length : Int))) := pyV.rfl.set ⟨rfl, rfl⟩
  have a22 : pxM (jw_setI h 587 22 (pxJ (t.length : Int))) 587 22 = t.length := pxM_eq (by omega) (by omega)
  generalize jw_setI h 587 22 (pxJ (t.length : Int)) = h0 at *
  have H0 := V0.s H
  have B := n_loadTape_b10 (h0 := h0) (Tp.keep V0 (by omega) (fun f => by omega)) H0 T t.length jw_FU h0 0 (by omega) (by omega) (by unfold jw_FU; omega) pyV.rfl (fun y y0 y1 => by omega)
  refine B.mono fun _ h' q => ?_
  obtain ⟨V, e⟩ := q
  exact ⟨(V0.mono (fun k f z => by unfold pyQld; omega)).trans (V.mono (fun k f z => by unfold pyQld; omega)), by rw [V.m (by omega)]; exact a22, T, e⟩
theorem n_loadScript_b12 {h0 : jw_H} {t : List Int} {x : Int} (x0 : 0 ≤ x) (x4 : x < 4) (e : ∀ j : Int, 0 ≤ j → j < t.length → pxM h0 589 (60 * x + j).toNat = pxE t j) (a22 : pxM h0 587 22 = t.length) (H0 : pyS h0) (T : pxTp t) : ∀ (m N : Nat) (h : jw_H) (j : Int), j + m = t.length → 0 ≤ j → m < N → pyV (fun k _ => k = 599) h0 h → (∀ y : Int, 0 ≤ y → y < j → pxM h 599 y.toNat = pxE t y) →
    pxW (f_X12_loadScript_b12 N h 587 (pxJ x) (pxJ j)) fun _ h' => pyV (fun k _ => k = 599) h0 h' ∧ ∀ y : Int, 0 ≤ y → y < t.length → pxM h' 599 y.toNat = pxE t y := by
  have l60 := T.1
  intro m
  induction m with
  | zero =>
    intro N h j hj j0 hN V g
    obtain ⟨N, rfl, -⟩ := px_fu hN
    have H := V.s H0
    rw [u_X12_loadScript_b12]
    unfold g_X12_loadScript_b12
    rw [pyN_gI H, px_bs, V.m (by omega), a22, if_pos (show pxJ (t.length : Int) ≤ pxJ j by rw [show j = t.length by omega]; exact Int32.le_refl _)]
    exact pxW_some.mpr ⟨V, fun y y0 y1 => g y y0 (by omega)⟩
  | succ m ih =>
    intro N h j hj j0 hN V g
    obtain ⟨N, rfl, hN⟩ := px_fu hN
    have H := V.s H0
    have te := pxTp_e T (j := j) j0 (by omega)
    have V1 : pyV (fun k _ => k = 599) h0 (jw_setI h 599 j.toNat (pxJ (pxE t j))) := V.set rfl
    rw [u_X12_loadScript_b12]
    unfold g_X12_loadScript_b12
    rw [pyN_gI H, px_bs, V.m (by omega), a22, if_neg (show ¬ (pxJ (t.length : Int) ≤ pxJ j) from fun z => by
      have := (pxJ_le (a := (t.length : Int)) (b := j) (by omega) (by omega) (by omega) (by omega)).mp z
      omega), pyN_g21 H, px_bs, pyN_g3 H, px_bs, show ((60 : Int32) * pxJ x) + pxJ j = pxJ (60 * x + j) by rw [show (60 : Int32) = pxJ 60 from rfl, pxJ_mul, pxJ_add], pyN_a589 H (by omega) (by omega), px_bs, V.m (by omega), e j j0 (by omega), pyN_s599 H j0 (by omega), px_bs, show pxJ j + (1 : Int32) = pxJ (j + 1) from pxJ_add j 1]
    exact ih N _ (j + 1) (by omega) (by omega) (by omega) V1 (fun y y0 y1 => by
      by_cases c : y = j
      · subst c; rw [pxM_eq (by omega) (by omega)]
      · rw [pxM_ne (by omega)]; exact g y y0 (by omega))
theorem n_loadScript {t : List Int} {sc : Int → Option (List Int)} {x : Int} (H : pyS h) (Sc : pySc h sc) (x0 : 0 ≤ x) (x4 : x < 4) (es : sc x = some t) (T : pxTp t) : pxW (f_X12_loadScript h 587 (pxJ x)) fun _ h' => pyV pyQld h h' ∧ pyG h' t := by
  have l60 := T.1
  obtain ⟨s1, s2, s3⟩ := (Sc x x0 x4).2 t es
  unfold f_X12_loadScript
  rw [pyN_g4 H, px_bs, pyN_a590 H x0 x4, px_bs, s2, pyN_pI H, px_bs]
  have V0 : pyV (fun k f => k = 587 ∧ f = 22) h (jw_setI h 587 22 (pxJ (t.length : Int))) := pyV.rfl.set ⟨rfl, rfl⟩
  have a22 : pxM (jw_setI h 587 22 (pxJ (t.length : Int))) 587 22 = t.length := pxM_eq (by omega) (by omega)
  generalize jw_setI h 587 22 (pxJ (t.length : Int)) = h0 at *
  have H0 := V0.s H
  have B := n_loadScript_b12 (h0 := h0) x0 x4 (fun j j0 j1 => by rw [V0.m (by omega)]; exact s3 j j0 j1) a22 H0 T t.length jw_FU h0 0 (by omega) (by omega) (by unfold jw_FU; omega) pyV.rfl (fun y y0 y1 => by omega)
  refine B.mono fun _ h' q => ?_
  obtain ⟨V, e⟩ := q
  exact ⟨(V0.mono (fun k f z => by unfold pyQld; omega)).trans (V.mono (fun k f z => by unfold pyQld; omega)), by rw [V.m (by omega)]; exact a22, T, e⟩
theorem n_fault (A : pyA h α) (O : pxTp α.1) : pxW (f_X12_fault h 587) fun v h' => pyZ h (pz_fault α) v h' := by
  have H := A.1
  obtain ⟨z1, z2, A1⟩ := A.n00
  unfold f_X12_fault
  rw [pyN_pI H, px_bs]
  generalize jw_setI h 587 0 (0 : Int32) = h1 at *
  rw [pyN_rc A1.1, px_bs]
  refine pxW_b2 (n_loadTape A1.1 A1.2.1 O) fun _ h2 q => ?_
  obtain ⟨V2, G2⟩ := q
  have A2 := A1.ld V2
  rw [pyN_rc A2.1, px_bs]
  refine pxW_b2 (n_ordersFault A2.1 G2) fun r h3 q => ?_
  obtain ⟨er, V3⟩ := q
  exact pxW_some.mpr ⟨(z1.trans (pyQld.z V2)).trans (pyQp.z V3), by rw [V3.m (by unfold pyQp; omega), V2.m (by unfold pyQld; omega)]; exact z2, fun _ => er, A2.qp V3⟩
theorem n_patternFault (A : pyA h α) (O : pxTp α.1) : pxW (f_X12_patternFault h 587) fun v h' => pyZ h (pz_pf α) v h' := by
  have H := A.1
  obtain ⟨z1, z2, A1⟩ := A.n00
  unfold f_X12_patternFault
  rw [pyN_pI H, px_bs]
  generalize jw_setI h 587 0 (0 : Int32) = h1 at *
  rw [pyN_rc A1.1, px_bs]
  refine pxW_b2 (n_loadTape A1.1 A1.2.1 O) fun _ h2 q => ?_
  obtain ⟨V2, G2⟩ := q
  have A2 := A1.ld V2
  rw [pyN_rc A2.1, px_bs]
  refine pxW_b2 (n_patternsFault A2.1 G2) fun r h3 q => ?_
  obtain ⟨er, V3⟩ := q
  have V3' : pyV pyQp h2 h3 := V3.mono (fun k f z => by unfold pyQs at z; unfold pyQp; omega)
  exact pxW_some.mpr ⟨(z1.trans (pyQld.z V2)).trans (pyQp.z V3'), by rw [V3.m (by unfold pyQs; omega), V2.m (by unfold pyQld; omega)]; exact z2, fun _ => er, A2.qp V3'⟩
theorem n_type {c : Int} (A : pyA h α) (O : pxTp α.1) (c0 : -2147483648 ≤ c) (c1 : c ≤ 2147483647) : pxW (f_X12_type h 587 (pxJ c)) fun v h' => pyZ h (pz_type c α) v h' := by
  have H := A.1
  have l60 := O.1
  have bad : (c < 32 ∨ 126 < c) → pxW (g_X12_type_b13 h 587 (pxJ c) 587) fun v h' => pyZ h (pz_type c α) v h' := by
    intro z
    unfold g_X12_type_b13 g_X12_type_b31 pz_type
    rw [pyThr (w := 1) (t := 1) H rfl (by omega) (by omega), if_neg (show ¬ ((1 : Int32) ≤ 0) by decide), if_pos z]
    exact pxW_some.mpr (pyZ_1 A)
  unfold f_X12_type
  by_cases a : c < 32
  · rw [if_pos (show pxJ c < (32 : Int32) from (pxJ_lt (a := c) (b := 32) c0 c1 (by omega) (by omega)).mpr a)]
    exact bad (Or.inl a)
  rw [if_neg (show ¬ (pxJ c < (32 : Int32)) from fun z => a ((pxJ_lt (a := c) (b := 32) c0 c1 (by omega) (by omega)).mp z))]
  by_cases b : c ≤ 126
  · rw [if_pos (show pxJ c ≤ (126 : Int32) from (pxJ_le (a := c) (b := 126) c0 c1 (by omega) (by omega)).mpr b), pyN_gI H, px_bs, A.2.1.1]
    unfold g_X12_type_b31 pz_type
    rw [if_neg (show ¬ (c < 32 ∨ 126 < c) by omega)]
    by_cases l : α.1.length = 60
    · rw [if_pos (show pxJ (α.1.length : Int) = (60 : Int32) by rw [l]; rfl), if_pos l, pyThr (w := 2) (t := 2) H rfl (by omega) (by omega), if_neg (show ¬ ((2 : Int32) ≤ 0) by decide)]
      exact pxW_some.mpr (pyZ_2 A)
    · rw [if_neg (show ¬ (pxJ (α.1.length : Int) = (60 : Int32)) from fun z => l (by
        have := (pxJ_eq (a := (α.1.length : Int)) (b := 60) (by omega) (by omega) (by omega) (by omega)).mp z
        omega)), if_neg l, pyThr (w := 0) (t := 0) H rfl (by omega) (by omega), if_pos (show (0 : Int32) ≤ 0 from Int32.le_refl _)]
      obtain ⟨z1, z2, A1⟩ := A.n00
      generalize jw_setI h 587 0 (0 : Int32) = h1 at *
      have H1 := A1.1
      obtain ⟨-, Tp, Sc, X, Y, D, e63, e18⟩ := id A1
      have H2 : pyS (jw_setI h1 588 (α.1.length : Int).toNat (pxJ c)) := H1
      rw [pyN_g1 H1, px_bs, pyN_gI H1, px_bs, Tp.1, pyN_s588 H1 (by omega) (by omega), px_bs, pyN_gI H2, px_bs, pxM_ne (by omega), Tp.1, show pxJ (α.1.length : Int) + (1 : Int32) = pxJ ((α.1.length : Int) + 1) from pxJ_add _ 1, pyN_pI H2, px_bs]
      have H3 : pyS (jw_setI (jw_setI h1 588 (α.1.length : Int).toNat (pxJ c)) 587 2 (pxJ ((α.1.length : Int) + 1))) := H1
      have V : pyV (fun k f => k = 588 ∨ (k = 587 ∧ f = 2)) h1 (jw_setI (jw_setI h1 588 (α.1.length : Int).toNat (pxJ c)) 587 2 (pxJ ((α.1.length : Int) + 1))) := (pyV.rfl.set (Or.inl rfl)).set (Or.inr ⟨rfl, rfl⟩)
      have a2 : pxM (jw_setI (jw_setI h1 588 (α.1.length : Int).toNat (pxJ c)) 587 2 (pxJ ((α.1.length : Int) + 1))) 587 2 = (α.1.length : Int) + 1 := pxM_eq (by omega) (by omega)
      have T' : pyTpe (jw_setI (jw_setI h1 588 (α.1.length : Int).toNat (pxJ c)) 587 2 (pxJ ((α.1.length : Int) + 1))) (α.1 ++ [c]) := by
        refine ⟨by rw [a2, List.length_append, List.length_singleton]; omega, fun j j0 j1 => ?_⟩
        rw [List.length_append, List.length_singleton] at j1
        rw [pxM_ne (by omega)]
        by_cases d : j < α.1.length
        · rw [pxM_ne (by omega), pxE_app1 j0 d]
          exact Tp.2 j j0 d
        · rw [show j = (α.1.length : Int) by omega, pxM_eq (by omega) (by omega), pxE_app2 (Int.le_refl _), Int.sub_self]
          rfl
      rw [pyN_gI H3, px_bs, a2]
      exact pxW_some.mpr ⟨z1.trans (V.mono (fun k f z => by unfold pyQZ; omega)), by rw [V.m (by omega)]; exact z2, fun _ => rfl, H3, T', Sc.keep V (fun k f z => by omega), X.keep V (fun k f z => by omega), Y.keep V (fun k f z => by omega), D.keep V (fun k f z => by unfold pyQnd at z; omega), by rw [V.m (by omega)]; exact e63, by rw [V.m (by omega)]; exact e18⟩
  · rw [if_neg (show ¬ (pxJ c ≤ (126 : Int32)) from fun z => b ((pxJ_le (a := c) (b := 126) c0 c1 (by omega) (by omega)).mp z))]
    exact bad (Or.inr (by omega))
/-- a run of a loaded program -/
theorem n_runs {s : List Int} (A : pyA h α) (O : pzOk n α) (G : pyG h s) (ok : (pxOrds s 61 0).1 = -1) (z0 : pxM h 587 0 = 0) : pxW (f_X12_doAll h 587) fun v h' => pyZ h (pzRun s α) v h' := by
  obtain ⟨H, Tp, Sc, X, Y, D, e63, e18⟩ := A
  obtain ⟨-, -, I, -, -, -, i1, i2, i3, -⟩ := O
  have l60 := G.2.1.1
  obtain ⟨L, ne⟩ := pyLs_of (s := s) 61 0 ok (by omega) (by omega)
  have ln := pxOrds_n (s := s) 61 0
  refine pxW.mono (n_doAll (nB := 2400 * n + 2400) H G X Y I D e63 (by omega) (by omega) (by omega) (by omega) L ne (by omega)) fun v h' q => ?_
  obtain ⟨V, f63, ev, X', Y', D', e18', -⟩ := q
  have V0 : ∀ f : Nat, f = 0 ∨ f = 2 → pxM h' 587 f = pxM h 587 f := fun f hf => V.m (by unfold pyQr pyQr1 pyQO pyQE pyQI pyQA4 pyQA pyQst pyQg2 pyQl pyQj pyQp pyQsv pyQcb pyQnd; omega)
  have V1 : ∀ k f, (k = 588 ∨ k = 589 ∨ k = 590 ∨ k = 591) → ¬ pyQr k f := fun k f z => by unfold pyQr pyQr1 pyQO pyQE pyQI pyQA4 pyQA pyQst pyQg2 pyQl pyQj pyQp pyQsv pyQcb pyQnd; omega
  refine ⟨V.mono (fun k f z => by unfold pyQr pyQr1 pyQO pyQE pyQI pyQA4 pyQA pyQst pyQg2 pyQl pyQj pyQp pyQsv pyQcb pyQnd at z; unfold pyQZ; omega), by rw [V0 0 (Or.inl rfl)]; exact z0, fun _ => ev, V.s H, ⟨by rw [V0 2 (Or.inr rfl)]; exact Tp.1, fun j j0 j1 => by rw [V.m (V1 _ _ (by omega))]; exact Tp.2 j j0 j1⟩, Sc.keep V (fun k f z => V1 k f (by omega)), X', Y', D', f63, e18'⟩
/-- a play line by line of a loaded program -/
theorem n_plays {s : List Int} (A : pyA h α) (O : pzOk n α) (G : pyG h s) (ok : (pxOrds s 61 0).1 = -1) (z0 : pxM h 587 0 = 0) : pxW (f_X12_playLines h 587) fun v h' => pyZ h (pzPly s α) v h' := by
  obtain ⟨H, Tp, Sc, X, Y, D, e63, e18⟩ := A
  obtain ⟨-, -, I, -, -, -, i1, i2, i3, -⟩ := O
  have l60 := G.2.1.1
  obtain ⟨L, ne⟩ := pyLs_of (s := s) 61 0 ok (by omega) (by omega)
  have ln := pxOrds_n (s := s) 61 0
  refine pxW.mono (n_playLines H G X Y I D e63 (by omega) (by omega) (by omega) L ne (by omega)) fun v h' q => ?_
  obtain ⟨V, f63, ev, X', Y', D', e18', -⟩ := q
  have V0 : ∀ f : Nat, f = 0 ∨ f = 2 → pxM h' 587 f = pxM h 587 f := fun f hf => V.m (by unfold pyQpl pyQpp pyQwo pyQwi pyQct pyQwa pyQru pyQl pyQj pyQpn pyQpr pyQpt pyQtn pyQem pyQp pyQk pyQsv pyQcb pyQbn pyQnd; omega)
  have V1 : ∀ k f, (k = 588 ∨ k = 589 ∨ k = 590 ∨ k = 591) → ¬ pyQpl k f := fun k f z => by unfold pyQpl pyQpp pyQwo pyQwi pyQct pyQwa pyQru pyQl pyQj pyQpn pyQpr pyQpt pyQtn pyQem pyQp pyQk pyQsv pyQcb pyQbn pyQnd; omega
  refine ⟨V.mono (fun k f z => by unfold pyQpl pyQpp pyQwo pyQwi pyQct pyQwa pyQru pyQl pyQj pyQpn pyQpr pyQpt pyQtn pyQem pyQp pyQk pyQsv pyQcb pyQbn pyQnd at z; unfold pyQZ; omega), by rw [V0 0 (Or.inl rfl)]; exact z0, fun _ => ev, V.s H, ⟨by rw [V0 2 (Or.inr rfl)]; exact Tp.1, fun j j0 j1 => by rw [V.m (V1 _ _ (by omega))]; exact Tp.2 j j0 j1⟩, Sc.keep V (fun k f z => V1 k f (by omega)), X', Y', D', f63, e18'⟩
end
