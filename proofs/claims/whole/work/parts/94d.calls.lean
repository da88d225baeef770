/-! the reference's calls: runs, plays, scripts, deeds undone -/
theorem pyOk4 {n : Int} {α : pzA} {k : Int} {s : List Int} (O : pzOk n α) (k0 : 0 ≤ k) (k4 : k < 4) (e : α.2.1 k = some s) : pxTp s ∧ (pxOrds s 61 0).1 = -1 := O.2.1 k s k0 k4 e
section
variable {h : jw_H} {α : pzA} {n : Int}
/-- the thrown code is noted between two steps -/
theorem pyZ_tr {h1 : jw_H} {R : pzR} {v : Int32} {h' : jw_H} (V : pyV pyQZ h h1) (Z : pyZ h1 R v h') : pyZ h R v h' := ⟨V.trans Z.1, Z.2⟩
theorem pyW_tr {h1 : jw_H} {R : pzR} {o : Option (Int32 × jw_H)} (V : pyV pyQZ h h1) (W : pxW o fun v h' => pyZ h1 R v h') : pxW o fun v h' => pyZ h R v h' := W.mono fun _ _ q => pyZ_tr V q
theorem pxJ_ng {z : Int} (z0 : -1 ≤ z) (z1 : z ≤ 1000) : (pxJ z < (0 : Int32)) = (z = -1) := by
  rw [show (0 : Int32) = pxJ 0 from rfl, pxJ_lt (by omega) (by omega) (by omega) (by omega)]
  exact propext ⟨fun y => by omega, fun y => by omega⟩
theorem n_run (A : pyA h α) (O : pzOk n α) : pxW (f_X12_run h 587) fun v h' => pyZ h (pz_run α) v h' := by
  have H := A.1
  have T := O.1
  unfold f_X12_run
  rw [pyN_rc H, px_bs]
  refine pxW_b2 (n_loadTape H A.2.1 T) fun _ h1 q => ?_
  obtain ⟨V1, G1⟩ := q
  have A1 := A.ld V1
  rw [pyN_rc A1.1, px_bs]
  refine pxW_b2 (n_ordersFault A1.1 G1) fun r h2 q => ?_
  obtain ⟨er, V2⟩ := q
  have A2 := A1.qp V2
  have G2 := G1.p V2
  have or := pxOrds_r (s := α.1) 61 0 (by omega) (by omega)
  have l60 := T.1
  refine pyW_tr ((pyQld.z V1).trans (pyQp.z V2)) ?_
  subst er
  unfold g_X12_run_b17 g_X12_run_b35 pz_run
  by_cases c : (pxOrds α.1 61 0).1 = -1
  · rw [if_pos (show pxJ (pxOrds α.1 61 0).1 < (0 : Int32) from (pxJ_ng (by omega) (by omega)).mpr c), if_pos c, pyThr (w := 0) (t := 0) A2.1 rfl (by omega) (by omega), if_pos (show (0 : Int32) ≤ 0 from Int32.le_refl _)]
    obtain ⟨z1, z2, A3⟩ := A2.n00
    have G3 := G2.keep (P := fun k f => k = 587 ∧ f = 0) (pyV.rfl.set (h := h2) (v := (0 : Int32)) ⟨rfl, rfl⟩) (by omega) (fun f _ => by omega)
    generalize jw_setI h2 587 0 (0 : Int32) = h3 at *
    rw [pyN_rc A3.1, px_bs]
    refine pyW_tr z1 ?_
    refine pxW_b2 (n_runs A3 O G3 c z2) fun w h4 q => ?_
    exact pxW_some.mpr q
  · rw [if_neg (show ¬ (pxJ (pxOrds α.1 61 0).1 < (0 : Int32)) from fun z => c ((pxJ_ng (by omega) (by omega)).mp z)), if_neg c, pyThr (w := 1) (t := 1) A2.1 rfl (by omega) (by omega), if_neg (show ¬ ((1 : Int32) ≤ 0) by decide)]
    exact pxW_some.mpr (pyZ_1 A2)
/-- what is noted of the scripts -/
theorem pyScE {sc : Int → Option (List Int)} {k : Int} (Sc : pySc h sc) (k0 : 0 ≤ k) (k4 : k < 4) : pxM h 591 k.toNat = (sc k).elim 0 (fun _ => 1) := by
  obtain ⟨a, b⟩ := Sc k k0 k4
  cases e : sc k with
  | none => exact a e
  | some s => exact (b s e).1
theorem n_play {k : Int} (A : pyA h α) (O : pzOk n α) (k0 : -2147483648 ≤ k) (k1 : k ≤ 2147483647) : pxW (f_X12_play h 587 (pxJ k)) fun v h' => pyZ h (pz_play k α) v h' := by
  have H := A.1
  unfold f_X12_play pz_play
  rw [n_isFour k0 k1, px_b2]
  by_cases c : 0 ≤ k ∧ k < 4
  · rw [if_pos c, if_neg (show ¬ (pxJ 1 = 0) by decide), if_neg (show ¬ ¬ (0 ≤ k ∧ k < 4) from fun z => z c), pyN_g5 H, px_bs, pyN_a591 H c.1 c.2, px_bs, pyScE A.2.2.1 c.1 c.2]
    unfold g_X12_play_b26
    cases e : α.2.1 k with
    | none =>
      rw [if_pos (show pxJ ((none : Option (List Int)).elim 0 (fun _ => 1)) = 0 from rfl), pyThr (w := 2) (t := 2) A.1 rfl (by omega) (by omega), if_neg (show ¬ ((2 : Int32) ≤ 0) by decide)]
      exact pxW_some.mpr (pyZ_2 A)
    | some s =>
      rw [if_neg (show ¬ (pxJ ((some s).elim 0 (fun _ => 1)) = 0) from (by decide : ¬ (pxJ 1 = 0))), pyThr (w := 0) (t := 0) A.1 rfl (by omega) (by omega), if_pos (show (0 : Int32) ≤ 0 from Int32.le_refl _)]
      obtain ⟨T, ok⟩ := pyOk4 O c.1 c.2 e
      obtain ⟨z1, z2, A1⟩ := A.n00
      generalize jw_setI h 587 0 (0 : Int32) = h1 at *
      refine pyW_tr z1 ?_
      rw [pyN_rc A1.1, px_bs]
      refine pxW_b2 (n_loadScript A1.1 A1.2.2.1 c.1 c.2 e T) fun _ h2 q => ?_
      obtain ⟨V2, G2⟩ := q
      have A2 := A1.ld V2
      refine pyW_tr (pyQld.z V2) ?_
      rw [pyN_rc A2.1, px_bs]
      refine pxW_b2 (n_runs A2 O G2 ok (by rw [V2.m (by unfold pyQld; omega)]; exact z2)) fun w h4 q => ?_
      exact pxW_some.mpr q
  · unfold g_X12_play_b26
    rw [if_neg c, if_pos (show pxJ 0 = 0 from rfl), if_pos c, pyThr (w := 1) (t := 1) A.1 rfl (by omega) (by omega), if_neg (show ¬ ((1 : Int32) ≤ 0) by decide)]
    exact pxW_some.mpr (pyZ_1 A)
theorem n_stream {k : Int} (A : pyA h α) (O : pzOk n α) (k0 : -2147483648 ≤ k) (k1 : k ≤ 2147483647) : pxW (f_X12_stream h 587 (pxJ k)) fun v h' => pyZ h (pz_stream k α) v h' := by
  have H := A.1
  unfold f_X12_stream pz_stream
  rw [n_isFour k0 k1, px_b2]
  by_cases c : 0 ≤ k ∧ k < 4
  · rw [if_pos c, if_neg (show ¬ (pxJ 1 = 0) by decide), if_neg (show ¬ ¬ (0 ≤ k ∧ k < 4) from fun z => z c), pyN_g5 H, px_bs, pyN_a591 H c.1 c.2, px_bs, pyScE A.2.2.1 c.1 c.2]
    unfold g_X12_stream_b26
    cases e : α.2.1 k with
    | none =>
      rw [if_pos (show pxJ ((none : Option (List Int)).elim 0 (fun _ => 1)) = 0 from rfl), pyThr (w := 2) (t := 2) A.1 rfl (by omega) (by omega), if_neg (show ¬ ((2 : Int32) ≤ 0) by decide)]
      exact pxW_some.mpr (pyZ_2 A)
    | some s =>
      rw [if_neg (show ¬ (pxJ ((some s).elim 0 (fun _ => 1)) = 0) from (by decide : ¬ (pxJ 1 = 0))), pyThr (w := 0) (t := 0) A.1 rfl (by omega) (by omega), if_pos (show (0 : Int32) ≤ 0 from Int32.le_refl _)]
      obtain ⟨T, ok⟩ := pyOk4 O c.1 c.2 e
      obtain ⟨z1, z2, A1⟩ := A.n00
      generalize jw_setI h 587 0 (0 : Int32) = h1 at *
      refine pyW_tr z1 ?_
      rw [pyN_rc A1.1, px_bs]
      refine pxW_b2 (n_loadScript A1.1 A1.2.2.1 c.1 c.2 e T) fun _ h2 q => ?_
      obtain ⟨V2, G2⟩ := q
      have A2 := A1.ld V2
      refine pyW_tr (pyQld.z V2) ?_
      rw [pyN_rc A2.1, px_bs]
      refine pxW_b2 (n_plays A2 O G2 ok (by rw [V2.m (by unfold pyQld; omega)]; exact z2)) fun w h4 q => ?_
      exact pxW_some.mpr q
  · unfold g_X12_stream_b26
    rw [if_neg c, if_pos (show pxJ 0 = 0 from rfl), if_pos c, pyThr (w := 1) (t := 1) A.1 rfl (by omega) (by omega), if_neg (show ¬ ((1 : Int32) ≤ 0) by decide)]
    exact pxW_some.mpr (pyZ_1 A)
theorem n_scriptLength {k : Int} (A : pyA h α) (k0 : -2147483648 ≤ k) (k1 : k ≤ 2147483647) : pxW (f_X12_scriptLength h 587 (pxJ k)) fun v h' => pyZ h (pz_scl k α) v h' := by
  have H := A.1
  unfold f_X12_scriptLength pz_scl g_X12_scriptLength_b13 g_X12_scriptLength_b46
  rw [n_isFour k0 k1, px_b2]
  by_cases c : 0 ≤ k ∧ k < 4
  · rw [if_pos c, if_neg (show ¬ (pxJ 1 = 0) by decide), if_neg (show ¬ ¬ (0 ≤ k ∧ k < 4) from fun z => z c), pyThr (w := 0) (t := 0) A.1 rfl (by omega) (by omega), if_pos (show (0 : Int32) ≤ 0 from Int32.le_refl _)]
    have A0 := A
    obtain ⟨z1, z2, A1⟩ := A.n00
    generalize jw_setI h 587 0 (0 : Int32) = h1 at *
    have H1 := A1.1
    rw [pyN_g5 H1, px_bs, pyN_a591 H1 c.1 c.2, px_bs, pyScE A1.2.2.1 c.1 c.2]
    cases e : α.2.1 k with
    | none =>
      rw [if_pos (show pxJ ((none : Option (List Int)).elim 0 (fun _ => 1)) = 0 from rfl)]
      exact pxW_some.mpr ⟨z1, z2, fun _ => rfl, A1⟩
    | some s =>
      rw [if_neg (show ¬ (pxJ ((some s).elim 0 (fun _ => 1)) = 0) from (by decide : ¬ (pxJ 1 = 0))), pyN_g4 H1, px_bs, pyN_a590 H1 c.1 c.2, px_bs, ((A1.2.2.1 k c.1 c.2).2 s e).2.1]
      exact pxW_some.mpr ⟨z1, z2, fun _ => rfl, A1⟩
  · rw [if_neg c, if_pos (show pxJ 0 = 0 from rfl), if_pos c, pyThr (w := 1) (t := 1) A.1 rfl (by omega) (by omega), if_neg (show ¬ ((1 : Int32) ≤ 0) by decide)]
    exact pxW_some.mpr (pyZ_1 A)
theorem n_scriptAt {k j : Int} (A : pyA h α) (O : pzOk n α) (k0 : -2147483648 ≤ k) (k1 : k ≤ 2147483647) (j0 : -2147483648 ≤ j) (j1 : j ≤ 2147483647) : pxW (f_X12_scriptAt h 587 (pxJ k) (pxJ j)) fun v h' => pyZ h (pz_sca k j α) v h' := by
  have H := A.1
  have no : pz_sca k j α = (1, 0, α) → pxW (g_X12_scriptAt_b34 h 587 (pxJ k) (pxJ j)) fun v h' => pyZ h (pz_sca k j α) v h' := by
    intro e
    unfold g_X12_scriptAt_b34 g_X12_scriptAt_b35 g_X12_scriptAt_b46 g_X12_scriptAt_b68
    rw [if_pos rfl, pyN_pI H, px_bs, if_pos rfl, e]
    exact pxW_some.mpr (pyZ_1 A)
  unfold f_X12_scriptAt
  rw [n_isFour k0 k1, px_b2]
  by_cases c : 0 ≤ k ∧ k < 4
  · rw [if_pos c, if_neg (show ¬ (pxJ 1 = 0) by decide), pyN_g5 H, px_bs, pyN_a591 H c.1 c.2, px_bs, pyScE A.2.2.1 c.1 c.2]
    cases e : α.2.1 k with
    | none =>
      rw [if_pos (show pxJ ((none : Option (List Int)).elim 0 (fun _ => 1)) = 0 from rfl)]
      refine no ?_
      unfold pz_sca
      rw [if_neg (show ¬ ¬ (0 ≤ k ∧ k < 4) from fun z => z c), e]
      rfl
    | some s =>
      obtain ⟨T, ok⟩ := pyOk4 O c.1 c.2 e
      have l60 := T.1
      obtain ⟨s1, s2, s3⟩ := (A.2.2.1 k c.1 c.2).2 s e
      have ez : pz_sca k j α = if 0 ≤ j ∧ j < (s.length : Int) then (0, pxE s j, α) else (1, 0, α) := by
        unfold pz_sca
        rw [if_neg (show ¬ ¬ (0 ≤ k ∧ k < 4) from fun z => z c), e]
        rfl
      rw [if_neg (show ¬ (pxJ ((some s).elim 0 (fun _ => 1)) = 0) from (by decide : ¬ (pxJ 1 = 0)))]
      by_cases a : j < 0
      · rw [if_pos (show pxJ j < 0 from (pxJ_lt (a := j) (b := 0) j0 j1 (by omega) (by omega)).mpr a)]
        exact no (by rw [ez, if_neg (by omega)])
      rw [if_neg (show ¬ (pxJ j < 0) from fun z => a ((pxJ_lt (a := j) (b := 0) j0 j1 (by omega) (by omega)).mp z)), pyN_g4 H, px_bs, pyN_a590 H c.1 c.2, px_bs, s2]
      by_cases b : (s.length : Int) ≤ j
      · rw [if_pos (show pxJ (s.length : Int) ≤ pxJ j from (pxJ_le (by omega) (by omega) j0 j1).mpr b)]
        exact no (by rw [ez, if_neg (by omega)])
      rw [if_neg (show ¬ (pxJ (s.length : Int) ≤ pxJ j) from fun z => b ((pxJ_le (by omega) (by omega) j0 j1).mp z)), ez, if_pos (show 0 ≤ j ∧ j < (s.length : Int) from ⟨by omega, by omega⟩)]
      unfold g_X12_scriptAt_b35 g_X12_scriptAt_b46 g_X12_scriptAt_b68
      obtain ⟨z1, z2, A1⟩ := A.n00
      rw [if_neg (show ¬ ((1 : Int32) = 0) by decide), pyN_pI H, px_bs, if_neg (show ¬ ((1 : Int32) = 0) by decide)]
      generalize jw_setI h 587 0 (0 : Int32) = h1 at *
      have H1 := A1.1
      rw [pyN_g3 H1, px_bs, show ((60 : Int32) * pxJ k) + pxJ j = pxJ (60 * k + j) by rw [show (60 : Int32) = pxJ 60 from rfl, pxJ_mul, pxJ_add], pyN_a589 H1 (by omega) (by omega), px_bs, ((A1.2.2.1 k c.1 c.2).2 s e).2.2 j (by omega) (by omega)]
      exact pxW_some.mpr ⟨z1, z2, fun _ => rfl, A1⟩
  · rw [if_neg c, if_pos (show pxJ 0 = 0 from rfl)]
    refine no ?_
    unfold pz_sca
    rw [if_pos c]
/-- the script k is laid -/
def pyQkp (x : Int) : Nat → Nat → Prop := fun k f => (k = 589 ∧ 60 * x ≤ f ∧ (f : Int) < 60 * x + 60) ∨ ((k = 590 ∨ k = 591) ∧ (f : Int) = x)
theorem n_keep_b42 {h0 : jw_H} {x : Int} (A : pyA h0 α) (O : pzOk n α) (z0 : pxM h0 587 0 = 0) (x0 : 0 ≤ x) (x4 : x < 4) : ∀ (m N : Nat) (h : jw_H) (j : Int), j + m = α.1.length → 0 ≤ j → m < N → pyV (pyQkp x) h0 h → (∀ y : Int, 0 ≤ y → y < j → pxM h 589 (60 * x + y).toNat = pxE α.1 y) →
    pxW (f_X12_keep_b42 N h 587 (pxJ x) (pxJ j)) fun v h' => pyZ h0 (0, (α.1.length : Int), (α.1, (fun j => if j = x then some α.1 else α.2.1 j), α.2.2)) v h' := by
  have T := O.1
  have l60 := T.1
  have H0 := A.1
  intro m
  induction m with
  | zero =>
    intro N h j hj j0 hN V e
    obtain ⟨N, rfl, -⟩ := px_fu hN
    have H := V.s H0
    rw [u_X12_keep_b42]
    unfold g_X12_keep_b42
    have e2 : pxM h 587 2 = α.1.length := by rw [V.m (by unfold pyQkp; omega)]; exact A.2.1.1
    have Ha : pyS (jw_setI h 590 x.toNat (pxJ (α.1.length : Int))) := H
    have Hb : pyS (jw_setI (jw_setI h 590 x.toNat (pxJ (α.1.length : Int))) 591 x.toNat (pxJ 1)) := H
    have V2 : pyV (pyQkp x) h0 (jw_setI (jw_setI h 590 x.toNat (pxJ (α.1.length : Int))) 591 x.toNat (pxJ 1)) := (V.set (by unfold pyQkp; omega)).set (by unfold pyQkp; omega)
    rw [pyN_gI H, px_bs, e2, if_pos (show pxJ (α.1.length : Int) ≤ pxJ j by rw [show j = α.1.length by omega]; exact Int32.le_refl _), pyN_g4 H, px_bs, px_bs, pyN_s590 H x0 x4, px_bs, pyN_g5 Ha, px_bs, pyNb1, pyN_s591 Ha x0 x4, px_bs, pyN_gI Hb, px_bs, V2.m (by unfold pyQkp; omega), A.2.1.1]
    have Sc := A.2.2.1
    refine pxW_some.mpr ⟨V2.mono (fun k f z => by unfold pyQkp at z; unfold pyQZ; omega), by rw [V2.m (by unfold pyQkp; omega)]; exact z0, fun _ => rfl, Hb, A.2.1.keep V2 (by unfold pyQkp; omega) (fun f => by unfold pyQkp; omega), fun k k0 k4 => ?_, A.2.2.2.1.keep V2 (fun k f z => by unfold pyQkp; omega), A.2.2.2.2.1.keep V2 (fun k f z => by unfold pyQkp; omega), A.2.2.2.2.2.1.keep V2 (fun k f z => by unfold pyQnd at z; unfold pyQkp; omega), by rw [V2.m (by unfold pyQkp; omega)]; exact A.2.2.2.2.2.2.1, by rw [V2.m (by unfold pyQkp; omega)]; exact A.2.2.2.2.2.2.2⟩
    by_cases c : k = x
    · subst c
      refine ⟨fun z => ?_, fun s z => ?_⟩
      · have z' : (if k = k then some α.1 else α.2.1 k) = none := z
        rw [if_pos rfl] at z'
        cases z'
      · have z' : (if k = k then some α.1 else α.2.1 k) = some s := z
        rw [if_pos rfl] at z'
        injection z' with z'
        subst z'
        refine ⟨pxM_eq (by omega) (by omega), ?_, fun y y0 y1 => ?_⟩
        · rw [pxM_ne (by omega), pxM_eq (by omega) (by omega)]
        · rw [pxM_ne (by omega), pxM_ne (by omega)]
          exact e y y0 (by omega)
    · obtain ⟨p, q⟩ := Sc k k0 k4
      refine ⟨fun z => ?_, fun s z => ?_⟩
      · have z' : (if k = x then some α.1 else α.2.1 k) = none := z
        rw [if_neg c] at z'
        rw [V2.m (by unfold pyQkp; omega)]
        exact p z'
      · have z' : (if k = x then some α.1 else α.2.1 k) = some s := z
        rw [if_neg c] at z'
        obtain ⟨q1, q2, q3⟩ := q s z'
        have s60 := (pyOk4 O k0 k4 z').1.1
        refine ⟨by rw [V2.m (by unfold pyQkp; omega)]; exact q1, by rw [V2.m (by unfold pyQkp; omega)]; exact q2, fun y y0 y1 => ?_⟩
        rw [V2.m (by unfold pyQkp; omega)]
        exact q3 y y0 y1
  | succ m ih =>
    intro N h j hj j0 hN V e
    obtain ⟨N, rfl, hN⟩ := px_fu hN
    have H := V.s H0
    have te := pxTp_e T (j := j) j0 (by omega)
    have V1 : pyV (pyQkp x) h0 (jw_setI h 589 (60 * x + j).toNat (pxJ (pxE α.1 j))) := V.set (by unfold pyQkp; omega)
    have e2 : pxM h 587 2 = α.1.length := by rw [V.m (by unfold pyQkp; omega)]; exact A.2.1.1
    have e8 : pxM h 588 j.toNat = pxE α.1 j := by rw [V.m (by unfold pyQkp; omega)]; exact A.2.1.2 j j0 (by omega)
    rw [u_X12_keep_b42]
    unfold g_X12_keep_b42
    rw [pyN_gI H, px_bs, e2, if_neg (show ¬ (pxJ (α.1.length : Int) ≤ pxJ j) from fun z => by
      have := (pxJ_le (a := (α.1.length : Int)) (b := j) (by omega) (by omega) (by omega) (by omega)).mp z
      omega), pyN_g3 H, px_bs, pyN_g1 H, px_bs, pyN_a588 H j0 (by omega), px_bs, e8, show ((60 : Int32) * pxJ x) + pxJ j = pxJ (60 * x + j) by rw [show (60 : Int32) = pxJ 60 from rfl, pxJ_mul, pxJ_add], pyN_s589 H (by omega) (by omega), px_bs, show pxJ j + (1 : Int32) = pxJ (j + 1) from pxJ_add j 1]
    exact ih N _ (j + 1) (by omega) (by omega) (by omega) V1 (fun y y0 y1 => by
      by_cases c : y = j
      · subst c; rw [pxM_eq (by omega) (by omega)]
      · rw [pxM_ne (by omega)]; exact e y y0 (by omega))
theorem n_keep {k : Int} (A : pyA h α) (O : pzOk n α) (k0 : -2147483648 ≤ k) (k1 : k ≤ 2147483647) : pxW (f_X12_keep h 587 (pxJ k)) fun v h' => pyZ h (pz_keep k α) v h' := by
  have H := A.1
  have T := O.1
  have l60 := T.1
  unfold f_X12_keep pz_keep
  rw [pyN_rc H, px_bs]
  refine pxW_b2 (n_loadTape H A.2.1 T) fun _ h1 q => ?_
  obtain ⟨V1, G1⟩ := q
  have A1 := A.ld V1
  refine pyW_tr (pyQld.z V1) ?_
  rw [n_isFour k0 k1, px_b2]
  by_cases c : 0 ≤ k ∧ k < 4
  · rw [if_pos c, if_neg (show ¬ (pxJ 1 = 0) by decide), if_neg (show ¬ ¬ (0 ≤ k ∧ k < 4) from fun z => z c), pyN_rc A1.1, px_bs]
    refine pxW_b2 (n_ordersFault A1.1 G1) fun r h2 q => ?_
    obtain ⟨er, V2⟩ := q
    have A2 := A1.qp V2
    have or := pxOrds_r (s := α.1) 61 0 (by omega) (by omega)
    refine pyW_tr (pyQp.z V2) ?_
    subst er
    unfold g_X12_keep_b28
    by_cases d : (pxOrds α.1 61 0).1 = -1
    · rw [if_pos (show pxJ (pxOrds α.1 61 0).1 < (0 : Int32) from (pxJ_ng (by omega) (by omega)).mpr d), if_pos d, pyThr (w := 0) (t := 0) A2.1 rfl (by omega) (by omega), if_pos (show (0 : Int32) ≤ 0 from Int32.le_refl _)]
      obtain ⟨z1, z2, A3⟩ := A2.n00
      generalize jw_setI h2 587 0 (0 : Int32) = h3 at *
      refine pyW_tr z1 ?_
      exact n_keep_b42 (h0 := h3) A3 O z2 c.1 c.2 α.1.length jw_FU h3 0 (by omega) (by omega) (by unfold jw_FU; omega) pyV.rfl (fun y y0 y1 => by omega)
    · rw [if_neg (show ¬ (pxJ (pxOrds α.1 61 0).1 < (0 : Int32)) from fun z => d ((pxJ_ng (by omega) (by omega)).mp z)), if_neg d, pyThr (w := 2) (t := 2) A2.1 rfl (by omega) (by omega), if_neg (show ¬ ((2 : Int32) ≤ 0) by decide)]
      exact pxW_some.mpr (pyZ_2 A2)
  · unfold g_X12_keep_b28
    rw [if_neg c, if_pos (show pxJ 0 = 0 from rfl), if_pos c, pyThr (w := 1) (t := 1) A1.1 rfl (by omega) (by omega), if_neg (show ¬ ((1 : Int32) ≤ 0) by decide)]
    exact pxW_some.mpr (pyZ_1 A1)
/-- the latest deed, undone -/
theorem n_un {D : List (Int × pxSn)} {d : Int × pxSn} (A : pyA h α) (z0 : pxM h 587 0 = 0) (e : α.2.2.2.2.1 = D ++ [d]) : pxW (f_X12_undoLatest h 587) fun _ h' => pyV pyQZ h h' ∧ pxM h' 587 0 = 0 ∧ pyA h' (pzUn α) := by
  obtain ⟨H, Tp, Sc, X, Y, ⟨B, R⟩, e63, e18⟩ := A
  rw [e] at R
  have eu : pzUn α = (α.1, α.2.1, (d.2.1, d.2.2.1, d.2.2.2, α.2.2.1.2.2.2), α.2.2.2.1, D, α.2.2.2.2.2) := by
    unfold pzUn
    rw [e, List.getLast?_concat, List.dropLast_concat]
    rfl
  rw [eu]
  refine pxW.mono (n_undoLatest H R) fun _ h' q => ?_
  obtain ⟨V, R', L', K', e16⟩ := q
  refine ⟨V.mono (fun k f z => by unfold pyQul at z; unfold pyQZ; omega), by rw [V.m (by unfold pyQul; omega)]; exact z0, V.s H, Tp.keep V (by unfold pyQul; omega) (fun f => by unfold pyQul; omega), Sc.keep V (fun k f z => by unfold pyQul; omega), ⟨L', K', e16, ?_⟩, Y.keep V (fun k f z => by unfold pyQul; omega), ⟨B, R'⟩, ?_, ?_⟩
  · show pxM h' 587 17 = α.2.2.1.2.2.2
    rw [V.m (by unfold pyQul; omega)]
    exact X.2.2.2
  · rw [V.m (by unfold pyQul; omega)]
    exact e63
  · rw [V.m (by unfold pyQul; omega)]
    exact e18
theorem pyD_len (A : pyA h α) : pxM h 587 62 = α.2.2.2.2.1.length := by
  obtain ⟨B, -, -, -, e62, -⟩ := A.2.2.2.2.2.1
  exact e62
theorem pyD_end : ∀ {D : List (Int × pxSn)}, D ≠ [] → ∃ D' d, D = D' ++ [d]
  | [], ne => absurd rfl ne
  | [a], _ => ⟨[], a, rfl⟩
  | a :: b :: q, _ => by
    obtain ⟨D', d, e⟩ := pyD_end (D := b :: q) (by simp)
    exact ⟨a :: D', d, by rw [e]; rfl⟩
theorem n_undo (A : pyA h α) : pxW (f_X12_undo h 587) fun v h' => pyZ h (pz_undo α) v h' := by
  have H := A.1
  have e62 := pyD_len A
  have d40 : α.2.2.2.2.1.length ≤ 40 := by
    obtain ⟨B, -, -, -, -, d40, -⟩ := A.2.2.2.2.2.1
    exact d40
  unfold f_X12_undo g_X12_undo_b13 pz_undo
  rw [pyN_gI H, px_bs, e62]
  by_cases c : α.2.2.2.2.1 = []
  · rw [if_pos (show pxJ (α.2.2.2.2.1.length : Int) = 0 by rw [c]; rfl), if_pos c, pyThr (w := 1) (t := 1) H rfl (by omega) (by omega), if_neg (show ¬ ((1 : Int32) ≤ 0) by decide)]
    exact pxW_some.mpr (pyZ_1 A)
  · obtain ⟨D, d, e⟩ := pyD_end c
    have l1 : (α.2.2.2.2.1.length : Int) = D.length + 1 := by rw [e, List.length_append, List.length_singleton]; omega
    rw [if_neg (show ¬ (pxJ (α.2.2.2.2.1.length : Int) = 0) from fun z => by
      have := (pxJ_eq (a := (α.2.2.2.2.1.length : Int)) (b := 0) (by omega) (by omega) (by omega) (by omega)).mp z
      omega), if_neg c, pyThr (w := 0) (t := 0) H rfl (by omega) (by omega), if_pos (show (0 : Int32) ≤ 0 from Int32.le_refl _)]
    obtain ⟨z1, z2, A1⟩ := A.n00
    generalize jw_setI h 587 0 (0 : Int32) = h1 at *
    refine pyW_tr z1 ?_
    rw [pyN_rc A1.1, px_bs]
    refine pxW_b2 (n_un A1 z2 e) fun _ h2 q => ?_
    obtain ⟨V2, f0, A2⟩ := q
    have e2 : (pzUn α).2.2.2.2.1.length = D.length := by
      unfold pzUn
      rw [e, List.getLast?_concat, List.dropLast_concat]
      rfl
    rw [pyN_gI A2.1, px_bs, pyD_len A2, e2]
    exact pxW_some.mpr ⟨V2, f0, fun _ => by rw [l1, show (D.length : Int) + 1 - 1 = D.length by omega], A2⟩
/-- the call of the latest deed -/
theorem n_latest {D : List (Int × pxSn)} {d : Int × pxSn} {γ : Type} {f : Int32 → Option γ} (A : pyA h α) (e : α.2.2.2.2.1 = D ++ [d]) : (jw_b2 (f_X12_latestDeed h 587) fun w h' => (jw_ai h' 20 (some 613) w).bind f) = f (pxJ d.1) := by
  obtain ⟨H, Tp, Sc, X, Y, ⟨B, R⟩, e63, e18⟩ := A
  rw [e] at R
  obtain ⟨B0, B1, e61, e62, d40, R⟩ := R
  rw [List.length_append, List.length_singleton] at e62 d40
  have Zd := R D.length d (by rw [List.getElem?_append_right (Nat.le_refl _), Nat.sub_self]; rfl)
  have nl := n_latestDeed (n := D.length + 1) H e61 (by rw [e62]; omega) B0 B1 (by omega) (by omega)
  rw [show B + ((D.length : Int) + 1) - 1 = B + D.length by omega] at nl
  rw [nl, px_b2, pyN_a613 H (by omega) (by omega), px_bs, Zd.2.2.2.2.1]
theorem n_undoRun_b37 {call : Int} (c0 : -2147483648 ≤ call) (c1 : call ≤ 2147483647) : ∀ (m N : Nat) (h : jw_H) (u : Int) (α : pzA), α.2.2.2.2.1.length ≤ m → m < N → pyA h α → pxM h 587 0 = 0 → (∀ d ∈ α.2.2.2.2.1, -2147483648 ≤ d.1 ∧ d.1 ≤ 2147483647) →
    pxW (f_X12_undoRun_b37 N h 587 (pxJ call) (pxJ u)) fun v h' => pyZ h (0, (pzUr call m u α).1, (pzUr call m u α).2) v h' := by
  intro m
  induction m with
  | zero =>
    intro N h u α hl hN A z0 cs
    obtain ⟨N, rfl, hN⟩ := px_fu hN
    have H := A.1
    rw [u_X12_undoRun_b37]
    unfold g_X12_undoRun_b37
    rw [pyN_gI H, px_bs, pyD_len A, if_pos (show pxJ (α.2.2.2.2.1.length : Int) ≤ 0 by rw [show α.2.2.2.2.1.length = 0 by omega]; decide)]
    exact pxW_some.mpr ⟨pyV.rfl, z0, fun _ => rfl, A⟩
  | succ m ih =>
    intro N h u α hl hN A z0 cs
    obtain ⟨N, rfl, hN⟩ := px_fu hN
    have H := A.1
    have d40 : α.2.2.2.2.1.length ≤ 40 := by
      obtain ⟨B, -, -, -, -, d40, -⟩ := A.2.2.2.2.2.1
      exact d40
    have eU : pzUr call (m + 1) u α = (α.2.2.2.2.1.getLast?).elim (u, α) (fun x => if x.1 = call then pzUr call m (u + 1) (pzUn α) else (u, α)) := rfl
    rw [eU, u_X12_undoRun_b37]
    unfold g_X12_undoRun_b37
    rw [pyN_gI H, px_bs, pyD_len A]
    by_cases c : α.2.2.2.2.1 = []
    · rw [if_pos (show pxJ (α.2.2.2.2.1.length : Int) ≤ 0 by rw [c]; decide), c]
      exact pxW_some.mpr ⟨pyV.rfl, z0, fun _ => rfl, A⟩
    · obtain ⟨D, d, e⟩ := pyD_end c
      have l1 : α.2.2.2.2.1.length = D.length + 1 := by rw [e, List.length_append, List.length_singleton]
      rw [if_neg (show ¬ (pxJ (α.2.2.2.2.1.length : Int) ≤ 0) from pyLe0 (z := (α.2.2.2.2.1.length : Int)) (by omega) (by omega) (by omega)), pyN_g60 H, px_bs, pyN_rc H, px_bs]
      have cd := cs d (by rw [e]; exact List.mem_append_right _ (List.mem_singleton_self d))
      have nl := n_latest (γ := Int32 × jw_H) (f := fun v7 => if v7 = pxJ call then ((jw_rc h 12 (some 587)).bind fun a9 =>
 jw_b2 (f_X12_undoLatest h a9) fun w11 h10 =>
 f_X12_undoRun_b37 N h10 587 (pxJ call) (pxJ u + (1 : Int32)))
 else (some (pxJ u, h))) A e
      obtain ⟨w, ew⟩ : ∃ w, f_X12_latestDeed h 587 = some (w, h) := by
        obtain ⟨-, -, -, -, -, ⟨B, B0, B1, e61, e62, -, -⟩, -⟩ := A
        exact ⟨_, n_latestDeed (n := α.2.2.2.2.1.length) H e61 e62 B0 B1 (by omega) (by omega)⟩
      rw [ew, px_b2] at nl ⊢
      rw [nl, e, List.getLast?_concat]
      show pxW (if pxJ d.1 = pxJ call then _ else _) fun v h' => pyZ h (0, (if d.1 = call then pzUr call m (u + 1) (pzUn α) else (u, α)).1, (if d.1 = call then pzUr call m (u + 1) (pzUn α) else (u, α)).2) v h'
      by_cases k : d.1 = call
      · rw [if_pos (show pxJ d.1 = pxJ call by rw [k]), if_pos k, pyN_rc H, px_bs]
        refine pxW_b2 (n_un A z0 e) fun _ h2 q => ?_
        obtain ⟨V2, f0, A2⟩ := q
        have eD : (pzUn α).2.2.2.2.1 = D := by
          unfold pzUn
          rw [e, List.getLast?_concat, List.dropLast_concat]
          rfl
        rw [show pxJ u + (1 : Int32) = pxJ (u + 1) from pxJ_add u 1]
        exact pyW_tr V2 (ih N h2 (u + 1) (pzUn α) (by rw [eD]; omega) (by omega) A2 f0 (fun x hx => cs x (by rw [e]; rw [eD] at hx; exact List.mem_append_left _ hx)))
      · rw [if_neg (show ¬ (pxJ d.1 = pxJ call) from fun z => k ((pxJ_eq (a := d.1) (b := call) (by omega) (by omega) (by omega) (by omega)).mp z)), if_neg k]
        exact pxW_some.mpr ⟨pyV.rfl, z0, fun _ => rfl, A⟩
theorem n_undoRun (A : pyA h α) (cs : ∀ d ∈ α.2.2.2.2.1, -2147483648 ≤ d.1 ∧ d.1 ≤ 2147483647) : pxW (f_X12_undoRun h 587) fun v h' => pyZ h (pz_undoRun α) v h' := by
  have H := A.1
  have e62 := pyD_len A
  have d40 : α.2.2.2.2.1.length ≤ 40 := by
    obtain ⟨B, -, -, -, -, d40, -⟩ := A.2.2.2.2.2.1
    exact d40
  unfold f_X12_undoRun g_X12_undoRun_b13 pz_undoRun
  rw [pyN_gI H, px_bs, e62]
  by_cases c : α.2.2.2.2.1 = []
  · rw [if_pos (show pxJ (α.2.2.2.2.1.length : Int) = 0 by rw [c]; rfl), c, pyThr (w := 1) (t := 1) H rfl (by omega) (by omega), if_neg (show ¬ ((1 : Int32) ≤ 0) by decide)]
    exact pxW_some.mpr (pyZ_1 A)
  · obtain ⟨D, d, e⟩ := pyD_end c
    have l1 : (α.2.2.2.2.1.length : Int) = D.length + 1 := by rw [e, List.length_append, List.length_singleton]; omega
    have cd := cs d (by rw [e]; exact List.mem_append_right _ (List.mem_singleton_self d))
    rw [if_neg (show ¬ (pxJ (α.2.2.2.2.1.length : Int) = 0) from fun z => by
      have := (pxJ_eq (a := (α.2.2.2.2.1.length : Int)) (b := 0) (by omega) (by omega) (by omega) (by omega)).mp z
      omega), pyThr (w := 0) (t := 0) H rfl (by omega) (by omega), if_pos (show (0 : Int32) ≤ 0 from Int32.le_refl _)]
    obtain ⟨z1, z2, A1⟩ := A.n00
    generalize jw_setI h 587 0 (0 : Int32) = h1 at *
    refine pyW_tr z1 ?_
    have nl := n_latest (γ := Int32 × jw_H) (f := fun v8 => f_X12_undoRun_b37 jw_FU h1 587 v8 (0 : Int32)) A1 e
    obtain ⟨w, ew⟩ : ∃ w, f_X12_latestDeed h1 587 = some (w, h1) := by
      obtain ⟨-, -, -, -, -, ⟨B, B0, B1, e61, e62, -, -⟩, -⟩ := id A1
      exact ⟨_, n_latestDeed (n := α.2.2.2.2.1.length) A1.1 e61 e62 B0 B1 (by omega) (by omega)⟩
    rw [pyN_g60 A1.1, px_bs, pyN_rc A1.1, px_bs]
    rw [ew, px_b2] at nl ⊢
    rw [nl]
    have B := n_undoRun_b37 (call := d.1) (by omega) (by omega) α.2.2.2.2.1.length jw_FU h1 0 α (Nat.le_refl _) (by unfold jw_FU; omega) A1 z2 cs
    rw [show α.2.2.2.2.1.getLast? = some d by rw [e, List.getLast?_concat]]
    exact B
end
