/-! typing a tape -/
/-- so many calls further -/
def qzG (m : Nat) (h h' : jw_H) : Prop := jw_n h ≤ jw_n h' ∧ jw_c h' ≤ jw_c h + m ∧ jw_s h' ≤ jw_s h + 9 * m
theorem qzG.rfl {h : jw_H} : qzG 0 h h := ⟨Nat.le_refl _, Nat.le_refl _, Nat.le_refl _⟩
theorem qzG.tr {a b c : Nat} {h h1 h2 : jw_H} (x : qzG a h h1) (y : qzG b h1 h2) (e : a + b ≤ c) : qzG c h h2 := by
  obtain ⟨x1, x2, x3⟩ := x
  obtain ⟨y1, y2, y3⟩ := y
  exact ⟨by omega, by omega, by omega⟩
theorem qzG.up {a b : Nat} {h h1 : jw_H} (x : qzG a h h1) (e : a ≤ b) : qzG b h h1 := x.tr qzG.rfl e
theorem pwF.g1 {h h' : jw_H} (F : pwF h h') : qzG 1 h h' := ⟨F.1, F.2.1, F.2.2.1⟩
theorem pwY.l {E1 E2 : String} {h : jw_H} {R : pzR} {v : Int32 ⊕ String} {h' : jw_H} (Y : pwY E1 E2 h R v h') (c : R.1 = 0) : v = .inl (pxJ R.2.1) ∧ qzG 1 h h' ∧ pwA h' R.2.2 := ⟨Y.2.1 c, Y.1.g1, Y.2.2.2.2⟩
theorem pwZ.l {h : jw_H} {R : pzR} {v : Int32} {h' : jw_H} (Z : pwZ h R v h') : v = pxJ R.2.1 ∧ qzG 1 h h' ∧ pwA h' R.2.2 := ⟨Z.2.2.1, Z.1.g1, Z.2.2.2⟩
/-- the signs that a number tells -/
def qzSgn (v : Int64) (w : List Int) : Bool := (List.range w.length).all (fun k => decide (((v >>> (((7 : Int32) * pxJ (k : Int)).toInt64 &&& 63)) &&& (127 : Int64)).toInt32 = pxJ (w.getD k 0)) && decide (32 ≤ w.getD k 0 ∧ w.getD k 0 ≤ 126))
theorem qz_sgn {v : Int64} {w : List Int} (h : qzSgn v w = true) {k : Nat} (hk : k < w.length) : ((v >>> (((7 : Int32) * pxJ (k : Int)).toInt64 &&& 63)) &&& (127 : Int64)).toInt32 = pxJ (w.getD k 0) ∧ 32 ≤ w.getD k 0 ∧ w.getD k 0 ≤ 126 := by
  have := List.all_eq_true.mp h k (List.mem_range.mpr hk)
  rw [Bool.and_eq_true] at this
  exact ⟨of_decide_eq_true this.1, of_decide_eq_true this.2⟩
section
variable {h : jw_H} {α : pzA}
theorem l_type {c : Int} (A : pwA h α) (T : pxTp α.1) (l : α.1.length + 1 ≤ 60) (c0 : 32 ≤ c) (c1 : c ≤ 126) : pxW (f_X11_type h 0 (pxJ c)) fun v h' => v = .inl (pxJ ((α.1.length : Int) + 1)) ∧ qzG 1 h h' ∧ pwA h' (α.1 ++ [c], α.2) ∧ pxTp (α.1 ++ [c]) := by
  refine pxW.mono (c_type A T (by omega) (by omega)) fun v h' Y => ?_
  have e : pz_type c α = (0, (α.1.length : Int) + 1, (α.1 ++ [c], α.2)) := by
    unfold pz_type
    rw [if_neg (by omega), if_neg (by omega)]
  rw [e] at Y
  obtain ⟨y1, y2, y3⟩ := Y.l rfl
  exact ⟨y1, y2, y3, pxTp_app T (by omega) c0 c1⟩
theorem l_typed6 {v : Int64} {w : List Int} (hw : qzSgn v w = true) (w60 : w.length ≤ 60) : ∀ (m N k : Nat) (h : jw_H) (α : pzA), k + m = w.length → m < N → pwA h α → pxTp α.1 → α.1.length + m ≤ 60 →
    pxW (f_L_typed_b6 N h (some 0) v (pxJ (w.length : Int)) (1 : Int32) (pxJ (k : Int))) fun r h' => r = 1 ∧ qzG m h h' ∧ pwA h' (α.1 ++ w.drop k, α.2) ∧ pxTp (α.1 ++ w.drop k) := by
  intro m
  induction m with
  | zero =>
    intro N k h α hk hN A T l
    obtain ⟨N, rfl, -⟩ := px_fu hN
    rw [u_L_typed_b6]
    unfold g_L_typed_b6
    rw [if_pos (show pxJ (w.length : Int) ≤ pxJ (k : Int) by rw [show k = w.length by omega]; exact Int32.le_refl _), show jw_rb (1 : Int32) = some () from px_rb1, px_bs, List.drop_of_length_le (by omega), List.append_nil]
    exact pxW_some.mpr ⟨rfl, qzG.rfl, A, T⟩
  | succ m ih =>
    intro N k h α hk hN A T l
    obtain ⟨N, rfl, hN⟩ := px_fu hN
    have kl : k < w.length := by omega
    obtain ⟨s1, s2, s3⟩ := qz_sgn hw kl
    ·
      rw [u_L_typed_b6]
      unfold g_L_typed_b6
      rw [if_neg (show ¬ (pxJ (w.length : Int) ≤ pxJ (k : Int)) from fun z => by
        have := (pxJ_le (a := (w.length : Int)) (b := (k : Int)) (by omega) (by omega) (by omega) (by omega)).mp z
        omega), if_neg (show ¬ ((1 : Int32) = 0) by decide), A.rc, px_bs, s1]
      refine pxW_b2 (l_type A T (by omega) s2 s3) fun ww h5 q => ?_
      obtain ⟨q1, q2, q3, q4⟩ := q
      subst q1
      rw [px_iw, if_neg (show ¬ (pxJ ((α.1.length : Int) + 1) ≤ 0) from fun z => by
        have := (pxJ_le (a := (α.1.length : Int) + 1) (b := 0) (by omega) (by omega) (by omega) (by omega)).mp z
        omega)]
      unfold g_L_typed_b41
      rw [show pxJ (k : Int) + (1 : Int32) = pxJ ((k + 1 : Nat) : Int) from pxJ_add _ 1]
      refine pxW.mono (ih N (k + 1) h5 (α.1 ++ [w.getD k 0], α.2) (by omega) (by omega) q3 q4 (by rw [List.length_append, List.length_singleton]; omega)) fun r h' z => ?_
      obtain ⟨z1, z2, z3, z4⟩ := z
      have ed : α.1 ++ w.drop k = α.1 ++ [w.getD k 0] ++ w.drop (k + 1) := by
        rw [List.append_assoc, List.drop_eq_getElem_cons kl, List.getD_eq_getElem?_getD, List.getElem?_eq_getElem kl]
        rfl
      rw [ed]
      exact ⟨z1, q2.tr z2 (by omega), z3, z4⟩
theorem l_typed {v : Int64} {w : List Int} {n : Int32} (hw : qzSgn v w = true) (hn : n = pxJ (w.length : Int)) (A : pwA h α) (T : pxTp α.1) (l : α.1.length + w.length ≤ 60) : pxW (f_L_typed h (some 0) v n) fun r h' => r = 1 ∧ qzG w.length h h' ∧ pwA h' (α.1 ++ w, α.2) ∧ pxTp (α.1 ++ w) := by
  subst hn
  unfold f_L_typed
  exact l_typed6 hw (by omega) w.length jw_FU 0 h α (by omega) (by unfold jw_FU; omega) A T (by omega)
theorem l_wipe (A : pwA h α) (T : pxTp α.1) : pxW (f_X11_wipe h 0) fun v h' => ¬ v < 0 ∧ qzG 1 h h' ∧ pwA h' ([], α.2) := by
  refine pxW.mono (c_wipe A) fun v h' Z => ?_
  obtain ⟨z1, z2, z3⟩ := Z.l
  have l60 := T.1
  have z1 : v = pxJ (α.1.length : Int) := z1
  subst z1
  refine ⟨fun z => ?_, z2, z3⟩
  have := (pxJ_lt (a := (α.1.length : Int)) (b := 0) (by omega) (by omega) (by omega) (by omega)).mp z
  omega
theorem qz_g47 : qzSgn (47 : Int64) [47] = true := by decide +kernel
theorem qz_g117 : qzSgn (117 : Int64) [117] = true := by decide +kernel
theorem qz_g6115 : qzSgn (6115 : Int64) [99, 47] = true := by decide +kernel
theorem qz_g12965 : qzSgn (12965 : Int64) [37, 101] = true := by decide +kernel
theorem qz_g13349 : qzSgn (13349 : Int64) [37, 104] = true := by decide +kernel
theorem qz_g13489 : qzSgn (13489 : Int64) [49, 105] = true := by decide +kernel
theorem qz_g13861 : qzSgn (13861 : Int64) [37, 108] = true := by decide +kernel
theorem qz_g16097 : qzSgn (16097 : Int64) [97, 125] = true := by decide +kernel
theorem qz_g604721 : qzSgn (604721 : Int64) [49, 116, 36] = true := by decide +kernel
theorem qz_g817061 : qzSgn (817061 : Int64) [37, 111, 49] = true := by decide +kernel
theorem qz_g850725 : qzSgn (850725 : Int64) [37, 118, 51] = true := by decide +kernel
theorem qz_g1611105 : qzSgn (1611105 : Int64) [97, 42, 98] = true := by decide +kernel
theorem qz_g1646030 : qzSgn (1646030 : Int64) [78, 59, 100] = true := by decide +kernel
theorem qz_g210759871 : qzSgn (210759871 : Int64) [63, 97, 63, 100] = true := by decide +kernel
theorem qz_g223122993 : qzSgn (223122993 : Int64) [49, 44, 50, 106] = true := by decide +kernel
theorem qz_g9893090865 : qzSgn (9893090865 : Int64) [49, 44, 50, 109, 36] = true := by decide +kernel
theorem qz_g26943723495 : qzSgn (26943723495 : Int64) [103, 47, 98, 47, 100] = true := by decide +kernel
theorem qz_g3789327980196 : qzSgn (3789327980196 : Int64) [36, 45, 49, 44, 36, 110] = true := by decide +kernel
theorem qz_g439096374470565 : qzSgn (439096374470565 : Int64) [37, 79, 48, 59, 49, 107, 99] = true := by decide +kernel
theorem qz_g28412667713524411 : qzSgn (28412667713524411 : Int64) [59, 37, 62, 49, 59, 37, 60, 50] = true := by decide +kernel
theorem qz_g3407405772541833007 : qzSgn (3407405772541833007 : Int64) [47, 94, 98, 47, 115, 47, 98, 36, 47] = true := by decide +kernel
theorem qz_g3442313063511620901 : qzSgn (3442313063511620901 : Int64) [37, 122, 47, 98, 99, 47, 99, 98, 47] = true := by decide +kernel
theorem qz_g3443170682464671731 : qzSgn (3443170682464671731 : Int64) [115, 47, 98, 42, 99, 47, 38, 100, 47] = true := by decide +kernel
theorem qz_g4278295482728184229 : qzSgn (4278295482728184229 : Int64) [37, 115, 47, 97, 47, 98, 99, 47, 59] = true := by decide +kernel
theorem qz_g7227361623303518629 : qzSgn (7227361623303518629 : Int64) [37, 115, 47, 98, 42, 99, 47, 38, 100] = true := by decide +kernel
theorem qz_g7448825222350502309 : qzSgn (7448825222350502309 : Int64) [37, 115, 47, 97, 47, 98, 98, 47, 103] = true := by decide +kernel
theorem qz_g7743594277010692039 : qzSgn (7743594277010692039 : Int64) [71, 47, 97, 47, 123, 62, 49, 59, 107] = true := by decide +kernel
theorem qz_g8861365562411636274 : qzSgn (8861365562411636274 : Int64) [50, 44, 51, 99, 120, 32, 121, 124, 122] = true := by decide +kernel
theorem l_ty0 (A : pwA h α) (e : α.1 = []) : pxW (g_L_types_b12 h (some 0) (0 : Int32) (1 : Int32)) fun r h' => r = 1 ∧ qzG 11 h h' ∧ pwA h' (qt0, α.2) := by
  unfold g_L_types_b12
  rw [if_pos rfl, if_neg (show ¬ ((1 : Int32) = 0) by decide)]
  refine pxW_b2 (l_typed qz_g7448825222350502309 rfl A (by rw [e]; exact pxTp_nil) (by rw [e]; decide)) fun r1 h1 q1 => ?_
  obtain ⟨r1, g1, a1, t1⟩ := q1
  subst r1
  rw [if_neg (show ¬ ((1 : Int32) = 0) by decide)]
  unfold g_L_types_b121
  rw [show jw_rb (1 : Int32) = some () from px_rb1, px_bs]
  rw [e] at a1
  exact pxW_some.mpr ⟨rfl, g1.up (by decide), a1⟩
theorem l_ty1 (A : pwA h α) (e : α.1 = []) : pxW (g_L_types_b12 h (some 0) (1 : Int32) (1 : Int32)) fun r h' => r = 1 ∧ qzG 11 h h' ∧ pwA h' (qt1, α.2) := by
  unfold g_L_types_b12
  rw [if_neg (show ¬ ((1 : Int32) = (0 : Int32)) by decide), if_pos rfl, if_neg (show ¬ ((1 : Int32) = 0) by decide)]
  refine pxW_b2 (l_typed qz_g26943723495 rfl A (by rw [e]; exact pxTp_nil) (by rw [e]; decide)) fun r1 h1 q1 => ?_
  obtain ⟨r1, g1, a1, t1⟩ := q1
  subst r1
  rw [if_neg (show ¬ ((1 : Int32) = 0) by decide)]
  unfold g_L_types_b142
  rw [show jw_rb (1 : Int32) = some () from px_rb1, px_bs]
  rw [e] at a1
  exact pxW_some.mpr ⟨rfl, g1.up (by decide), a1⟩
theorem l_ty2 (A : pwA h α) (e : α.1 = []) : pxW (g_L_types_b12 h (some 0) (2 : Int32) (1 : Int32)) fun r h' => r = 1 ∧ qzG 11 h h' ∧ pwA h' (qt2, α.2) := by
  unfold g_L_types_b12
  rw [if_neg (show ¬ ((2 : Int32) = (0 : Int32)) by decide), if_neg (show ¬ ((2 : Int32) = (1 : Int32)) by decide), if_pos rfl, if_neg (show ¬ ((1 : Int32) = 0) by decide)]
  refine pxW_b2 (l_typed qz_g9893090865 rfl A (by rw [e]; exact pxTp_nil) (by rw [e]; decide)) fun r1 h1 q1 => ?_
  obtain ⟨r1, g1, a1, t1⟩ := q1
  subst r1
  rw [if_neg (show ¬ ((1 : Int32) = 0) by decide)]
  unfold g_L_types_b163
  rw [show jw_rb (1 : Int32) = some () from px_rb1, px_bs]
  rw [e] at a1
  exact pxW_some.mpr ⟨rfl, g1.up (by decide), a1⟩
theorem l_ty3 (A : pwA h α) (e : α.1 = []) : pxW (g_L_types_b12 h (some 0) (3 : Int32) (1 : Int32)) fun r h' => r = 1 ∧ qzG 11 h h' ∧ pwA h' (qt3, α.2) := by
  unfold g_L_types_b12
  rw [if_neg (show ¬ ((3 : Int32) = (0 : Int32)) by decide), if_neg (show ¬ ((3 : Int32) = (1 : Int32)) by decide), if_neg (show ¬ ((3 : Int32) = (2 : Int32)) by decide), if_pos rfl, if_neg (show ¬ ((1 : Int32) = 0) by decide)]
  refine pxW_b2 (l_typed qz_g817061 rfl A (by rw [e]; exact pxTp_nil) (by rw [e]; decide)) fun r1 h1 q1 => ?_
  obtain ⟨r1, g1, a1, t1⟩ := q1
  subst r1
  rw [if_neg (show ¬ ((1 : Int32) = 0) by decide)]
  unfold g_L_types_b184
  rw [show jw_rb (1 : Int32) = some () from px_rb1, px_bs]
  rw [e] at a1
  exact pxW_some.mpr ⟨rfl, g1.up (by decide), a1⟩
theorem l_ty4 (A : pwA h α) (e : α.1 = []) : pxW (g_L_types_b12 h (some 0) (4 : Int32) (1 : Int32)) fun r h' => r = 1 ∧ qzG 11 h h' ∧ pwA h' (qt4, α.2) := by
  unfold g_L_types_b12
  rw [if_neg (show ¬ ((4 : Int32) = (0 : Int32)) by decide), if_neg (show ¬ ((4 : Int32) = (1 : Int32)) by decide), if_neg (show ¬ ((4 : Int32) = (2 : Int32)) by decide), if_neg (show ¬ ((4 : Int32) = (3 : Int32)) by decide), if_pos rfl, if_neg (show ¬ ((1 : Int32) = 0) by decide)]
  refine pxW_b2 (l_typed qz_g850725 rfl A (by rw [e]; exact pxTp_nil) (by rw [e]; decide)) fun r1 h1 q1 => ?_
  obtain ⟨r1, g1, a1, t1⟩ := q1
  subst r1
  rw [if_neg (show ¬ ((1 : Int32) = 0) by decide)]
  unfold g_L_types_b205
  rw [show jw_rb (1 : Int32) = some () from px_rb1, px_bs]
  rw [e] at a1
  exact pxW_some.mpr ⟨rfl, g1.up (by decide), a1⟩
theorem l_ty5 (A : pwA h α) (e : α.1 = []) : pxW (g_L_types_b12 h (some 0) (5 : Int32) (1 : Int32)) fun r h' => r = 1 ∧ qzG 11 h h' ∧ pwA h' (qt5, α.2) := by
  unfold g_L_types_b12
  rw [if_neg (show ¬ ((5 : Int32) = (0 : Int32)) by decide), if_neg (show ¬ ((5 : Int32) = (1 : Int32)) by decide), if_neg (show ¬ ((5 : Int32) = (2 : Int32)) by decide), if_neg (show ¬ ((5 : Int32) = (3 : Int32)) by decide), if_neg (show ¬ ((5 : Int32) = (4 : Int32)) by decide), if_pos rfl, if_neg (show ¬ ((1 : Int32) = 0) by decide)]
  refine pxW_b2 (l_typed qz_g13861 rfl A (by rw [e]; exact pxTp_nil) (by rw [e]; decide)) fun r1 h1 q1 => ?_
  obtain ⟨r1, g1, a1, t1⟩ := q1
  subst r1
  rw [if_neg (show ¬ ((1 : Int32) = 0) by decide)]
  unfold g_L_types_b226
  rw [show jw_rb (1 : Int32) = some () from px_rb1, px_bs]
  rw [e] at a1
  exact pxW_some.mpr ⟨rfl, g1.up (by decide), a1⟩
theorem l_ty6 (A : pwA h α) (e : α.1 = []) : pxW (g_L_types_b12 h (some 0) (6 : Int32) (1 : Int32)) fun r h' => r = 1 ∧ qzG 11 h h' ∧ pwA h' (qt6, α.2) := by
  unfold g_L_types_b12
  rw [if_neg (show ¬ ((6 : Int32) = (0 : Int32)) by decide), if_neg (show ¬ ((6 : Int32) = (1 : Int32)) by decide), if_neg (show ¬ ((6 : Int32) = (2 : Int32)) by decide), if_neg (show ¬ ((6 : Int32) = (3 : Int32)) by decide), if_neg (show ¬ ((6 : Int32) = (4 : Int32)) by decide), if_neg (show ¬ ((6 : Int32) = (5 : Int32)) by decide), if_pos rfl, if_neg (show ¬ ((1 : Int32) = 0) by decide)]
  refine pxW_b2 (l_typed qz_g223122993 rfl A (by rw [e]; exact pxTp_nil) (by rw [e]; decide)) fun r1 h1 q1 => ?_
  obtain ⟨r1, g1, a1, t1⟩ := q1
  subst r1
  rw [if_neg (show ¬ ((1 : Int32) = 0) by decide)]
  unfold g_L_types_b247
  rw [show jw_rb (1 : Int32) = some () from px_rb1, px_bs]
  rw [e] at a1
  exact pxW_some.mpr ⟨rfl, g1.up (by decide), a1⟩
theorem l_ty7 (A : pwA h α) (e : α.1 = []) : pxW (g_L_types_b12 h (some 0) (7 : Int32) (1 : Int32)) fun r h' => r = 1 ∧ qzG 11 h h' ∧ pwA h' (qt7, α.2) := by
  unfold g_L_types_b12
  rw [if_neg (show ¬ ((7 : Int32) = (0 : Int32)) by decide), if_neg (show ¬ ((7 : Int32) = (1 : Int32)) by decide), if_neg (show ¬ ((7 : Int32) = (2 : Int32)) by decide), if_neg (show ¬ ((7 : Int32) = (3 : Int32)) by decide), if_neg (show ¬ ((7 : Int32) = (4 : Int32)) by decide), if_neg (show ¬ ((7 : Int32) = (5 : Int32)) by decide), if_neg (show ¬ ((7 : Int32) = (6 : Int32)) by decide), if_pos rfl, if_neg (show ¬ ((1 : Int32) = 0) by decide)]
  refine pxW_b2 (l_typed qz_g604721 rfl A (by rw [e]; exact pxTp_nil) (by rw [e]; decide)) fun r1 h1 q1 => ?_
  obtain ⟨r1, g1, a1, t1⟩ := q1
  subst r1
  rw [if_neg (show ¬ ((1 : Int32) = 0) by decide)]
  unfold g_L_types_b268
  rw [show jw_rb (1 : Int32) = some () from px_rb1, px_bs]
  rw [e] at a1
  exact pxW_some.mpr ⟨rfl, g1.up (by decide), a1⟩
theorem l_ty8 (A : pwA h α) (e : α.1 = []) : pxW (g_L_types_b12 h (some 0) (8 : Int32) (1 : Int32)) fun r h' => r = 1 ∧ qzG 11 h h' ∧ pwA h' (qt8, α.2) := by
  unfold g_L_types_b12
  rw [if_neg (show ¬ ((8 : Int32) = (0 : Int32)) by decide), if_neg (show ¬ ((8 : Int32) = (1 : Int32)) by decide), if_neg (show ¬ ((8 : Int32) = (2 : Int32)) by decide), if_neg (show ¬ ((8 : Int32) = (3 : Int32)) by decide), if_neg (show ¬ ((8 : Int32) = (4 : Int32)) by decide), if_neg (show ¬ ((8 : Int32) = (5 : Int32)) by decide), if_neg (show ¬ ((8 : Int32) = (6 : Int32)) by decide), if_neg (show ¬ ((8 : Int32) = (7 : Int32)) by decide), if_pos rfl, if_neg (show ¬ ((1 : Int32) = 0) by decide)]
  refine pxW_b2 (l_typed qz_g7743594277010692039 rfl A (by rw [e]; exact pxTp_nil) (by rw [e]; decide)) fun r1 h1 q1 => ?_
  obtain ⟨r1, g1, a1, t1⟩ := q1
  subst r1
  rw [if_neg (show ¬ ((1 : Int32) = 0) by decide)]
  rw [e] at a1 t1
  refine pxW_b2 (l_typed qz_g16097 rfl a1 t1 (Nat.le_of_ble_eq_true rfl)) fun r2 h2 q2 => ?_
  obtain ⟨r2, g2, a2, t2⟩ := q2
  subst r2
  rw [if_neg (show ¬ ((1 : Int32) = 0) by decide)]
  unfold g_L_types_b301
  rw [show jw_rb (1 : Int32) = some () from px_rb1, px_bs]
  exact pxW_some.mpr ⟨rfl, g1.tr g2 (by decide), a2⟩
theorem l_ty9 (A : pwA h α) (e : α.1 = []) : pxW (g_L_types_b12 h (some 0) (9 : Int32) (1 : Int32)) fun r h' => r = 1 ∧ qzG 11 h h' ∧ pwA h' (qt9, α.2) := by
  unfold g_L_types_b12
  rw [if_neg (show ¬ ((9 : Int32) = (0 : Int32)) by decide), if_neg (show ¬ ((9 : Int32) = (1 : Int32)) by decide), if_neg (show ¬ ((9 : Int32) = (2 : Int32)) by decide), if_neg (show ¬ ((9 : Int32) = (3 : Int32)) by decide), if_neg (show ¬ ((9 : Int32) = (4 : Int32)) by decide), if_neg (show ¬ ((9 : Int32) = (5 : Int32)) by decide), if_neg (show ¬ ((9 : Int32) = (6 : Int32)) by decide), if_neg (show ¬ ((9 : Int32) = (7 : Int32)) by decide), if_neg (show ¬ ((9 : Int32) = (8 : Int32)) by decide), if_pos rfl, if_neg (show ¬ ((1 : Int32) = 0) by decide)]
  refine pxW_b2 (l_typed qz_g12965 rfl A (by rw [e]; exact pxTp_nil) (by rw [e]; decide)) fun r1 h1 q1 => ?_
  obtain ⟨r1, g1, a1, t1⟩ := q1
  subst r1
  rw [if_neg (show ¬ ((1 : Int32) = 0) by decide)]
  unfold g_L_types_b322
  rw [show jw_rb (1 : Int32) = some () from px_rb1, px_bs]
  rw [e] at a1
  exact pxW_some.mpr ⟨rfl, g1.up (by decide), a1⟩
theorem l_ty10 (A : pwA h α) (e : α.1 = []) : pxW (g_L_types_b12 h (some 0) (10 : Int32) (1 : Int32)) fun r h' => r = 1 ∧ qzG 11 h h' ∧ pwA h' (qt10, α.2) := by
  unfold g_L_types_b12
  rw [if_neg (show ¬ ((10 : Int32) = (0 : Int32)) by decide), if_neg (show ¬ ((10 : Int32) = (1 : Int32)) by decide), if_neg (show ¬ ((10 : Int32) = (2 : Int32)) by decide), if_neg (show ¬ ((10 : Int32) = (3 : Int32)) by decide), if_neg (show ¬ ((10 : Int32) = (4 : Int32)) by decide), if_neg (show ¬ ((10 : Int32) = (5 : Int32)) by decide), if_neg (show ¬ ((10 : Int32) = (6 : Int32)) by decide), if_neg (show ¬ ((10 : Int32) = (7 : Int32)) by decide), if_neg (show ¬ ((10 : Int32) = (8 : Int32)) by decide), if_neg (show ¬ ((10 : Int32) = (9 : Int32)) by decide), if_pos rfl, if_neg (show ¬ ((1 : Int32) = 0) by decide)]
  refine pxW_b2 (l_typed qz_g13349 rfl A (by rw [e]; exact pxTp_nil) (by rw [e]; decide)) fun r1 h1 q1 => ?_
  obtain ⟨r1, g1, a1, t1⟩ := q1
  subst r1
  rw [if_neg (show ¬ ((1 : Int32) = 0) by decide)]
  unfold g_L_types_b343
  rw [show jw_rb (1 : Int32) = some () from px_rb1, px_bs]
  rw [e] at a1
  exact pxW_some.mpr ⟨rfl, g1.up (by decide), a1⟩
theorem l_ty11 (A : pwA h α) (e : α.1 = []) : pxW (g_L_types_b12 h (some 0) (11 : Int32) (1 : Int32)) fun r h' => r = 1 ∧ qzG 11 h h' ∧ pwA h' (qt11, α.2) := by
  unfold g_L_types_b12
  rw [if_neg (show ¬ ((11 : Int32) = (0 : Int32)) by decide), if_neg (show ¬ ((11 : Int32) = (1 : Int32)) by decide), if_neg (show ¬ ((11 : Int32) = (2 : Int32)) by decide), if_neg (show ¬ ((11 : Int32) = (3 : Int32)) by decide), if_neg (show ¬ ((11 : Int32) = (4 : Int32)) by decide), if_neg (show ¬ ((11 : Int32) = (5 : Int32)) by decide), if_neg (show ¬ ((11 : Int32) = (6 : Int32)) by decide), if_neg (show ¬ ((11 : Int32) = (7 : Int32)) by decide), if_neg (show ¬ ((11 : Int32) = (8 : Int32)) by decide), if_neg (show ¬ ((11 : Int32) = (9 : Int32)) by decide), if_neg (show ¬ ((11 : Int32) = (10 : Int32)) by decide), if_pos rfl, if_neg (show ¬ ((1 : Int32) = 0) by decide)]
  refine pxW_b2 (l_typed qz_g8861365562411636274 rfl A (by rw [e]; exact pxTp_nil) (by rw [e]; decide)) fun r1 h1 q1 => ?_
  obtain ⟨r1, g1, a1, t1⟩ := q1
  subst r1
  rw [if_neg (show ¬ ((1 : Int32) = 0) by decide)]
  unfold g_L_types_b365
  rw [show jw_rb (1 : Int32) = some () from px_rb1, px_bs]
  rw [e] at a1
  exact pxW_some.mpr ⟨rfl, g1.up (by decide), a1⟩
theorem l_ty12 (A : pwA h α) (e : α.1 = []) : pxW (g_L_types_b12 h (some 0) (12 : Int32) (1 : Int32)) fun r h' => r = 1 ∧ qzG 11 h h' ∧ pwA h' (qt12, α.2) := by
  unfold g_L_types_b12
  rw [if_neg (show ¬ ((12 : Int32) = (0 : Int32)) by decide), if_neg (show ¬ ((12 : Int32) = (1 : Int32)) by decide), if_neg (show ¬ ((12 : Int32) = (2 : Int32)) by decide), if_neg (show ¬ ((12 : Int32) = (3 : Int32)) by decide), if_neg (show ¬ ((12 : Int32) = (4 : Int32)) by decide), if_neg (show ¬ ((12 : Int32) = (5 : Int32)) by decide), if_neg (show ¬ ((12 : Int32) = (6 : Int32)) by decide), if_neg (show ¬ ((12 : Int32) = (7 : Int32)) by decide), if_neg (show ¬ ((12 : Int32) = (8 : Int32)) by decide), if_neg (show ¬ ((12 : Int32) = (9 : Int32)) by decide), if_neg (show ¬ ((12 : Int32) = (10 : Int32)) by decide), if_neg (show ¬ ((12 : Int32) = (11 : Int32)) by decide), if_pos rfl, if_neg (show ¬ ((1 : Int32) = 0) by decide)]
  refine pxW_b2 (l_typed qz_g1646030 rfl A (by rw [e]; exact pxTp_nil) (by rw [e]; decide)) fun r1 h1 q1 => ?_
  obtain ⟨r1, g1, a1, t1⟩ := q1
  subst r1
  rw [if_neg (show ¬ ((1 : Int32) = 0) by decide)]
  unfold g_L_types_b386
  rw [show jw_rb (1 : Int32) = some () from px_rb1, px_bs]
  rw [e] at a1
  exact pxW_some.mpr ⟨rfl, g1.up (by decide), a1⟩
theorem l_ty13 (A : pwA h α) (e : α.1 = []) : pxW (g_L_types_b12 h (some 0) (13 : Int32) (1 : Int32)) fun r h' => r = 1 ∧ qzG 11 h h' ∧ pwA h' (qt13, α.2) := by
  unfold g_L_types_b12
  rw [if_neg (show ¬ ((13 : Int32) = (0 : Int32)) by decide), if_neg (show ¬ ((13 : Int32) = (1 : Int32)) by decide), if_neg (show ¬ ((13 : Int32) = (2 : Int32)) by decide), if_neg (show ¬ ((13 : Int32) = (3 : Int32)) by decide), if_neg (show ¬ ((13 : Int32) = (4 : Int32)) by decide), if_neg (show ¬ ((13 : Int32) = (5 : Int32)) by decide), if_neg (show ¬ ((13 : Int32) = (6 : Int32)) by decide), if_neg (show ¬ ((13 : Int32) = (7 : Int32)) by decide), if_neg (show ¬ ((13 : Int32) = (8 : Int32)) by decide), if_neg (show ¬ ((13 : Int32) = (9 : Int32)) by decide), if_neg (show ¬ ((13 : Int32) = (10 : Int32)) by decide), if_neg (show ¬ ((13 : Int32) = (11 : Int32)) by decide), if_neg (show ¬ ((13 : Int32) = (12 : Int32)) by decide), if_pos rfl, if_neg (show ¬ ((1 : Int32) = 0) by decide)]
  refine pxW_b2 (l_typed qz_g210759871 rfl A (by rw [e]; exact pxTp_nil) (by rw [e]; decide)) fun r1 h1 q1 => ?_
  obtain ⟨r1, g1, a1, t1⟩ := q1
  subst r1
  rw [if_neg (show ¬ ((1 : Int32) = 0) by decide)]
  unfold g_L_types_b407
  rw [show jw_rb (1 : Int32) = some () from px_rb1, px_bs]
  rw [e] at a1
  exact pxW_some.mpr ⟨rfl, g1.up (by decide), a1⟩
theorem l_ty14 (A : pwA h α) (e : α.1 = []) : pxW (g_L_types_b12 h (some 0) (14 : Int32) (1 : Int32)) fun r h' => r = 1 ∧ qzG 11 h h' ∧ pwA h' (qt14, α.2) := by
  unfold g_L_types_b12
  rw [if_neg (show ¬ ((14 : Int32) = (0 : Int32)) by decide), if_neg (show ¬ ((14 : Int32) = (1 : Int32)) by decide), if_neg (show ¬ ((14 : Int32) = (2 : Int32)) by decide), if_neg (show ¬ ((14 : Int32) = (3 : Int32)) by decide), if_neg (show ¬ ((14 : Int32) = (4 : Int32)) by decide), if_neg (show ¬ ((14 : Int32) = (5 : Int32)) by decide), if_neg (show ¬ ((14 : Int32) = (6 : Int32)) by decide), if_neg (show ¬ ((14 : Int32) = (7 : Int32)) by decide), if_neg (show ¬ ((14 : Int32) = (8 : Int32)) by decide), if_neg (show ¬ ((14 : Int32) = (9 : Int32)) by decide), if_neg (show ¬ ((14 : Int32) = (10 : Int32)) by decide), if_neg (show ¬ ((14 : Int32) = (11 : Int32)) by decide), if_neg (show ¬ ((14 : Int32) = (12 : Int32)) by decide), if_neg (show ¬ ((14 : Int32) = (13 : Int32)) by decide), if_pos rfl, if_neg (show ¬ ((1 : Int32) = 0) by decide)]
  refine pxW_b2 (l_typed qz_g3407405772541833007 rfl A (by rw [e]; exact pxTp_nil) (by rw [e]; decide)) fun r1 h1 q1 => ?_
  obtain ⟨r1, g1, a1, t1⟩ := q1
  subst r1
  rw [if_neg (show ¬ ((1 : Int32) = 0) by decide)]
  rw [e] at a1 t1
  refine pxW_b2 (l_typed qz_g6115 rfl a1 t1 (Nat.le_of_ble_eq_true rfl)) fun r2 h2 q2 => ?_
  obtain ⟨r2, g2, a2, t2⟩ := q2
  subst r2
  rw [if_neg (show ¬ ((1 : Int32) = 0) by decide)]
  unfold g_L_types_b440
  rw [show jw_rb (1 : Int32) = some () from px_rb1, px_bs]
  exact pxW_some.mpr ⟨rfl, g1.tr g2 (by decide), a2⟩
theorem l_ty15 (A : pwA h α) (e : α.1 = []) : pxW (g_L_types_b12 h (some 0) (15 : Int32) (1 : Int32)) fun r h' => r = 1 ∧ qzG 11 h h' ∧ pwA h' (qt15, α.2) := by
  unfold g_L_types_b12
  rw [if_neg (show ¬ ((15 : Int32) = (0 : Int32)) by decide), if_neg (show ¬ ((15 : Int32) = (1 : Int32)) by decide), if_neg (show ¬ ((15 : Int32) = (2 : Int32)) by decide), if_neg (show ¬ ((15 : Int32) = (3 : Int32)) by decide), if_neg (show ¬ ((15 : Int32) = (4 : Int32)) by decide), if_neg (show ¬ ((15 : Int32) = (5 : Int32)) by decide), if_neg (show ¬ ((15 : Int32) = (6 : Int32)) by decide), if_neg (show ¬ ((15 : Int32) = (7 : Int32)) by decide), if_neg (show ¬ ((15 : Int32) = (8 : Int32)) by decide), if_neg (show ¬ ((15 : Int32) = (9 : Int32)) by decide), if_neg (show ¬ ((15 : Int32) = (10 : Int32)) by decide), if_neg (show ¬ ((15 : Int32) = (11 : Int32)) by decide), if_neg (show ¬ ((15 : Int32) = (12 : Int32)) by decide), if_neg (show ¬ ((15 : Int32) = (13 : Int32)) by decide), if_neg (show ¬ ((15 : Int32) = (14 : Int32)) by decide), if_pos rfl, if_neg (show ¬ ((1 : Int32) = 0) by decide)]
  refine pxW_b2 (l_typed qz_g439096374470565 rfl A (by rw [e]; exact pxTp_nil) (by rw [e]; decide)) fun r1 h1 q1 => ?_
  obtain ⟨r1, g1, a1, t1⟩ := q1
  subst r1
  rw [if_neg (show ¬ ((1 : Int32) = 0) by decide)]
  unfold g_L_types_b462
  rw [show jw_rb (1 : Int32) = some () from px_rb1, px_bs]
  rw [e] at a1
  exact pxW_some.mpr ⟨rfl, g1.up (by decide), a1⟩
theorem l_ty16 (A : pwA h α) (e : α.1 = []) : pxW (g_L_types_b12 h (some 0) (16 : Int32) (1 : Int32)) fun r h' => r = 1 ∧ qzG 11 h h' ∧ pwA h' (qt16, α.2) := by
  unfold g_L_types_b12
  rw [if_neg (show ¬ ((16 : Int32) = (0 : Int32)) by decide), if_neg (show ¬ ((16 : Int32) = (1 : Int32)) by decide), if_neg (show ¬ ((16 : Int32) = (2 : Int32)) by decide), if_neg (show ¬ ((16 : Int32) = (3 : Int32)) by decide), if_neg (show ¬ ((16 : Int32) = (4 : Int32)) by decide), if_neg (show ¬ ((16 : Int32) = (5 : Int32)) by decide), if_neg (show ¬ ((16 : Int32) = (6 : Int32)) by decide), if_neg (show ¬ ((16 : Int32) = (7 : Int32)) by decide), if_neg (show ¬ ((16 : Int32) = (8 : Int32)) by decide), if_neg (show ¬ ((16 : Int32) = (9 : Int32)) by decide), if_neg (show ¬ ((16 : Int32) = (10 : Int32)) by decide), if_neg (show ¬ ((16 : Int32) = (11 : Int32)) by decide), if_neg (show ¬ ((16 : Int32) = (12 : Int32)) by decide), if_neg (show ¬ ((16 : Int32) = (13 : Int32)) by decide), if_neg (show ¬ ((16 : Int32) = (14 : Int32)) by decide), if_neg (show ¬ ((16 : Int32) = (15 : Int32)) by decide), if_pos rfl, if_neg (show ¬ ((1 : Int32) = 0) by decide)]
  refine pxW_b2 (l_typed qz_g117 rfl A (by rw [e]; exact pxTp_nil) (by rw [e]; decide)) fun r1 h1 q1 => ?_
  obtain ⟨r1, g1, a1, t1⟩ := q1
  subst r1
  rw [if_neg (show ¬ ((1 : Int32) = 0) by decide)]
  unfold g_L_types_b483
  rw [show jw_rb (1 : Int32) = some () from px_rb1, px_bs]
  rw [e] at a1
  exact pxW_some.mpr ⟨rfl, g1.up (by decide), a1⟩
theorem l_ty17 (A : pwA h α) (e : α.1 = []) : pxW (g_L_types_b12 h (some 0) (17 : Int32) (1 : Int32)) fun r h' => r = 1 ∧ qzG 11 h h' ∧ pwA h' (qt17, α.2) := by
  unfold g_L_types_b12
  rw [if_neg (show ¬ ((17 : Int32) = (0 : Int32)) by decide), if_neg (show ¬ ((17 : Int32) = (1 : Int32)) by decide), if_neg (show ¬ ((17 : Int32) = (2 : Int32)) by decide), if_neg (show ¬ ((17 : Int32) = (3 : Int32)) by decide), if_neg (show ¬ ((17 : Int32) = (4 : Int32)) by decide), if_neg (show ¬ ((17 : Int32) = (5 : Int32)) by decide), if_neg (show ¬ ((17 : Int32) = (6 : Int32)) by decide), if_neg (show ¬ ((17 : Int32) = (7 : Int32)) by decide), if_neg (show ¬ ((17 : Int32) = (8 : Int32)) by decide), if_neg (show ¬ ((17 : Int32) = (9 : Int32)) by decide), if_neg (show ¬ ((17 : Int32) = (10 : Int32)) by decide), if_neg (show ¬ ((17 : Int32) = (11 : Int32)) by decide), if_neg (show ¬ ((17 : Int32) = (12 : Int32)) by decide), if_neg (show ¬ ((17 : Int32) = (13 : Int32)) by decide), if_neg (show ¬ ((17 : Int32) = (14 : Int32)) by decide), if_neg (show ¬ ((17 : Int32) = (15 : Int32)) by decide), if_neg (show ¬ ((17 : Int32) = (16 : Int32)) by decide), if_pos rfl, if_neg (show ¬ ((1 : Int32) = 0) by decide)]
  refine pxW_b2 (l_typed qz_g13489 rfl A (by rw [e]; exact pxTp_nil) (by rw [e]; decide)) fun r1 h1 q1 => ?_
  obtain ⟨r1, g1, a1, t1⟩ := q1
  subst r1
  rw [if_neg (show ¬ ((1 : Int32) = 0) by decide)]
  unfold g_L_types_b504
  rw [show jw_rb (1 : Int32) = some () from px_rb1, px_bs]
  rw [e] at a1
  exact pxW_some.mpr ⟨rfl, g1.up (by decide), a1⟩
theorem l_ty18 (A : pwA h α) (e : α.1 = []) : pxW (g_L_types_b12 h (some 0) (18 : Int32) (1 : Int32)) fun r h' => r = 1 ∧ qzG 11 h h' ∧ pwA h' (qt18, α.2) := by
  unfold g_L_types_b12
  rw [if_neg (show ¬ ((18 : Int32) = (0 : Int32)) by decide), if_neg (show ¬ ((18 : Int32) = (1 : Int32)) by decide), if_neg (show ¬ ((18 : Int32) = (2 : Int32)) by decide), if_neg (show ¬ ((18 : Int32) = (3 : Int32)) by decide), if_neg (show ¬ ((18 : Int32) = (4 : Int32)) by decide), if_neg (show ¬ ((18 : Int32) = (5 : Int32)) by decide), if_neg (show ¬ ((18 : Int32) = (6 : Int32)) by decide), if_neg (show ¬ ((18 : Int32) = (7 : Int32)) by decide), if_neg (show ¬ ((18 : Int32) = (8 : Int32)) by decide), if_neg (show ¬ ((18 : Int32) = (9 : Int32)) by decide), if_neg (show ¬ ((18 : Int32) = (10 : Int32)) by decide), if_neg (show ¬ ((18 : Int32) = (11 : Int32)) by decide), if_neg (show ¬ ((18 : Int32) = (12 : Int32)) by decide), if_neg (show ¬ ((18 : Int32) = (13 : Int32)) by decide), if_neg (show ¬ ((18 : Int32) = (14 : Int32)) by decide), if_neg (show ¬ ((18 : Int32) = (15 : Int32)) by decide), if_neg (show ¬ ((18 : Int32) = (16 : Int32)) by decide), if_neg (show ¬ ((18 : Int32) = (17 : Int32)) by decide), if_neg (show ¬ ((1 : Int32) = 0) by decide)]
  refine pxW_b2 (l_typed qz_g3789327980196 rfl A (by rw [e]; exact pxTp_nil) (by rw [e]; decide)) fun r1 h1 q1 => ?_
  obtain ⟨r1, g1, a1, t1⟩ := q1
  subst r1
  rw [if_neg (show ¬ ((1 : Int32) = 0) by decide)]
  unfold g_L_types_b526
  rw [show jw_rb (1 : Int32) = some () from px_rb1, px_bs]
  rw [e] at a1
  exact pxW_some.mpr ⟨rfl, g1.up (by decide), a1⟩
theorem l_types {w : Nat} (w19 : w < 19) (A : pwA h α) (T : pxTp α.1) : pxW (f_L_types h (some 0) (pxJ (w : Int))) fun r h' => r = 1 ∧ qzG 12 h h' ∧ pwA h' (qzt w, α.2) := by
  unfold f_L_types
  rw [A.rc, px_bs]
  refine pxW_b2 (l_wipe A T) fun v h2 q => ?_
  obtain ⟨v0, g0, a0⟩ := q
  rw [if_neg v0]
  have go : ∀ {s : List Int}, pxW (g_L_types_b12 h2 (some 0) (pxJ (w : Int)) (1 : Int32)) (fun r h' => r = 1 ∧ qzG 11 h2 h' ∧ pwA h' (s, α.2)) → pxW (g_L_types_b12 h2 (some 0) (pxJ (w : Int)) (1 : Int32)) fun r h' => r = 1 ∧ qzG 12 h h' ∧ pwA h' (s, α.2) := fun k => pxW.mono k fun r h' z => ⟨z.1, g0.tr z.2.1 (by decide), z.2.2⟩
  match w, w19 with
  | 0, _ => exact go (l_ty0 (α := ([], α.2)) a0 rfl)
  | 1, _ => exact go (l_ty1 (α := ([], α.2)) a0 rfl)
  | 2, _ => exact go (l_ty2 (α := ([], α.2)) a0 rfl)
  | 3, _ => exact go (l_ty3 (α := ([], α.2)) a0 rfl)
  | 4, _ => exact go (l_ty4 (α := ([], α.2)) a0 rfl)
  | 5, _ => exact go (l_ty5 (α := ([], α.2)) a0 rfl)
  | 6, _ => exact go (l_ty6 (α := ([], α.2)) a0 rfl)
  | 7, _ => exact go (l_ty7 (α := ([], α.2)) a0 rfl)
  | 8, _ => exact go (l_ty8 (α := ([], α.2)) a0 rfl)
  | 9, _ => exact go (l_ty9 (α := ([], α.2)) a0 rfl)
  | 10, _ => exact go (l_ty10 (α := ([], α.2)) a0 rfl)
  | 11, _ => exact go (l_ty11 (α := ([], α.2)) a0 rfl)
  | 12, _ => exact go (l_ty12 (α := ([], α.2)) a0 rfl)
  | 13, _ => exact go (l_ty13 (α := ([], α.2)) a0 rfl)
  | 14, _ => exact go (l_ty14 (α := ([], α.2)) a0 rfl)
  | 15, _ => exact go (l_ty15 (α := ([], α.2)) a0 rfl)
  | 16, _ => exact go (l_ty16 (α := ([], α.2)) a0 rfl)
  | 17, _ => exact go (l_ty17 (α := ([], α.2)) a0 rfl)
  | 18, _ => exact go (l_ty18 (α := ([], α.2)) a0 rfl)
  | w + 19, z => omega
end
