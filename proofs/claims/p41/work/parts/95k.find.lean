/-! the class: keep, find, findStart, findEnd, isSound -/
section
variable {h : jw_H} {α : pzA} {n : Int}
theorem c_keep_b56 {k : Int} {h0 : jw_H} (C0 : pwC h0) (Tp0 : pwTp h0 α.1) (k0 : 0 ≤ k) (k4 : k < 4) (T : pxTp α.1) :
    ∀ (m N : Nat) (h : jw_H) (j : Int), j + m = α.1.length → 0 ≤ j → m < N → pxF (fun q _ => q = 3 + k.toNat) h0 h → (∀ y : Int, 0 ≤ y → y < j → pxM h (3 + k.toNat) y.toNat = pxE α.1 y) →
    pxW (f_X11_keep_b56 N h 0 (pxJ k) (some (3 + k.toNat)) (pxJ j)) fun v h' => v = Sum.inl (pxJ (α.1.length : Int)) ∧ pxF (fun q f => q = 3 + k.toNat ∨ (q = 7 ∧ f = k.toNat)) h0 h' ∧ (∀ y : Int, 0 ≤ y → y < α.1.length → pxM h' (3 + k.toNat) y.toNat = pxE α.1 y) ∧ pxM h' 7 k.toNat = (α.1.length : Int) := by
  have l60 := T.1
  intro m
  induction m with
  | zero =>
    intro N h j hj j0 hN F e
    obtain ⟨N, rfl, -⟩ := px_fu hN
    have C : pwC h := C0.fr F (fun f _ => by omega) (fun f => by omega)
    have Tp : pwTp h α.1 := Tp0.fr F (by omega) (fun f => by omega)
    have F7 : pxF (fun q f => q = 7 ∧ f = k.toNat) h (jw_setI h 7 k.toNat (pxJ (α.1.length : Int))) := pxF.setI ⟨rfl, rfl⟩
    have C7 : pwC (jw_setI h 7 k.toNat (pxJ (α.1.length : Int))) := C.fr F7 (fun f _ => by omega) (fun f => by omega)
    rw [u_X11_keep_b56]
    unfold g_X11_keep_b56
    rw [C.i, px_bs, Tp.1, if_pos (show pxJ (α.1.length : Int) ≤ pxJ j from (pxJ_le (by omega) (by omega) (by omega) (by omega)).mpr (by omega))]
    unfold g_X11_keep_b94
    rw [C.r (2, 7) (by decide), px_bs, C.i, px_bs, Tp.1, px_si (by rw [C.2.2.2.2.2.1]) k0 (by rw [C.2.2.2.2.2.1]; exact k4) (by omega), px_bs, C7.i, px_bs, pxM_ne (by omega), Tp.1]
    exact pxW_some.mpr ⟨rfl, (F.mono (fun q f z => Or.inl z)).trans (F7.mono (fun q f z => Or.inr z)), fun y y0 y1 => by rw [pxM_ne (by omega)]; exact e y y0 (by omega), pxM_eq (by omega) (by omega)⟩
  | succ m ih =>
    intro N h j hj j0 hN F e
    obtain ⟨N, rfl, hN⟩ := px_fu hN
    have C : pwC h := C0.fr F (fun f _ => by omega) (fun f => by omega)
    have Tp : pwTp h α.1 := Tp0.fr F (by omega) (fun f => by omega)
    have tk := (C.2.2.2.2.1 k k0 k4).2
    have t1 := C.2.2.1
    have ec := pxTp_e T j0 (show j < α.1.length by omega)
    have F7 : pxF (fun q _ => q = 3 + k.toNat) h (jw_setI h (3 + k.toNat) j.toNat (pxJ (pxE α.1 j))) := pxF.setI rfl
    rw [u_X11_keep_b56]
    unfold g_X11_keep_b56
    rw [C.i, px_bs, Tp.1, if_neg (show ¬ (pxJ (α.1.length : Int) ≤ pxJ j) from fun z => by
      have := (pxJ_le (a := (α.1.length : Int)) (b := j) (by omega) (by omega) (by omega) (by omega)).mp z
      omega), px_ln (by rw [tk]; decide), tk, px_bs, if_neg (show ¬ (pxJ ((60 : Nat) : Int) ≤ pxJ j) from fun z => by
      have := (pxJ_le (a := ((60 : Nat) : Int)) (b := j) (by omega) (by omega) (by omega) (by omega)).mp z
      omega), C.r (0, 1) (by decide), px_bs, px_ln (by rw [t1]; decide), t1, px_bs, if_neg (show ¬ (pxJ ((60 : Nat) : Int) ≤ pxJ j) from fun z => by
      have := (pxJ_le (a := ((60 : Nat) : Int)) (b := j) (by omega) (by omega) (by omega) (by omega)).mp z
      omega), px_bs, px_ai (by rw [t1]) j0 (by rw [t1]; show j < ((60 : Nat) : Int); omega) (by omega), px_bs, Tp.2 j j0 (by omega), pxJ_byte (by omega) (by omega), px_si (by rw [tk]) j0 (by rw [tk]; show j < ((60 : Nat) : Int); omega) (by omega), px_bs, show pxJ j + (1 : Int32) = pxJ (j + 1) from pxJ_add j 1]
    refine ih N _ (j + 1) (by omega) (by omega) (by omega) (F.trans F7) (fun y y0 y1 => ?_)
    by_cases c : y = j
    · rw [c, pxM_eq (by omega) (by omega)]
    · rw [pxM_ne (by omega)]; exact e y y0 (by omega)
theorem c_keep {k : Int} (A : pwA h α) (T : pxTp α.1) (k0 : -2147483648 ≤ k) (k1 : k ≤ 2147483647) : pxW (f_X11_keep h 0 (pxJ k)) fun v h' => pwY "java/lang/IndexOutOfBoundsException" "java/lang/IllegalStateException" h (pz_keep k α) v h' := by
  have C := A.1
  have X := A.2.2.2.2.2.2.2.2
  obtain ⟨h1, e, F, G, -⟩ := s_X6_readOrders X.1 (A.ta T)
  have A1 := A.qp F G.1
  have or := pxOrds_r (s := α.1) 61 0 (by omega) (by omega)
  have l60 := T.1
  unfold f_X11_keep pz_keep
  rw [px_rc C.1, px_bs, c_noScript k0 k1, px_b2]
  by_cases c : 0 ≤ k ∧ k < 4
  · rw [if_pos c, if_pos (show pxJ 0 = 0 from rfl), if_neg (show ¬ ¬ (0 ≤ k ∧ k < 4) from fun z => z c), C.r (5, 10) (by decide), px_bs, C.r (0, 1) (by decide), px_bs, C.i, px_bs, A.2.1.1, px_rc X.1.1, px_bs, e, px_b2]
    refine pxW.mono ?_ (fun v h' w => pwY.after F w)
    by_cases d : (pxOrds α.1 61 0).1 = -1
    · rw [if_pos (show pxJ (pxOrds α.1 61 0).1 = (-1 : Int32) by rw [d]; decide), if_pos d, A1.1.r (1, 2) (by decide), px_bs, A1.1.s2 c.1 c.2, px_bs, show (0 : Int32) = pxJ 0 from rfl]
      refine pxW.mono (c_keep_b56 (h0 := h1) A1.1 A1.2.1 c.1 c.2 T α.1.length jw_FU h1 0 (by omega) (by omega) (by unfold jw_FU; omega) pxF.rfl (fun y y0 y1 => by omega)) fun v h' q => ?_
      obtain ⟨ev, F2, ec, e7⟩ := q
      subst ev
      obtain ⟨C1, Tp1, Sc1, I1, Y1, D1, e13, e14, X1⟩ := A1
      refine pwY_0 (pwF.of F2 (fun q f z => by omega)) ⟨C1.fr F2 (fun f _ => by omega) (fun f => by omega), Tp1.fr F2 (by omega) (fun f => by omega), ?_, pxIT.fr I1 F2 (fun q f _ _ => by omega), pxIS.fr Y1 F2 (fun q f _ _ => by omega), D1.fr F2 (fun q f z => by omega), by rw [F2.m (by omega)]; exact e13, by rw [F2.m (by omega)]; exact e14, X1.fr F2 (fun q f _ _ => by omega)⟩
      intro j j0 j4
      obtain ⟨a, b⟩ := Sc1 j j0 j4
      by_cases g : j = k
      · refine ⟨fun z => ?_, fun s z => ?_⟩
        · have z : (if j = k then some α.1 else α.2.1 j) = none := z
          rw [if_pos g] at z
          cases z
        · have z : (if j = k then some α.1 else α.2.1 j) = some s := z
          rw [if_pos g] at z
          have z := Option.some.inj z
          rw [← z, g]
          exact ⟨e7, ec⟩
      · refine ⟨fun z => ?_, fun s z => ?_⟩
        · have z : (if j = k then some α.1 else α.2.1 j) = none := z
          rw [if_neg g] at z
          rw [F2.m (by omega)]
          exact a z
        · have z : (if j = k then some α.1 else α.2.1 j) = some s := z
          rw [if_neg g] at z
          obtain ⟨b1, b2⟩ := b s z
          exact ⟨by rw [F2.m (by omega)]; exact b1, fun y y0 y1 => by rw [F2.m (by omega)]; exact b2 y y0 y1⟩
    · rw [if_neg (show ¬ (pxJ (pxOrds α.1 61 0).1 = (-1 : Int32)) from fun z => by
        rw [show (-1 : Int32) = pxJ (-1) by decide] at z
        exact d ((pxJ_eq (by omega) (by omega) (by omega) (by omega)).mp z)), if_neg d]
      exact pxW_some.mpr (pwY_2 A1)
  · rw [if_neg c, if_neg (show ¬ (pxJ 1 = 0) by decide), if_pos c]
    exact pxW_some.mpr (pwY_1 A)
theorem pwA.qx {h' : jw_H} (A : pwA h α) (F : pxF pxQx h h') : pwA h' α := by
  obtain ⟨C, Tp, Sc, I, Y, D, e13, e14, p, ⟨rep, a⟩, s, b⟩ := A
  exact ⟨C.fr F (fun f _ => by unfold pxQx; omega) (fun f => by unfold pxQx; omega), Tp.fr F (by unfold pxQx; omega) (fun f => by unfold pxQx; omega), Sc.fr F (fun k f _ _ => by unfold pxQx; omega), pxIT.fr I F (fun k f _ _ => by unfold pxQx; omega), pxIS.fr Y F (fun k f _ _ => by unfold pxQx; omega), D.fr F (fun k f z => by unfold pxQx; omega), by rw [F.m (by unfold pxQx; omega)]; exact e13, by rw [F.m (by unfold pxQx; omega)]; exact e14, p.fr F (fun k f z => by unfold pxQx; omega), ⟨rep, a.fr F (fun k f z => by unfold pxQx; omega)⟩, s.fr F (fun k f _ _ => by unfold pxQx; omega), b.fr F (fun k f z => by unfold pxQx; omega)⟩
theorem pwF.qx {h' : jw_H} (F : pxF pxQx h h') : pwF h h' := pwF.of F (fun k f z => by unfold pxQx at z; omega)
theorem pwA.pe (A : pwA h α) (T : pxTp α.1) (d : pxTpF α.1 = -1) (q1 : pxEls h α.1 0 (pxFull α.1 0)) (q2 : pxM h 10 7 = ((pxFull α.1 0).length : Int)) : pxPE h α.1 0 ((pxFull α.1 0).length : Int) (pxFull α.1 0) := by
  have l60 := T.1
  obtain ⟨ok, -⟩ := pyTp_ok d
  obtain ⟨b1, b2, b3⟩ := pxPat_b (s := α.1) (p := 0) (by omega) (by omega)
  have b4 := (b3 ok).2
  exact ⟨A.2.2.2.2.2.2.2.2.1, q2, by omega, by omega, by omega, q1⟩
theorem c_find {back : Bool} (A : pwA h α) (T : pxTp α.1) (IV : pxInv α.2.2.1) : pxW (f_X11_find h 0 (pxJ (if back = true then 1 else 0))) fun v h' => pwY "java/lang/IllegalStateException" "" h (pz_find back α) v h' := by
  have C := A.1
  have X := A.2.2.2.2.2.2.2.2
  obtain ⟨h1, e, F, G, q⟩ := s_X6_readTapePattern X.1 (A.ta T)
  have A1 := A.qp F G.1
  have or := pxTpF_r (s := α.1)
  have l60 := T.1
  unfold f_X11_find pz_find
  rw [C.r (5, 10) (by decide), px_bs, C.r (0, 1) (by decide), px_bs, C.i, px_bs, A.2.1.1, px_rc X.1.1, px_bs, e, px_b2]
  refine pxW.mono ?_ (fun v h' w => pwY.after F w)
  by_cases d : pxTpF α.1 = -1
  · obtain ⟨q1, q2⟩ := q d
    obtain ⟨ok, -⟩ := pyTp_ok d
    have W := (pxFull_w ok).1
    have aux := A1.2.2.2.2.2.2.2.2.2.1
    obtain ⟨rep, aux⟩ := aux
    have I1 := A1.2.2.2.1
    obtain ⟨h2, e2, F2⟩ := s_X4_lineWith (back := back) (by omega) (by omega) W aux.2.1 I1 IV.2.2.1 IV.2.2.2.1 (A1.pe T d q1 q2)
    rw [if_pos (show pxJ (pxTpF α.1) = (-1 : Int32) by rw [d]; decide), if_pos d, A1.1.r (8, 531) (by decide), px_bs, A1.1.r (6, 255) (by decide), px_bs, px_rc aux.2.1.1, px_bs, show (0 : Int32) = pxJ 0 from rfl, e2, px_b2]
    exact pxW_some.mpr (pwY_0 (pwF.qx F2) (A1.qx F2))
  · rw [if_neg (show ¬ (pxJ (pxTpF α.1) = (-1 : Int32)) from fun z => by
      rw [show (-1 : Int32) = pxJ (-1) by decide] at z
      exact d ((pxJ_eq (by omega) (by omega) (by omega) (by omega)).mp z)), if_neg d]
    exact pxW_some.mpr (pwY_1 A1)
theorem c_findStart {x : Int} (A : pwA h α) (T : pxTp α.1) (x0 : -2147483648 ≤ x) (x1 : x ≤ 2147483647) : pxW (f_X11_findStart h 0 (pxJ x)) fun v h' => pwY "java/lang/IndexOutOfBoundsException" "java/lang/IllegalStateException" h (pz_fse false x α) v h' := by
  have C := A.1
  have X := A.2.2.2.2.2.2.2.2
  have I := A.2.2.2.1
  have or := pxTpF_r (s := α.1)
  have l60 := T.1
  have l40 := I.len
  unfold f_X11_findStart pz_fse
  rw [C.r (6, 255) (by decide), px_bs, px_gR I.1.1, I.1.2.1, px_bs, px_rc I.2.1.1.1, px_bs, s_X7_has I.2.1 x0 x1, px_b2, pxRs_len]
  by_cases c : 1 ≤ x ∧ x ≤ (α.2.2.1.1.length : Int)
  · obtain ⟨h1, e, F, G, q⟩ := s_X6_readTapePattern X.1 (A.ta T)
    have A1 := A.qp F G.1
    rw [if_pos c, if_neg (show ¬ (pxJ 1 = 0) by decide), if_neg (show ¬ ¬ (1 ≤ x ∧ x ≤ (α.2.2.1.1.length : Int)) from fun z => z c), C.r (5, 10) (by decide), px_bs, C.r (0, 1) (by decide), px_bs, C.i, px_bs, A.2.1.1, px_rc X.1.1, px_bs, e, px_b2]
    refine pxW.mono ?_ (fun v h' w => pwY.after F w)
    by_cases d : pxTpF α.1 = -1
    · obtain ⟨q1, q2⟩ := q d
      obtain ⟨ok, -⟩ := pyTp_ok d
      have W := (pxFull_w ok).1
      have aux := A1.2.2.2.2.2.2.2.2.2.1
      obtain ⟨rep, aux⟩ := aux
      have I1 := A1.2.2.2.1
      obtain ⟨h2, e2, F2, w2⟩ := s_X4_holds (by omega) (by omega) aux.2.1 I1.2.1 c.1 (by rw [pxRs_len]; exact c.2) W (A1.pe T d q1 q2)
      have M2 := aux.2.1.fx F2
      rw [if_pos (show pxJ (pxTpF α.1) = (-1 : Int32) by rw [d]; decide), if_pos d, A1.1.r (8, 531) (by decide), px_bs, A1.1.r (6, 255) (by decide), px_bs, px_gR I1.1.1, I1.1.2.1, px_bs, px_rc aux.2.1.1, px_bs, show (0 : Int32) = pxJ 0 from rfl, e2, px_b2]
      unfold g_X11_findStart_b83
      have A2 := A1.qx F2
      cases ef : pxFind α.1 (pxRw (pxRs α.2.2.1.1) x) (pxFull α.1 0) 0 false with
      | none =>
        rw [if_neg (show ¬ pxHolds α.1 (pxFull α.1 0) (pxRw (pxRs α.2.2.1.1) x) = true from fun z => absurd ((congrArg Option.isSome ef).symm.trans z) (by decide)), if_pos rfl, show (-1 : Int32) = pxJ (-1) by decide]
        exact pxW_some.mpr (pwY_0 (pwF.qx F2) A2)
      | some w =>
        obtain ⟨a, b, o, cl⟩ := w
        obtain ⟨m1, m2⟩ := w2 a b o cl ef
        rw [if_pos (show pxHolds α.1 (pxFull α.1 0) (pxRw (pxRs α.2.2.1.1) x) = true from congrArg Option.isSome ef), if_neg (show ¬ (pxJ 1 = pxJ 0) by decide), A2.1.r (8, 531) (by decide), px_bs, px_gI M2.1, px_bs, m1]
        exact pxW_some.mpr (pwY_0 (pwF.qx F2) A2)
    · rw [if_neg (show ¬ (pxJ (pxTpF α.1) = (-1 : Int32)) from fun z => by
        rw [show (-1 : Int32) = pxJ (-1) by decide] at z
        exact d ((pxJ_eq (by omega) (by omega) (by omega) (by omega)).mp z)), if_neg d]
      exact pxW_some.mpr (pwY_2 A1)
  · rw [if_neg c, if_pos (show pxJ 0 = 0 from rfl), if_pos c]
    exact pxW_some.mpr (pwY_1 A)
theorem c_findEnd {x : Int} (A : pwA h α) (T : pxTp α.1) (x0 : -2147483648 ≤ x) (x1 : x ≤ 2147483647) : pxW (f_X11_findEnd h 0 (pxJ x)) fun v h' => pwY "java/lang/IndexOutOfBoundsException" "java/lang/IllegalStateException" h (pz_fse true x α) v h' := by
  have C := A.1
  have X := A.2.2.2.2.2.2.2.2
  have I := A.2.2.2.1
  have or := pxTpF_r (s := α.1)
  have l60 := T.1
  have l40 := I.len
  unfold f_X11_findEnd pz_fse
  rw [C.r (6, 255) (by decide), px_bs, px_gR I.1.1, I.1.2.1, px_bs, px_rc I.2.1.1.1, px_bs, s_X7_has I.2.1 x0 x1, px_b2, pxRs_len]
  by_cases c : 1 ≤ x ∧ x ≤ (α.2.2.1.1.length : Int)
  · obtain ⟨h1, e, F, G, q⟩ := s_X6_readTapePattern X.1 (A.ta T)
    have A1 := A.qp F G.1
    rw [if_pos c, if_neg (show ¬ (pxJ 1 = 0) by decide), if_neg (show ¬ ¬ (1 ≤ x ∧ x ≤ (α.2.2.1.1.length : Int)) from fun z => z c), C.r (5, 10) (by decide), px_bs, C.r (0, 1) (by decide), px_bs, C.i, px_bs, A.2.1.1, px_rc X.1.1, px_bs, e, px_b2]
    refine pxW.mono ?_ (fun v h' w => pwY.after F w)
    by_cases d : pxTpF α.1 = -1
    · obtain ⟨q1, q2⟩ := q d
      obtain ⟨ok, -⟩ := pyTp_ok d
      have W := (pxFull_w ok).1
      have aux := A1.2.2.2.2.2.2.2.2.2.1
      obtain ⟨rep, aux⟩ := aux
      have I1 := A1.2.2.2.1
      obtain ⟨h2, e2, F2, w2⟩ := s_X4_holds (by omega) (by omega) aux.2.1 I1.2.1 c.1 (by rw [pxRs_len]; exact c.2) W (A1.pe T d q1 q2)
      have M2 := aux.2.1.fx F2
      rw [if_pos (show pxJ (pxTpF α.1) = (-1 : Int32) by rw [d]; decide), if_pos d, A1.1.r (8, 531) (by decide), px_bs, A1.1.r (6, 255) (by decide), px_bs, px_gR I1.1.1, I1.1.2.1, px_bs, px_rc aux.2.1.1, px_bs, show (0 : Int32) = pxJ 0 from rfl, e2, px_b2]
      unfold g_X11_findEnd_b83
      have A2 := A1.qx F2
      cases ef : pxFind α.1 (pxRw (pxRs α.2.2.1.1) x) (pxFull α.1 0) 0 false with
      | none =>
        rw [if_neg (show ¬ pxHolds α.1 (pxFull α.1 0) (pxRw (pxRs α.2.2.1.1) x) = true from fun z => absurd ((congrArg Option.isSome ef).symm.trans z) (by decide)), if_pos rfl, show (-1 : Int32) = pxJ (-1) by decide]
        exact pxW_some.mpr (pwY_0 (pwF.qx F2) A2)
      | some w =>
        obtain ⟨a, b, o, cl⟩ := w
        obtain ⟨m1, m2⟩ := w2 a b o cl ef
        rw [if_pos (show pxHolds α.1 (pxFull α.1 0) (pxRw (pxRs α.2.2.1.1) x) = true from congrArg Option.isSome ef), if_neg (show ¬ (pxJ 1 = pxJ 0) by decide), A2.1.r (8, 531) (by decide), px_bs, px_gI M2.1, px_bs, m2]
        exact pxW_some.mpr (pwY_0 (pwF.qx F2) A2)
    · rw [if_neg (show ¬ (pxJ (pxTpF α.1) = (-1 : Int32)) from fun z => by
        rw [show (-1 : Int32) = pxJ (-1) by decide] at z
        exact d ((pxJ_eq (by omega) (by omega) (by omega) (by omega)).mp z)), if_neg d]
      exact pxW_some.mpr (pwY_2 A1)
  · rw [if_neg c, if_pos (show pxJ 0 = 0 from rfl), if_pos c]
    exact pxW_some.mpr (pwY_1 A)
theorem s_X9_isWell_b133 {T : pxTx} (I : pxIX h T) (IV : pxInv T) (nb : T.2.2.2 ≤ 2147483647) : ∀ (m N : Nat) (j : Int), j + m = 5 → 0 ≤ j → m < N → f_X9_isWell_b133 N h 255 (pxJ j) = some (pxJ 1, h) := by
  have l40 := I.len
  obtain ⟨nd, rg, mk⟩ := pyIds_nd IV
  intro m
  induction m with
  | zero =>
    intro N j hj j0 hN
    obtain ⟨N, rfl, -⟩ := px_fu hN
    rw [u_X9_isWell_b133]
    unfold g_X9_isWell_b133
    rw [if_pos (show (5 : Int32) ≤ pxJ j from (pxJ_le (a := 5) (b := j) (by omega) (by omega) (by omega) (by omega)).mpr (by omega))]
    rfl
  | succ m ih =>
    intro N j hj j0 hN
    obtain ⟨N, rfl, hN⟩ := px_fu hN
    have nx := ih N (j + 1) (by omega) (by omega) (by omega)
    rw [u_X9_isWell_b133]
    unfold g_X9_isWell_b133 g_X9_isWell_b158
    rw [if_neg (show ¬ ((5 : Int32) ≤ pxJ j) from fun y => by
      have := (pxJ_le (a := 5) (b := j) (by omega) (by omega) (by omega) (by omega)).mp y
      omega), px_rc I.1.1, px_bs, s_X9_markedId I (by omega) (by omega), px_b2, if_pos (show 0 ≤ j ∧ j < 5 from ⟨j0, by omega⟩), show pxJ j + (1 : Int32) = pxJ (j + 1) from pxJ_add j 1]
    by_cases c : T.2.1 j = -1
    · rw [c, if_pos (show pxJ (-1) = (-1 : Int32) by decide)]
      exact nx
    · have mm := (mk j j0 (by omega)).resolve_left c
      have r := rg _ mm
      have n1 : ¬ pxNo T.1 (T.2.1 j) = -1 := fun z => pxNo_mem.mp z mm
      have nin := pxNo_in T.1 (T.2.1 j)
      rw [if_neg (show ¬ (pxJ (T.2.1 j) = (-1 : Int32)) from fun z => by
        rw [show (-1 : Int32) = pxJ (-1) by decide] at z
        exact c ((pxJ_eq (by omega) (by omega) (by omega) (by omega)).mp z)), px_rc I.1.1, px_bs, s_X9_markedLine I j0 (by omega), px_b2, if_neg c, if_neg (show ¬ (pxJ (pxNo T.1 (T.2.1 j)) = (-1 : Int32)) from fun z => by
        rw [show (-1 : Int32) = pxJ (-1) by decide] at z
        exact n1 ((pxJ_eq (by omega) (by omega) (by omega) (by omega)).mp z))]
      exact nx
theorem s_X9_isWell_b66 {T : pxTx} (I : pxIX h T) (IV : pxInv T) (nb : T.2.2.2 ≤ 2147483647) : ∀ (m N : Nat) (x : Int), x + m = T.1.length + 1 → 1 ≤ x → m < N → f_X9_isWell_b66 N h 255 (pxJ x) = some (pxJ 1, h) := by
  have l40 := I.len
  obtain ⟨nd, rg, mk⟩ := pyIds_nd IV
  intro m
  induction m with
  | zero =>
    intro N x hx x1 hN
    obtain ⟨N, rfl, -⟩ := px_fu hN
    rw [u_X9_isWell_b66]
    unfold g_X9_isWell_b66
    rw [px_gR I.1.1, I.1.2.1, px_bs, px_gI I.2.1.1.1, px_bs, I.c2, if_pos (show pxJ (T.1.length : Int) < pxJ x from (pxJ_lt (by omega) (by omega) (by omega) (by omega)).mpr (by omega)), show (0 : Int32) = pxJ 0 from rfl]
    exact s_X9_isWell_b133 I IV nb 5 jw_FU 0 (by omega) (by omega) (by unfold jw_FU; omega)
  | succ m ih =>
    intro N x hx x1 hN
    obtain ⟨N, rfl, hN⟩ := px_fu hN
    have nx := ih N (x + 1) (by omega) (by omega) (by omega)
    have mm : (pxAt T.1 x).1 ∈ pxIds T.1 := List.mem_map_of_mem (pxG_mem (by omega) (by omega))
    have r := rg _ mm
    have no : pxNo T.1 (pxAt T.1 x).1 = x := by
      unfold pxNo
      rw [pxNoF_at T.1 1 x nd (by omega) (by omega)]
      omega
    have ln0 := pxLn_0 (pxRs T.1) x
    have ln1 := pxLn_le I.2.1.2.2.1 x
    rw [u_X9_isWell_b66]
    unfold g_X9_isWell_b66
    rw [px_gR I.1.1, I.1.2.1, px_bs, px_gI I.2.1.1.1, px_bs, I.c2, if_neg (show ¬ (pxJ (T.1.length : Int) < pxJ x) from fun z => by
      have := (pxJ_lt (a := (T.1.length : Int)) (b := x) (by omega) (by omega) (by omega) (by omega)).mp z
      omega), px_bs, px_rc I.2.1.1.1, px_bs, s_X7_lengthOf I.2.1 (by omega) (by omega), px_b2, pxLnA_t (by rw [pxRs_len]; omega), px_rc I.1.1, px_bs, s_X9_idOf I (by omega) (by omega), px_b2, if_pos (show 1 ≤ x ∧ x ≤ (T.1.length : Int) by omega), if_neg (show ¬ (pxJ (pxLn (pxRs T.1) x) < 0) from fun z => by
      have := (pxJ_lt (a := pxLn (pxRs T.1) x) (b := 0) (by omega) (by omega) (by omega) (by omega)).mp z
      omega), if_neg (show ¬ ((30 : Int32) < pxJ (pxLn (pxRs T.1) x)) from fun z => by
      have := (pxJ_lt (a := 30) (b := pxLn (pxRs T.1) x) (by omega) (by omega) (by omega) (by omega)).mp z
      omega), if_neg (show ¬ (pxJ (pxAt T.1 x).1 < 0) from fun z => by
      have := (pxJ_lt (a := (pxAt T.1 x).1) (b := 0) (by omega) (by omega) (by omega) (by omega)).mp z
      omega), px_gI I.1.1, px_bs, I.2.2.2.2.2, if_neg (show ¬ (pxJ T.2.2.2 ≤ pxJ (pxAt T.1 x).1) from fun z => by
      have := (pxJ_le (a := T.2.2.2) (b := (pxAt T.1 x).1) (by omega) (by omega) (by omega) (by omega)).mp z
      omega), px_rc I.1.1, px_bs, s_X9_numberOf I (id := (pxAt T.1 x).1) (by omega) (by omega), px_b2, no, if_pos rfl, show pxJ x + (1 : Int32) = pxJ (x + 1) from pxJ_add x 1]
    exact nx
theorem s_X9_isWell {T : pxTx} (I : pxIX h T) (IV : pxInv T) (nb : T.2.2.2 ≤ 2147483647) : f_X9_isWell h 255 = some (pxJ 1, h) := by
  have l40 := I.len
  have i1 := IV.2.2.1
  have i2 := IV.2.2.2.1
  have i3 := IV.2.2.2.2.1
  have fin : g_X9_isWell_b64 h 255 = some (pxJ 1, h) := by
    unfold g_X9_isWell_b64
    rw [show (1 : Int32) = pxJ 1 from rfl]
    exact s_X9_isWell_b66 I IV nb T.1.length jw_FU 1 (by omega) (by omega) (by unfold jw_FU; omega)
  unfold f_X9_isWell
  rw [fin, px_gR I.1.1, I.1.2.1, px_bs, px_gI I.2.1.1.1, px_bs, I.c2, if_neg (show ¬ (pxJ (T.1.length : Int) < 0) from fun z => by
    have := (pxJ_lt (a := (T.1.length : Int)) (b := 0) (by omega) (by omega) (by omega) (by omega)).mp z
    omega), px_bs, px_gI I.2.1.1.1, px_bs, I.c2, if_neg (show ¬ ((40 : Int32) < pxJ (T.1.length : Int)) from fun z => by
    have := (pxJ_lt (a := 40) (b := (T.1.length : Int)) (by omega) (by omega) (by omega) (by omega)).mp z
    omega), px_gI I.1.1, px_bs, I.2.2.2.2.1, if_neg (show ¬ (pxJ T.2.2.1 < 0) from fun z => by
    have := (pxJ_lt (a := T.2.2.1) (b := 0) (by omega) (by omega) (by omega) (by omega)).mp z
    omega), px_bs, px_bs, px_gI I.2.1.1.1, px_bs, I.c2, if_pos (show pxJ T.2.2.1 ≤ pxJ (T.1.length : Int) from (pxJ_le (by omega) (by omega) (by omega) (by omega)).mpr (by omega)), px_bs]
  by_cases c : T.2.2.1 = 0
  · rw [if_pos (show pxJ T.2.2.1 = 0 by rw [c]; rfl), px_bs, px_gI I.2.1.1.1, px_bs, I.c2, if_pos (show pxJ (T.1.length : Int) ≤ 0 from (pxJ_le (a := (T.1.length : Int)) (b := 0) (by omega) (by omega) (by omega) (by omega)).mpr (by omega))]
  · rw [if_neg (show ¬ (pxJ T.2.2.1 = 0) from fun z => c ((pxJ_eq (a := T.2.2.1) (b := 0) (by omega) (by omega) (by omega) (by omega)).mp z))]
theorem c_isSound (A : pwA h α) (IV : pxInv α.2.2.1) (nb : α.2.2.1.2.2.2 ≤ 2147483647) : pxW (f_X11_isSound h 0) fun v h' => pwZ h (pz_isSound α) v h' := by
  have C := A.1
  have I := A.2.2.2.1
  have Y := A.2.2.2.2.1
  unfold f_X11_isSound g_X11_isSound_b25 g_X11_isSound_b24
  rw [C.r (6, 255) (by decide), px_bs, px_rc I.1.1, px_bs, s_X9_isWell I IV nb, px_b2, if_neg (show ¬ (pxJ 1 = 0) by decide), C.r (7, 261) (by decide), px_bs, px_rc Y.1.1, px_bs, s_X8_isWell Y, px_b2, if_neg (show ¬ (pxJ 1 = 0) by decide), show (1 : Int32) = pxJ 1 from rfl, px_rb1, px_bs]
  exact pxW_some.mpr ⟨pwF.rfl, rfl, rfl, A⟩
end
