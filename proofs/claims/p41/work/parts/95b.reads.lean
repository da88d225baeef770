/-! the class: what is read, and small changes -/
section
variable {h : jw_H} {α : pzA} {n : Int}
theorem py01 : ¬ ((0 : Int) = 1) ∧ ¬ ((0 : Int) = 2) ∧ ¬ ((1 : Int) = 0) ∧ ¬ ((1 : Int) = 2) ∧ ¬ ((2 : Int) = 0) ∧ ¬ ((2 : Int) = 1) := by decide
theorem pwY_0 {E1 E2 : String} {v : Int} {α' : pzA} {h' : jw_H} (F : pwF h h') (A : pwA h' α') : pwY E1 E2 h (0, v, α') (.inl (pxJ v)) h' := ⟨F, fun _ => rfl, fun z => absurd z py01.1, fun z => absurd z py01.2.1, A⟩
theorem pwY_1 {E1 E2 : String} {v : Int} (A : pwA h α) : pwY E1 E2 h (1, v, α) (.inr E1) (jw_thw h) := ⟨pwF.thw, fun z => absurd z py01.2.2.1, fun _ => rfl, fun z => absurd z py01.2.2.2.1, A⟩
theorem pwY_2 {E1 E2 : String} {v : Int} (A : pwA h α) : pwY E1 E2 h (2, v, α) (.inr E2) (jw_thw h) := ⟨pwF.thw, fun z => absurd z py01.2.2.2.2.1, fun z => absurd z py01.2.2.2.2.2, fun _ => rfl, A⟩
theorem c_len {K : jw_H → Option ((Int32 ⊕ String) × jw_H)} {ρ cap : Nat} {rs : List (List Int)} {x : Int} (A : pwA h α) (R : pxIR h ρ cap rs) (x0 : -2147483648 ≤ x) (x1 : x ≤ 2147483647) (hK : K h = some (.inl (pxJ (pxLnA rs x)), h)) :
    pxW (jw_b2 (f_X7_has h ρ (pxJ x)) fun w5 h4 => if w5 = 0 then some (Sum.inr "java/lang/IndexOutOfBoundsException", jw_thw h4) else K h4) fun v h' => pwY "java/lang/IndexOutOfBoundsException" "" h (pz_len rs x α) v h' := by
  unfold pz_len
  rw [s_X7_has R x0 x1, px_b2]
  by_cases c : 1 ≤ x ∧ x ≤ (rs.length : Int)
  · rw [if_pos c, if_pos c, if_neg (show ¬ (pxJ 1 = 0) by decide), hK, pxLnA_t c]
    exact pxW_some.mpr (pwY_0 pwF.rfl A)
  · rw [if_neg c, if_neg c, if_pos (show pxJ 0 = 0 from rfl)]
    exact pxW_some.mpr (pwY_1 A)
theorem c_sg {ρ cap : Nat} {rs : List (List Int)} {x y : Int} (A : pwA h α) (R : pxIR h ρ cap rs) (x0 : -2147483648 ≤ x) (x1 : x ≤ 2147483647) (y0 : -2147483648 ≤ y) (y1 : y ≤ 2147483647) :
    pxW (jw_b2 (f_X7_signAt h ρ (pxJ x) (pxJ y)) fun w5 h4 => if w5 = (-1 : Int32) then some (Sum.inr "java/lang/IndexOutOfBoundsException", jw_thw h4) else some (Sum.inl w5, h4)) fun v h' => pwY "java/lang/IndexOutOfBoundsException" "" h (pz_at rs x y α) v h' := by
  unfold pz_at
  rw [s_X7_signAt R x0 x1 y0 y1, px_b2]
  by_cases c : 1 ≤ x ∧ x ≤ (rs.length : Int) ∧ 0 ≤ y ∧ y < pxLn rs x
  · have ch := pxE_ch (pxRw_or R.2.2.1 x) c.2.2.1 c.2.2.2
    unfold pxCh at ch
    rw [pxSgA_t c, if_pos c, if_neg (show ¬ (pxJ (pxSg rs x y) = (-1 : Int32)) from fun z => by
      rw [show (-1 : Int32) = pxJ (-1) by decide] at z
      have := (pxJ_eq (a := pxE (pxRw rs x) y) (b := -1) (by omega) (by omega) (by omega) (by omega)).mp z
      omega)]
    exact pxW_some.mpr (pwY_0 pwF.rfl A)
  · rw [pxSgA_f c, if_neg c, if_pos (show pxJ (-1) = (-1 : Int32) by decide)]
    exact pxW_some.mpr (pwY_1 A)
theorem c_at {x y : Int} (A : pwA h α) (x0 : -2147483648 ≤ x) (x1 : x ≤ 2147483647) (y0 : -2147483648 ≤ y) (y1 : y ≤ 2147483647) : pxW (f_X11_at h 0 (pxJ x) (pxJ y)) fun v h' => pwY "java/lang/IndexOutOfBoundsException" "" h (pz_at (pxRs α.2.2.1.1) x y α) v h' := by
  have X := A.2.2.2.1
  unfold f_X11_at
  rw [A.1.r (6, 255) (by decide), px_bs, px_gR X.1.1, X.1.2.1, px_bs, px_rc X.2.1.1.1, px_bs]
  exact c_sg A X.2.1 x0 x1 y0 y1
theorem c_deeds (A : pwA h α) : pxW (f_X11_deeds h 0) fun v h' => pwZ h (pz_deeds α) v h' := by
  obtain ⟨B, S, -, -, -, m3, -⟩ := A.2.2.2.2.2.1
  unfold f_X11_deeds
  rw [A.1.r (11, 282) (by decide), px_bs, px_gI S.1, px_bs, m3]
  exact pxW_some.mpr ⟨pwF.rfl, rfl, rfl, A⟩
theorem c_id {x : Int} (A : pwA h α) (x0 : -2147483648 ≤ x) (x1 : x ≤ 2147483647) : pxW (f_X11_id h 0 (pxJ x)) fun v h' => pwY "java/lang/IndexOutOfBoundsException" "" h (pz_id x α) v h' := by
  have X := A.2.2.2.1
  unfold f_X11_id pz_id
  rw [A.1.r (6, 255) (by decide), px_bs, px_gR X.1.1, X.1.2.1, px_bs, px_rc X.2.1.1.1, px_bs, s_X7_has X.2.1 x0 x1, px_b2, pxRs_len]
  by_cases c : 1 ≤ x ∧ x ≤ (α.2.2.1.1.length : Int)
  · rw [if_pos c, if_pos c, if_neg (show ¬ (pxJ 1 = 0) by decide), A.1.r (6, 255) (by decide), px_bs, px_rc X.1.1, px_bs, s_X9_idOf X x0 x1, px_b2, if_pos c]
    exact pxW_some.mpr (pwY_0 pwF.rfl A)
  · rw [if_neg c, if_neg c, if_pos (show pxJ 0 = 0 from rfl)]
    exact pxW_some.mpr (pwY_1 A)
theorem c_mark {k : Int} (A : pwA h α) (k0 : -2147483648 ≤ k) (k1 : k ≤ 2147483647) : pxW (f_X11_mark h 0 (pxJ k)) fun v h' => pwY "java/lang/IndexOutOfBoundsException" "" h (pz_mark k α) v h' := by
  have X := A.2.2.2.1
  unfold f_X11_mark g_X11_mark_b9 pz_mark
  by_cases a : k < 0
  · rw [if_pos (show pxJ k < (0 : Int32) from (pxJ_lt (a := k) (b := 0) k0 k1 (by omega) (by omega)).mpr a), if_neg (show ¬ (0 ≤ k ∧ k < 5) by omega)]
    exact pxW_some.mpr (pwY_1 A)
  rw [if_neg (show ¬ (pxJ k < (0 : Int32)) from fun z => a ((pxJ_lt (a := k) (b := 0) k0 k1 (by omega) (by omega)).mp z))]
  by_cases b : k < 5
  · rw [if_pos (show pxJ k < (5 : Int32) from (pxJ_lt (a := k) (b := 5) k0 k1 (by omega) (by omega)).mpr b), if_pos (show 0 ≤ k ∧ k < 5 by omega), A.1.r (6, 255) (by decide), px_bs, px_rc X.1.1, px_bs, s_X9_markedLine X (by omega) b, px_b2]
    exact pxW_some.mpr (pwY_0 pwF.rfl A)
  · rw [if_neg (show ¬ (pxJ k < (5 : Int32)) from fun z => b ((pxJ_lt (a := k) (b := 5) k0 k1 (by omega) (by omega)).mp z)), if_neg (show ¬ (0 ≤ k ∧ k < 5) by omega)]
    exact pxW_some.mpr (pwY_1 A)
theorem pwC.fr {P : Nat → Nat → Prop} {h' : jw_H} (C : pwC h) (F : pxF P h h') (n0 : ∀ f, f < 12 → ¬ P 0 f) (n2 : ∀ f, ¬ P 2 f) : pwC h' := by
  obtain ⟨c0, c1, c2, c3, c4, c5⟩ := C
  have b : ∀ q ∈ pwTb, q.1 < 12 := by decide
  refine ⟨by rw [F.t]; exact c0, fun q hq => by rw [F.r (n0 _ (b q hq))]; exact c1 q hq, by rw [F.t]; exact c2, by rw [F.t]; exact c3, fun k k0 k4 => ⟨by rw [F.r (n2 _)]; exact (c4 k k0 k4).1, by rw [F.t]; exact (c4 k k0 k4).2⟩, by rw [F.t]; exact c5.1, by rw [F.t]; exact c5.2.1, by rw [F.t]; exact c5.2.2⟩
theorem pwTp.fr {P : Nat → Nat → Prop} {h' : jw_H} {t : List Int} (A : pwTp h t) (F : pxF P h h') (n : ¬ P 0 12) (n1 : ∀ f, ¬ P 1 f) : pwTp h' t := ⟨by rw [F.m n]; exact A.1, fun j j0 j1 => by rw [F.m (n1 _)]; exact A.2 j j0 j1⟩
theorem pwSc.fr {P : Nat → Nat → Prop} {h' : jw_H} {sc : Int → Option (List Int)} (A : pwSc h sc) (F : pxF P h h') (n : ∀ k f, 3 ≤ k → k ≤ 7 → ¬ P k f) : pwSc h' sc := by
  intro k k0 k4
  obtain ⟨a, b⟩ := A k k0 k4
  refine ⟨fun z => by rw [F.m (n _ _ (by omega) (by omega))]; exact a z, fun s z => ?_⟩
  obtain ⟨b1, b2⟩ := b s z
  exact ⟨by rw [F.m (n _ _ (by omega) (by omega))]; exact b1, fun j j0 j1 => by rw [F.m (n _ _ (by omega) (by omega))]; exact b2 j j0 j1⟩
theorem pwX.fr {P : Nat → Nat → Prop} {h' : jw_H} (A : pwX h) (F : pxF P h h') (n : ∀ k f, 10 ≤ k → k ≤ 586 → ¬ P k f) : pwX h' := by
  obtain ⟨p, ⟨rep, a⟩, s, b⟩ := A
  exact ⟨p.fr F (fun k f z => n k f (by omega) (by omega)), ⟨rep, a.fr F (fun k f z => n k f (by omega) (by omega))⟩, s.fr F (fun k f z1 z2 => n k f (by omega) (by omega)), b.fr F (fun k f z => n k f (by omega) (by omega))⟩
theorem pwX.thw : pwX h → pwX (jw_thw h) := id
theorem c_wipe (A : pwA h α) : pxW (f_X11_wipe h 0) fun v h' => pwZ h (pz_wipe α) v h' := by
  obtain ⟨C, Tp, Sc, I, Y, D, e13, e14, X⟩ := A
  have F : pxF (fun k f => k = 0 ∧ f = 12) h (jw_setI h 0 12 (pxJ 0)) := pxF.setI ⟨rfl, rfl⟩
  unfold f_X11_wipe
  rw [C.i, px_bs, Tp.1, show (0 : Int32) = pxJ 0 from rfl, px_pI C.1, px_bs]
  refine pxW_some.mpr ⟨pwF.of F (fun k f z => by omega), rfl, rfl, C.fr F (fun f a => by omega) (fun f => by omega), ⟨by rw [pxM_eq (by omega) (by omega)]; rfl, fun j j0 j1 => by
    have : j < 0 := j1
    omega⟩, Sc.fr F (fun k f _ _ => by omega), I.fr F (fun k f _ _ => by omega), pxIS.fr Y F (fun k f _ _ => by omega), D.fr F (fun k f z => by omega), by rw [F.m (by omega)]; exact e13, by rw [F.m (by omega)]; exact e14, X.fr F (fun k f _ _ => by omega)⟩
end
