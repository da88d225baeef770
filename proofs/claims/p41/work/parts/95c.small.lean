/-! the class: faults, small changes, scripts and files read -/
section
variable {h : jw_H} {α : pzA} {n : Int}
theorem pwA.qp {h' : jw_H} (A : pwA h α) (F : pxF pxQp h h') (S : pxPS h') : pwA h' α := by
  obtain ⟨C, Tp, Sc, I, Y, D, e13, e14, -, ⟨rep, a⟩, s, b⟩ := A
  exact ⟨C.fr F (fun f _ => by unfold pxQp; omega) (fun f => by unfold pxQp; omega), Tp.fr F (by unfold pxQp; omega) (fun f => by unfold pxQp; omega), Sc.fr F (fun k f _ _ => by unfold pxQp; omega), I.fr F (fun k f _ _ => by unfold pxQp; omega), pxIS.fr Y F (fun k f _ _ => by unfold pxQp; omega), D.fr F (fun k f z => by unfold pxQp; omega), by rw [F.m (by unfold pxQp; omega)]; exact e13, by rw [F.m (by unfold pxQp; omega)]; exact e14, S, ⟨rep, a.fr F (fun k f z => by unfold pxQp; omega)⟩, s.fr F (fun k f _ _ => by unfold pxQp; omega), b.fr F (fun k f z => by unfold pxQp; omega)⟩
theorem pwF.qp {h' : jw_H} (F : pxF pxQp h h') : pwF h h' := pwF.of F (fun k f z => by unfold pxQp at z; omega)
theorem pwA.ta (A : pwA h α) (T : pxTp α.1) : pxTA h 1 α.1 := ⟨Or.inl (by omega), T, ⟨60, A.1.2.2.1, T.1, by omega⟩, A.2.1.2⟩
theorem c_fault (A : pwA h α) (T : pxTp α.1) : pxW (f_X11_fault h 0) fun v h' => pwZ h (pz_fault α) v h' := by
  have X := A.2.2.2.2.2.2.2.2
  obtain ⟨h', e, F, G, -⟩ := s_X6_readOrders X.1 (A.ta T)
  unfold f_X11_fault
  rw [A.1.r (5, 10) (by decide), px_bs, A.1.r (0, 1) (by decide), px_bs, A.1.i, px_bs, A.2.1.1, px_rc X.1.1, px_bs, e, px_b2]
  exact pxW_some.mpr ⟨pwF.qp F, rfl, rfl, A.qp F G.1⟩
theorem c_patternFault (A : pwA h α) (T : pxTp α.1) : pxW (f_X11_patternFault h 0) fun v h' => pwZ h (pz_pf α) v h' := by
  have X := A.2.2.2.2.2.2.2.2
  obtain ⟨h', e, F, G, -⟩ := s_X6_readTapePattern X.1 (A.ta T)
  unfold f_X11_patternFault
  rw [A.1.r (5, 10) (by decide), px_bs, A.1.r (0, 1) (by decide), px_bs, A.1.i, px_bs, A.2.1.1, px_rc X.1.1, px_bs, e, px_b2]
  exact pxW_some.mpr ⟨pwF.qp F, rfl, rfl, A.qp F G.1⟩
theorem c_undo (A : pwA h α) : pxW (f_X11_undo h 0) fun v h' => pwY "java/lang/IllegalStateException" "" h (pz_undo α) v h' := by
  obtain ⟨C, Tp, Sc, I, Y, D, e13, e14, X⟩ := id A
  obtain ⟨B, S, -, -, -, m3, d40, -⟩ := id D
  unfold f_X11_undo pz_undo
  rw [C.r (11, 282) (by decide), px_bs, px_gI S.1, px_bs, m3]
  by_cases c : α.2.2.2.2.1 = []
  · rw [if_pos (show pxJ (α.2.2.2.2.1.length : Int) = 0 by rw [c]; rfl), if_pos c]
    exact pxW_some.mpr (pwY_1 A)
  · obtain ⟨D', d, e⟩ := pyD_end c
    have l1 : α.2.2.2.2.1.length = D'.length + 1 := by rw [e, List.length_append, List.length_singleton]
    have hx : α.2.2.2.2.1[α.2.2.2.2.1.length - 1]? = some d := by
      rw [l1, e, show D'.length + 1 - 1 = D'.length by omega, List.getElem?_append_right (Nat.le_refl _), Nat.sub_self]
      rfl
    rw [if_neg (show ¬ (pxJ (α.2.2.2.2.1.length : Int) = 0) from fun z => by
      have := (pxJ_eq (a := (α.2.2.2.2.1.length : Int)) (b := 0) (by omega) (by omega) (by omega) (by omega)).mp z
      omega), if_neg c, px_bs, C.r (6, 255) (by decide), px_bs, px_rc S.1, px_bs]
    refine pxW_b2 (s_X3_takeBack D I hx (by omega)) fun _ h2 q => ?_
    obtain ⟨F, I2, D2⟩ := q
    have eu : pzUn α = (α.1, α.2.1, (d.2.1, d.2.2.1, d.2.2.2, α.2.2.1.2.2.2), α.2.2.2.1, D', α.2.2.2.2.2) := by
      unfold pzUn
      rw [e, List.getLast?_concat, List.dropLast_concat]
      rfl
    rw [e, List.dropLast_concat] at D2
    have C2 : pwC h2 := C.fr F (fun f _ => by unfold pxC; omega) (fun f => by unfold pxC; omega)
    obtain ⟨B2, S2, -, -, -, n3, -⟩ := id D2
    rw [C2.r (11, 282) (by decide), px_bs, px_gI S2.1, px_bs, n3, eu, l1, show ((D'.length + 1 : Nat) : Int) - 1 = D'.length by omega]
    refine pxW_some.mpr (pwY_0 (pwF.of F (fun k f z => by unfold pxC at z; omega)) ⟨C2, Tp.fr F (by unfold pxC; omega) (fun f => by unfold pxC; omega), Sc.fr F (fun k f _ _ => by unfold pxC; omega), I2, pxIS.fr Y F (fun k f _ _ => by unfold pxC; omega), D2, by rw [F.m (by unfold pxC; omega)]; exact e13, by rw [F.m (by unfold pxC; omega)]; exact e14, ?_⟩)
    obtain ⟨p, ⟨rep, a⟩, s, b⟩ := X
    exact ⟨p.fr F (fun k f z => by unfold pxC; omega), ⟨rep, a.fr F (fun k f z => by unfold pxC; omega)⟩, s.fr F (fun k f _ _ => by unfold pxC; omega), b.fr F (fun k f z => by unfold pxC; omega)⟩
theorem c_noScript {k : Int} (k0 : -2147483648 ≤ k) (k1 : k ≤ 2147483647) : f_X11_isNoScript h 0 (pxJ k) = some (pxJ (if 0 ≤ k ∧ k < 4 then 0 else 1), h) := by
  unfold f_X11_isNoScript g_X11_isNoScript_b9 g_X11_isNoScript_b14
  by_cases a : k < 0
  · rw [if_pos (show pxJ k < 0 from (pxJ_lt (a := k) (b := 0) k0 k1 (by omega) (by omega)).mpr a), pyRb1, px_bs, if_neg (by omega)]
    rfl
  rw [if_neg (show ¬ (pxJ k < 0) from fun z => a ((pxJ_lt (a := k) (b := 0) k0 k1 (by omega) (by omega)).mp z))]
  by_cases b : k < 4
  · rw [if_pos (show pxJ k < (4 : Int32) from (pxJ_lt (a := k) (b := 4) k0 k1 (by omega) (by omega)).mpr b), pyRb0, px_bs, if_pos (by omega)]
    rfl
  · rw [if_neg (show ¬ (pxJ k < (4 : Int32)) from fun z => b ((pxJ_lt (a := k) (b := 4) k0 k1 (by omega) (by omega)).mp z)), pyRb1, px_bs, if_neg (by omega)]
    rfl
end
