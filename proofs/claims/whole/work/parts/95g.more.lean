/-! the class: type, scriptAt, fileAt -/
section
variable {h : jw_H} {α : pzA} {n : Int}
theorem c_fileAt {k x y : Int} (A : pwA h α) (k0 : -2147483648 ≤ k) (k1 : k ≤ 2147483647) (x0 : -2147483648 ≤ x) (x1 : x ≤ 2147483647) (y0 : -2147483648 ≤ y) (y1 : y ≤ 2147483647) : pxW (f_X11_fileAt h 0 (pxJ k) (pxJ x) (pxJ y)) fun v h' => pwY "java/lang/IndexOutOfBoundsException" "" h (pz_fat k x y α) v h' := by
  have Y := A.2.2.2.2.1
  unfold f_X11_fileAt pz_fat g_X11_fileAt_b26
  rw [A.1.r (7, 261) (by decide), px_bs, px_rc Y.1.1, px_bs, s_X8_file Y.1 k0 k1, px_b2]
  by_cases c : 0 ≤ k ∧ k < 4
  · have R := Y.2.2.2 k c.1 c.2
    unfold pz_at
    rw [if_pos c, if_pos c, if_neg (show ¬ (some (261 + 8 + 3 * k.toNat) = none) by simp), px_rc R.1.1, px_bs, s_X7_signAt R x0 x1 y0 y1, px_b2]
    by_cases d : 1 ≤ x ∧ x ≤ ((α.2.2.2.1.2.2 k).length : Int) ∧ 0 ≤ y ∧ y < pxLn (α.2.2.2.1.2.2 k) x
    · have ch := pxE_ch (pxRw_or R.2.2.1 x) d.2.2.1 d.2.2.2
      unfold pxCh at ch
      rw [pxSgA_t d, if_pos d, if_neg (show ¬ (pxJ (pxSg (α.2.2.2.1.2.2 k) x y) = (-1 : Int32)) from fun z => by
        rw [show (-1 : Int32) = pxJ (-1) by decide] at z
        have := (pxJ_eq (a := pxE (pxRw (α.2.2.2.1.2.2 k) x) y) (b := -1) (by omega) (by omega) (by omega) (by omega)).mp z
        omega), px_rc R.1.1, px_bs, s_X7_signAt R x0 x1 y0 y1, px_b2, pxSgA_t d]
      exact pxW_some.mpr (pwY_0 pwF.rfl A)
    · rw [pxSgA_f d, if_neg d, if_pos (show pxJ (-1) = (-1 : Int32) by decide)]
      exact pxW_some.mpr (pwY_1 A)
  · rw [if_neg c, if_neg c, if_pos rfl]
    exact pxW_some.mpr (pwY_1 A)
theorem c_scriptAt {k j : Int} (A : pwA h α) (O : pzOk n α) (k0 : -2147483648 ≤ k) (k1 : k ≤ 2147483647) (j0 : -2147483648 ≤ j) (j1 : j ≤ 2147483647) : pxW (f_X11_scriptAt h 0 (pxJ k) (pxJ j)) fun v h' => pwY "java/lang/IndexOutOfBoundsException" "" h (pz_sca k j α) v h' := by
  have C := A.1
  unfold f_X11_scriptAt pz_sca g_X11_scriptAt_b43
  rw [px_rc C.1, px_bs, c_noScript k0 k1, px_b2]
  by_cases c : 0 ≤ k ∧ k < 4
  · obtain ⟨a, b⟩ := A.2.2.1 k c.1 c.2
    rw [if_pos c, if_pos (show pxJ 0 = 0 from rfl), if_neg (show ¬ ¬ (0 ≤ k ∧ k < 4) from fun z => z c)]
    by_cases d : j < 0
    · rw [if_pos (show pxJ j < 0 from (pxJ_lt (a := j) (b := 0) j0 j1 (by omega) (by omega)).mpr d)]
      cases e : α.2.1 k with
      | none => exact pxW_some.mpr (pwY_1 A)
      | some s =>
        show pxW _ fun v h' => pwY _ _ h (if 0 ≤ j ∧ j < (s.length : Int) then (0, pxE s j, α) else (1, 0, α)) v h'
        rw [if_neg (by omega)]
        exact pxW_some.mpr (pwY_1 A)
    rw [if_neg (show ¬ (pxJ j < 0) from fun z => d ((pxJ_lt (a := j) (b := 0) j0 j1 (by omega) (by omega)).mp z)), C.r (2, 7) (by decide), px_bs, C.s7 c.1 c.2, px_bs]
    cases e : α.2.1 k with
    | none =>
      rw [a e, if_pos (show pxJ (-1) ≤ pxJ j from (pxJ_le (by omega) (by omega) j0 j1).mpr (by omega))]
      exact pxW_some.mpr (pwY_1 A)
    | some s =>
      obtain ⟨T, ok⟩ := pyOk4 O c.1 c.2 e
      have l60 := T.1
      have t3 := (C.2.2.2.2.1 k c.1 c.2).2
      show pxW _ fun v h' => pwY _ _ h (if 0 ≤ j ∧ j < (s.length : Int) then (0, pxE s j, α) else (1, 0, α)) v h'
      rw [(b s e).1]
      by_cases g : (s.length : Int) ≤ j
      · rw [if_pos (show pxJ (s.length : Int) ≤ pxJ j from (pxJ_le (by omega) (by omega) j0 j1).mpr g), if_neg (show ¬ (0 ≤ j ∧ j < (s.length : Int)) by omega)]
        exact pxW_some.mpr (pwY_1 A)
      · rw [if_neg (show ¬ (pxJ (s.length : Int) ≤ pxJ j) from fun z => g ((pxJ_le (by omega) (by omega) j0 j1).mp z)), if_pos (show 0 ≤ j ∧ j < (s.length : Int) from ⟨by omega, by omega⟩), C.r (1, 2) (by decide), px_bs, C.s2 c.1 c.2, px_bs, px_ln (by rw [t3]; decide), t3, px_bs, if_pos (show pxJ j < pxJ ((60 : Nat) : Int) from (pxJ_lt j0 j1 (by omega) (by omega)).mpr (by omega)), px_bs, C.s2 c.1 c.2, px_bs, px_ai (by rw [t3]) (by omega) (by rw [t3]; show j < ((60 : Nat) : Int); omega) (by omega), px_bs, (b s e).2 j (by omega) (by omega)]
        exact pxW_some.mpr (pwY_0 pwF.rfl A)
  · rw [if_neg c, if_neg (show ¬ (pxJ 1 = 0) by decide), if_pos c]
    exact pxW_some.mpr (pwY_1 A)
end
