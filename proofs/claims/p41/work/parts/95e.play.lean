/-! the class: plays -/
section
variable {h : jw_H} {α : pzA} {n : Int}
/-- what follows a frame of the program alone -/
theorem pwY.after {E1 E2 : String} {h1 h' : jw_H} {R : pzR} {v : Int32 ⊕ String} (F : pxF pxQp h h1) (Y : pwY E1 E2 h1 R v h') : pwY E1 E2 h R v h' := by
  obtain ⟨w1, w2, w3, w4, w5⟩ := Y
  have W1 := pwF.qp F
  exact ⟨⟨by have := W1.1; have := w1.1; omega, by rw [← F.2.1]; exact w1.2.1, by rw [← F.2.2.1]; exact w1.2.2.1, fun k hk => by rw [w1.2.2.2.1 k hk]; exact W1.2.2.2.1 k hk, fun k f a b => by rw [(w1.2.2.2.2 k f a b).1, (w1.2.2.2.2 k f a b).2.1, (w1.2.2.2.2 k f a b).2.2]; exact W1.2.2.2.2 k f a b⟩, w2, w3, w4, w5⟩
theorem pwC.s7 (C : pwC h) {k : Int} (k0 : 0 ≤ k) (k4 : k < 4) : jw_ai h 20 (some 7) (pxJ k) = some (pxJ (pxM h 7 k.toNat)) := px_ai (by rw [C.2.2.2.2.2.1]) k0 (by rw [C.2.2.2.2.2.1]; exact k4) (by omega)
theorem pwC.s2 (C : pwC h) {k : Int} (k0 : 0 ≤ k) (k4 : k < 4) : jw_ar h 24 (some 2) (pxJ k) = some (some (3 + k.toNat)) := by
  rw [px_ar (by rw [C.2.2.2.1]) k0 (by rw [C.2.2.2.1]; exact k4) (by omega), (C.2.2.2.2.1 k k0 k4).1]
theorem pwA.tas {k : Int} {s : List Int} (A : pwA h α) (k0 : 0 ≤ k) (k4 : k < 4) (e : α.2.1 k = some s) (T : pxTp s) : pxTA h (3 + k.toNat) s := ⟨Or.inl (by omega), T, ⟨60, (A.1.2.2.2.2.1 k k0 k4).2, T.1, by omega⟩, ((A.2.2.1 k k0 k4).2 s e).2⟩
theorem c_play {k : Int} (A : pwA h α) (O : pzOk n α) (k0 : -2147483648 ≤ k) (k1 : k ≤ 2147483647) : pxW (f_X11_play h 0 (pxJ k)) fun v h' => pwY "java/lang/IndexOutOfBoundsException" "java/lang/IllegalStateException" h (pz_play k α) v h' := by
  have C := A.1
  have X := A.2.2.2.2.2.2.2.2
  unfold f_X11_play pz_play
  rw [px_rc C.1, px_bs, c_noScript k0 k1, px_b2]
  by_cases c : 0 ≤ k ∧ k < 4
  · obtain ⟨a, b⟩ := A.2.2.1 k c.1 c.2
    rw [if_pos c, if_pos (show pxJ 0 = 0 from rfl), if_neg (show ¬ ¬ (0 ≤ k ∧ k < 4) from fun z => z c), C.r (2, 7) (by decide), px_bs, C.s7 c.1 c.2, px_bs]
    cases e : α.2.1 k with
    | none =>
      rw [a e, if_pos (show pxJ (-1) = (-1 : Int32) by decide)]
      exact pxW_some.mpr (pwY_2 A)
    | some s =>
      obtain ⟨T, ok⟩ := pyOk4 O c.1 c.2 e
      have l60 := T.1
      obtain ⟨h1, er, F, G, q⟩ := s_X6_readOrders X.1 (A.tas c.1 c.2 e T)
      rw [(b s e).1, if_neg (show ¬ (pxJ (s.length : Int) = (-1 : Int32)) from fun z => by
        rw [show (-1 : Int32) = pxJ (-1) by decide] at z
        have := (pxJ_eq (a := (s.length : Int)) (b := -1) (by omega) (by omega) (by omega) (by omega)).mp z
        omega), C.r (5, 10) (by decide), px_bs, C.r (1, 2) (by decide), px_bs, C.s2 c.1 c.2, px_bs, px_bs, C.s7 c.1 c.2, px_bs, (b s e).1, px_rc X.1.1, px_bs, er, px_b2]
      exact pxW.mono (c_runs (E1 := "java/lang/IndexOutOfBoundsException") (E2 := "java/lang/IllegalStateException") (by omega) (A.qp F G.1) O (c_prog (by omega) G ok q)) fun v h' w => pwY.after F w
  · rw [if_neg c, if_neg (show ¬ (pxJ 1 = 0) by decide), if_pos c]
    exact pxW_some.mpr (pwY_1 A)
end
