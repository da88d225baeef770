/-! the class: type -/
section
variable {h : jw_H} {α : pzA} {n : Int}
theorem c_type {c : Int} (A : pwA h α) (O : pxTp α.1) (c0 : -2147483648 ≤ c) (c1 : c ≤ 2147483647) : pxW (f_X11_type h 0 (pxJ c)) fun v h' => pwY "java/lang/IllegalArgumentException" "java/lang/IllegalStateException" h (pz_type c α) v h' := by
  obtain ⟨C, Tp, Sc, I, Y, D, e13, e14, X⟩ := id A
  have l60 := O.1
  have t1 := C.2.2.1
  unfold f_X11_type pz_type g_X11_type_b12 g_X11_type_b41
  by_cases a : c < 32
  · rw [if_pos (show pxJ c < (32 : Int32) from (pxJ_lt (a := c) (b := 32) c0 c1 (by omega) (by omega)).mpr a), if_pos (show c < 32 ∨ 126 < c from Or.inl a)]
    exact pxW_some.mpr (pwY_1 A)
  rw [if_neg (show ¬ (pxJ c < (32 : Int32)) from fun z => a ((pxJ_lt (a := c) (b := 32) c0 c1 (by omega) (by omega)).mp z))]
  by_cases b : c ≤ 126
  · rw [if_pos (show pxJ c ≤ (126 : Int32) from (pxJ_le (a := c) (b := 126) c0 c1 (by omega) (by omega)).mpr b), if_neg (show ¬ (c < 32 ∨ 126 < c) by omega), C.i, px_bs, Tp.1, if_neg (show ¬ (pxJ (α.1.length : Int) < 0) from fun z => by
      have := (pxJ_lt (a := (α.1.length : Int)) (b := 0) (by omega) (by omega) (by omega) (by omega)).mp z
      omega), px_bs, C.r (0, 1) (by decide), px_bs, px_ln (by rw [t1]; decide), t1, px_bs]
    by_cases l : α.1.length = 60
    · rw [if_neg (show ¬ (pxJ (α.1.length : Int) < pxJ ((60 : Nat) : Int)) from fun z => by
        have := (pxJ_lt (a := (α.1.length : Int)) (b := ((60 : Nat) : Int)) (by omega) (by omega) (by omega) (by omega)).mp z
        omega), if_pos l]
      exact pxW_some.mpr (pwY_2 A)
    · have F1 : pxF (fun k f => k = 1) h (jw_setI h 1 (α.1.length : Int).toNat (pxJ c)) := pxF.setI rfl
      have C1 : pwC (jw_setI h 1 (α.1.length : Int).toNat (pxJ c)) := C.fr F1 (fun f _ => by omega) (fun f => by omega)
      have F2 : pxF (fun k f => k = 0 ∧ f = 12) (jw_setI h 1 (α.1.length : Int).toNat (pxJ c)) (jw_setI (jw_setI h 1 (α.1.length : Int).toNat (pxJ c)) 0 12 (pxJ ((α.1.length : Int) + 1))) := pxF.setI ⟨rfl, rfl⟩
      have F : pxF (fun k f => k = 1 ∨ (k = 0 ∧ f = 12)) h (jw_setI (jw_setI h 1 (α.1.length : Int).toNat (pxJ c)) 0 12 (pxJ ((α.1.length : Int) + 1))) := (F1.mono (fun k f z => Or.inl z)).trans (F2.mono (fun k f z => Or.inr z))
      have C2 : pwC (jw_setI (jw_setI h 1 (α.1.length : Int).toNat (pxJ c)) 0 12 (pxJ ((α.1.length : Int) + 1))) := C.fr F (fun f _ => by omega) (fun f => by omega)
      have a12 : pxM (jw_setI (jw_setI h 1 (α.1.length : Int).toNat (pxJ c)) 0 12 (pxJ ((α.1.length : Int) + 1))) 0 12 = (α.1.length : Int) + 1 := pxM_eq (by omega) (by omega)
      rw [if_pos (show pxJ (α.1.length : Int) < pxJ ((60 : Nat) : Int) from (pxJ_lt (by omega) (by omega) (by omega) (by omega)).mpr (by omega)), if_neg l, px_bs, px_bs, pxJ_b8 (by omega) (by omega), pxJ_byte (by omega) (by omega), px_si (by rw [t1]) (by omega) (by rw [t1]; show (α.1.length : Int) < ((60 : Nat) : Int); omega) (by omega), px_bs, C1.i, px_bs, pxM_ne (by omega), Tp.1, show pxJ (α.1.length : Int) + (1 : Int32) = pxJ ((α.1.length : Int) + 1) from pxJ_add _ 1, px_pI C1.1, px_bs, C2.i, px_bs, a12]
      refine pxW_some.mpr (pwY_0 (pwF.of F (fun k f z => by omega)) ⟨C2, ⟨by rw [a12, List.length_append, List.length_singleton]; omega, fun j j0 j1 => ?_⟩, Sc.fr F (fun k f _ _ => by omega), pxIT.fr I F (fun k f _ _ => by omega), pxIS.fr Y F (fun k f _ _ => by omega), D.fr F (fun k f z => by omega), by rw [F.m (by omega)]; exact e13, by rw [F.m (by omega)]; exact e14, X.fr F (fun k f _ _ => by omega)⟩)
      rw [List.length_append, List.length_singleton] at j1
      rw [pxM_ne (by omega)]
      by_cases d : j < α.1.length
      · rw [pxM_ne (by omega), pxE_app1 j0 d]
        exact Tp.2 j j0 d
      · rw [show j = (α.1.length : Int) by omega, pxM_eq (by omega) (by omega), pxE_app2 (Int.le_refl _), Int.sub_self]
        rfl
  · rw [if_neg (show ¬ (pxJ c ≤ (126 : Int32)) from fun z => b ((pxJ_le (a := c) (b := 126) c0 c1 (by omega) (by omega)).mp z)), if_pos (show c < 32 ∨ 126 < c by omega)]
    exact pxW_some.mpr (pwY_1 A)
end
