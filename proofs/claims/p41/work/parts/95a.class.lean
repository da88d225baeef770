/-! the class: its state, and what a call of it comes to -/
def pwTb : List (Nat × Nat) := [(0, 1), (1, 2), (2, 7), (3, 8), (4, 9), (5, 10), (6, 255), (7, 261), (8, 531), (9, 559), (10, 571), (11, 282)]
def pwC (h : jw_H) : Prop := (jw_t h 0).1 = 11 ∧ (∀ q ∈ pwTb, jw_r h 0 q.1 = some q.2) ∧ jw_t h 1 = (21, 60) ∧ jw_t h 2 = (24, 4) ∧ (∀ k : Int, 0 ≤ k → k < 4 → jw_r h 2 k.toNat = some (3 + k.toNat) ∧ jw_t h (3 + k.toNat) = (21, 60)) ∧ jw_t h 7 = (20, 4) ∧ jw_t h 8 = (20, 1681) ∧ jw_t h 9 = (20, 40)
def pwTp (h : jw_H) (t : List Int) : Prop := pxM h 0 12 = t.length ∧ ∀ j : Int, 0 ≤ j → j < t.length → pxM h 1 j.toNat = pxE t j
def pwSc (h : jw_H) (sc : Int → Option (List Int)) : Prop := ∀ k : Int, 0 ≤ k → k < 4 → (sc k = none → pxM h 7 k.toNat = -1) ∧ ∀ s, sc k = some s → pxM h 7 k.toNat = s.length ∧ ∀ j : Int, 0 ≤ j → j < s.length → pxM h (3 + k.toNat) j.toNat = pxE s j
/-- its workshops -/
def pwX (h : jw_H) : Prop := pxPS h ∧ (∃ rep, pxAux h rep) ∧ pxSSX h 538 ∧ pxBX h
def pwA (h : jw_H) (α : pzA) : Prop := pwC h ∧ pwTp h α.1 ∧ pwSc h α.2.1 ∧ pxIX h α.2.2.1 ∧ pxIY h α.2.2.2.1 ∧ pxHI h α.2.2.2.2.1 ∧ pxM h 0 13 = α.2.2.2.2.2.1 ∧ pxM h 0 14 = α.2.2.2.2.2.2 ∧ pwX h
/-- all but the reference stays as it may, and the counts grow by little -/
def pwF (h h' : jw_H) : Prop := jw_n h ≤ jw_n h' ∧ jw_c h' ≤ jw_c h + 1 ∧ jw_s h' ≤ jw_s h + 9 ∧ (∀ k, k < 587 → jw_t h' k = jw_t h k) ∧ ∀ k f, 587 ≤ k → k < 587 → jw_i h' k f = jw_i h k f ∧ jw_l h' k f = jw_l h k f ∧ jw_r h' k f = jw_r h k f
/-- a call of the class that never throws -/
def pwZ (h : jw_H) (R : pzR) (v : Int32) (h' : jw_H) : Prop := pwF h h' ∧ R.1 = 0 ∧ v = pxJ R.2.1 ∧ pwA h' R.2.2
/-- a call of the class that may throw E1, for the code 1, or E2, for the code 2 -/
def pwY (E1 E2 : String) (h : jw_H) (R : pzR) (v : Int32 ⊕ String) (h' : jw_H) : Prop := pwF h h' ∧ (R.1 = 0 → v = .inl (pxJ R.2.1)) ∧ (R.1 = 1 → v = .inr E1) ∧ (R.1 = 2 → v = .inr E2) ∧ pwA h' R.2.2
theorem pwF.rfl {h : jw_H} : pwF h h := ⟨Nat.le_refl _, by omega, by omega, fun _ _ => .refl _, fun _ _ _ _ => ⟨.refl _, .refl _, .refl _⟩⟩
theorem pwF.thw {h : jw_H} : pwF h (jw_thw h) := ⟨Nat.le_refl _, by show jw_c h + 1 ≤ jw_c h + 1; omega, by show jw_s h + 6 ≤ jw_s h + 9; omega, fun _ _ => .refl _, fun _ _ _ _ => ⟨.refl _, .refl _, .refl _⟩⟩
theorem pwF.of {P : Nat → Nat → Prop} {h h' : jw_H} (F : pxF P h h') (n : ∀ k f, P k f → k ≤ 586) : pwF h h' :=
  ⟨by rw [F.1]; exact Nat.le_refl _, by rw [F.2.1]; omega, by rw [F.2.2.1]; omega, fun k _ => by rw [F.t], fun k f a _ => F.2.2.2.2 k f (fun z => by have := n k f z; omega)⟩
section
variable {h : jw_H} {α : pzA} {n : Int}
theorem pwC.r (C : pwC h) (q : Nat × Nat) (hq : q ∈ pwTb) : jw_gR h 11 (some 0) q.1 = some (some q.2) := by rw [px_gR C.1, C.2.1 q hq]
theorem pwC.i (C : pwC h) (f : Nat) : jw_gI h 11 (some 0) f = some (pxJ (pxM h 0 f)) := px_gI C.1
theorem c_reason (A : pwA h α) : pxW (f_X11_reason h 0) fun v h' => pwZ h (pz_reason α) v h' := by
  unfold f_X11_reason
  rw [A.1.i, px_bs, A.2.2.2.2.2.2.2.1]
  exact pxW_some.mpr ⟨pwF.rfl, rfl, rfl, A⟩
theorem c_present (A : pwA h α) : pxW (f_X11_present h 0) fun v h' => pwZ h (pz_present α) v h' := by
  have X := A.2.2.2.1
  unfold f_X11_present
  rw [A.1.r (6, 255) (by decide), px_bs, px_gI X.1.1, px_bs, X.2.2.2.2.1]
  exact pxW_some.mpr ⟨pwF.rfl, rfl, rfl, A⟩
theorem c_lines (A : pwA h α) : pxW (f_X11_lines h 0) fun v h' => pwZ h (pz_lines α) v h' := by
  have X := A.2.2.2.1
  unfold f_X11_lines
  rw [A.1.r (6, 255) (by decide), px_bs, px_gR X.1.1, X.1.2.1, px_bs, px_gI X.2.1.1.1, px_bs, X.c2]
  exact pxW_some.mpr ⟨pwF.rfl, rfl, rfl, A⟩
theorem c_length {x : Int} (A : pwA h α) (x0 : -2147483648 ≤ x) (x1 : x ≤ 2147483647) : pxW (f_X11_length h 0 (pxJ x)) fun v h' => pwY "java/lang/IndexOutOfBoundsException" "" h (pz_len (pxRs α.2.2.1.1) x α) v h' := by
  have X := A.2.2.2.1
  unfold f_X11_length pz_len
  rw [A.1.r (6, 255) (by decide), px_bs, px_gR X.1.1, X.1.2.1, px_bs, px_rc X.2.1.1.1, px_bs, s_X7_has X.2.1 x0 x1, px_b2]
  by_cases c : 1 ≤ x ∧ x ≤ ((pxRs α.2.2.1.1).length : Int)
  · rw [if_pos c, if_pos c, if_neg (show ¬ (pxJ 1 = 0) by decide), A.1.r (6, 255) (by decide), px_bs, px_gR X.1.1, X.1.2.1, px_bs, px_rc X.2.1.1.1, px_bs, s_X7_lengthOf X.2.1 x0 x1, px_b2, pxLnA_t c]
    exact pxW_some.mpr ⟨pwF.rfl, fun _ => rfl, fun z => absurd (show (0 : Int) = 1 from z) (by decide), fun z => absurd (show (0 : Int) = 2 from z) (by decide), A⟩
  · rw [if_neg c, if_neg c, if_pos (show pxJ 0 = 0 from rfl)]
    exact pxW_some.mpr ⟨pwF.thw, fun z => absurd (show (1 : Int) = 0 from z) (by decide), fun _ => rfl, fun z => absurd (show (1 : Int) = 2 from z) (by decide), A⟩
end
