/-! words for functions out of bytecode -/
def jw_FU : Nat := 100000
def jw_b2 {α β : Type} (o : Option (α × jw_H)) (f : α → jw_H → Option β) : Option β := o.bind fun q => f q.1 q.2
theorem jw_b2_spec {α β : Type} {o : Option (α × jw_H)} {f : α → jw_H → Option β} {q : β} (e : jw_b2 o f = some q) : ∃ (a : α) (h : jw_H), o = some (a, h) ∧ f a h = some q := by
  obtain ⟨⟨a, h⟩, h1, h2⟩ := Option.bind_eq_some_iff.mp e
  exact ⟨a, h, h1, h2⟩
theorem jw_if {α : Type} {c : Prop} [Decidable c] {a b : Option α} {q : α} (e : (if c then a else b) = some q) : (c ∧ a = some q) ∨ (¬ c ∧ b = some q) := by
  by_cases h : c
  · rw [if_pos h] at e; exact Or.inl ⟨h, e⟩
  · rw [if_neg h] at e; exact Or.inr ⟨h, e⟩
theorem jw_rc_spec {h : jw_H} {c : Nat} {o : Option Nat} {a : Nat} (e : jw_rc h c o = some a) : o = some a ∧ (jw_t h a).1 = c := by
  cases o with
  | none => exact absurd e (by simp [jw_rc])
  | some k =>
    by_cases hk : (jw_t h k).1 = c
    · simp only [jw_rc, if_pos hk] at e
      cases e
      exact ⟨rfl, hk⟩
    · simp only [jw_rc, if_neg hk] at e
      cases e
def jw_rb (x : Int32) : Option Unit := if x = 0 ∨ x = 1 then some () else none
theorem jw_rb_spec {x : Int32} {z : Unit} (e : jw_rb x = some z) : narrow .boolean (.int x) = .int x := by
  by_cases h : x = 0 ∨ x = 1
  · rcases h with rfl | rfl <;> rfl
  · simp only [jw_rb, if_neg h] at e
    cases e
def jw_nz (x : Int32) : Option Unit := if x = 0 then none else some ()
theorem jw_nz_spec {x : Int32} {z : Unit} (e : jw_nz x = some z) : ¬ x = 0 := by
  intro h
  simp only [jw_nz, if_pos h] at e
  cases e
def jw_mka (h : jw_H) (t : Nat) (x : Int32) : Option jw_H := if ¬ x < 0 ∧ x.toNatClampNeg ≤ 1000000 then some (jw_new h (t, x.toNatClampNeg) x.toNatClampNeg) else none
theorem jw_mka_spec {h : jw_H} {t : Nat} {x : Int32} {h1 : jw_H} (e : jw_mka h t x = some h1) : (¬ x < 0 ∧ x.toNatClampNeg ≤ 1000000) ∧ jw_new h (t, x.toNatClampNeg) x.toNatClampNeg = h1 := by
  by_cases hc : ¬ x < 0 ∧ x.toNatClampNeg ≤ 1000000
  · simp only [jw_mka, if_pos hc] at e
    exact ⟨hc, Option.some.inj e⟩
  · simp only [jw_mka, if_neg hc] at e
    cases e
theorem jw_lks {ps : Array (Int × Int)} {l : List (Int × Int)} {dflt x off : Int} (ho : Op.lookupswitch.offset l dflt x = off) (hl : ps.toList = l := by rfl) : Op.lookupswitch.offset ps.toList dflt x = off := by rw [hl]; exact ho
theorem jw_cat_rf {o : Option Nat} : (va_rf o).category = 1 := by cases o <;> rfl
def jw_res (r : Int32 ⊕ String) : Option Value ⊕ String := match r with
  | .inl x => .inl (some (.int x))
  | .inr E => .inr E
theorem jw_long_rf {o : Option Nat} : jw_long (some (some (va_rf o))) = false := by cases o <;> rfl
theorem jw_st1_of {L : List (Option Value)} {j : Nat} {v : Value} (h : jw_long L[j]? = false) : jw_st1 L (j + 1) v = L.set (j + 1) (some v) := by
  simp only [jw_st1, jw_clr, h, cond_false]
theorem jw_st2_of {L : List (Option Value)} {j : Nat} {v : Value} (h : jw_long L[j]? = false) : jw_st2 L (j + 1) v = (L.set (j + 2) none).set (j + 1) (some v) := by
  simp only [jw_st2, jw_clr, h, cond_false]
theorem jw_sl0_nil : jw_sl0 [] = [] := rfl
theorem jw_sl0_int {x : Int32} {vs : List Value} : jw_sl0 (.int x :: vs) = some (.int x) :: jw_sl0 vs := rfl
theorem jw_sl0_long {x : Int64} {vs : List Value} : jw_sl0 (.long x :: vs) = some (.long x) :: none :: jw_sl0 vs := rfl
theorem jw_sl0_ref {x : Nat} {vs : List Value} : jw_sl0 (.ref x :: vs) = some (.ref x) :: jw_sl0 vs := rfl
theorem jw_sl0_scr {x : Nat} {vs : List Value} : jw_sl0 (.retAddr x :: vs) = some (.retAddr x) :: jw_sl0 vs := rfl
theorem jw_sl0_rf {o : Option Nat} {vs : List Value} : jw_sl0 (va_rf o :: vs) = some (va_rf o) :: jw_sl0 vs := by cases o <;> rfl
theorem jw_cat_i {x : Int32} : (Value.int x).category = 1 := rfl
theorem jw_cat_l {x : Int64} : (Value.long x).category = 2 := rfl
theorem jw_cat_a {x : Nat} : (Value.ref x).category = 1 := rfl
theorem jw_cat_s {x : Nat} : (Value.retAddr x).category = 1 := rfl
