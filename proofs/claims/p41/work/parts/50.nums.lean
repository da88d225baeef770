/-! whole numbers in the machine's ints; running the functions -/
def pxJ (z : Int) : Int32 := Int32.ofInt z
def pxR (z : Int) : Prop := -2147483648 ≤ z ∧ z ≤ 2147483647
theorem pxJ_add (a b : Int) : pxJ a + pxJ b = pxJ (a + b) := (Int32.ofInt_add a b).symm
theorem pxJ_sub (a b : Int) : pxJ a - pxJ b = pxJ (a - b) := (Int32.ofInt_sub a b).symm
theorem pxJ_mul (a b : Int) : pxJ a * pxJ b = pxJ (a * b) := (Int32.ofInt_mul a b).symm
theorem pxJ_neg (a : Int) : - pxJ a = pxJ (-a) := (Int32.ofInt_neg a).symm
theorem pxJ_toInt {a : Int} (h1 : -2147483648 ≤ a) (h2 : a ≤ 2147483647) : (pxJ a).toInt = a := Int32.toInt_ofInt_of_le h1 (by omega)
theorem pxJ_lt {a b : Int} (h1 : -2147483648 ≤ a) (h2 : a ≤ 2147483647) (h3 : -2147483648 ≤ b) (h4 : b ≤ 2147483647) : (pxJ a < pxJ b) = (a < b) := by
  rw [Int32.lt_iff_toInt_lt, pxJ_toInt h1 h2, pxJ_toInt h3 h4]
theorem pxJ_le {a b : Int} (h1 : -2147483648 ≤ a) (h2 : a ≤ 2147483647) (h3 : -2147483648 ≤ b) (h4 : b ≤ 2147483647) : (pxJ a ≤ pxJ b) = (a ≤ b) := by
  rw [Int32.le_iff_toInt_le, pxJ_toInt h1 h2, pxJ_toInt h3 h4]
theorem pxJ_eq {a b : Int} (h1 : -2147483648 ≤ a) (h2 : a ≤ 2147483647) (h3 : -2147483648 ≤ b) (h4 : b ≤ 2147483647) : (pxJ a = pxJ b) = (a = b) := by
  rw [← Int32.toInt_inj, pxJ_toInt h1 h2, pxJ_toInt h3 h4]
theorem pxD_lt_t {a b : Int} (h : a < b) (h1 : -2147483648 ≤ a) (h4 : b ≤ 2147483647) : (pxJ a < pxJ b) = True := by
  rw [pxJ_lt (by omega) (by omega) (by omega) (by omega)]; exact eq_true h
theorem pxD_lt_f {a b : Int} (h : b ≤ a) (h1 : -2147483648 ≤ b) (h4 : a ≤ 2147483647) : (pxJ a < pxJ b) = False := by
  rw [pxJ_lt (by omega) (by omega) (by omega) (by omega)]; exact eq_false (by omega)
theorem pxD_le_t {a b : Int} (h : a ≤ b) (h1 : -2147483648 ≤ a) (h4 : b ≤ 2147483647) : (pxJ a ≤ pxJ b) = True := by
  rw [pxJ_le (by omega) (by omega) (by omega) (by omega)]; exact eq_true h
theorem pxD_le_f {a b : Int} (h : b < a) (h1 : -2147483648 ≤ b) (h4 : a ≤ 2147483647) : (pxJ a ≤ pxJ b) = False := by
  rw [pxJ_le (by omega) (by omega) (by omega) (by omega)]; exact eq_false (by omega)
theorem pxD_eq_f {a b : Int} (h : a ≠ b) (h1 : -2147483648 ≤ a) (h2 : a ≤ 2147483647) (h3 : -2147483648 ≤ b) (h4 : b ≤ 2147483647) : (pxJ a = pxJ b) = False := by
  rw [pxJ_eq h1 h2 h3 h4]; exact eq_false h
theorem pxD_eq_t {a b : Int} (h : a = b) : (pxJ a = pxJ b) = True := by rw [h]; exact eq_self _
theorem pxJ_ofNat (n : Nat) : Int32.ofNat n = pxJ n := Int32.ofInt_eq_ofNat.symm
theorem pxJ_of (x : Int32) : x = pxJ x.toInt := (Int32.ofInt_toInt x).symm
theorem pxJ_in (x : Int32) : ∃ z : Int, x = pxJ z ∧ -2147483648 ≤ z ∧ z ≤ 2147483647 :=
  ⟨x.toInt, pxJ_of x, Int32.le_toInt x, by have := Int32.toInt_lt x; omega⟩
theorem pxJ_cl {a : Int} (h1 : -2147483648 ≤ a) (h2 : a ≤ 2147483647) : (pxJ a).toNatClampNeg = a.toNat := by
  show (pxJ a).toInt.toNat = _
  rw [pxJ_toInt h1 h2]
theorem pxJ_byte {a : Int} (h1 : -128 ≤ a) (h2 : a ≤ 127) : vp_nar .byte (pxJ a) = pxJ a := by
  have : ∀ k : Fin 256, vp_nar .byte (pxJ ((k.val : Int) - 128)) = pxJ ((k.val : Int) - 128) := by decide +kernel
  have h := this ⟨(a + 128).toNat, by omega⟩
  have e : (((⟨(a + 128).toNat, by omega⟩ : Fin 256).val : Int) - 128) = a := by simp; omega
  rw [e] at h
  exact h
/-- the heap's ints as whole numbers -/
def pxM (h : jw_H) (k f : Nat) : Int := (jw_i h k f).toInt
theorem pxM_J (h : jw_H) (k f : Nat) : jw_i h k f = pxJ (pxM h k f) := pxJ_of _
theorem pxM_lo (h : jw_H) (k f : Nat) : -2147483648 ≤ pxM h k f := Int32.le_toInt _
theorem pxM_hi (h : jw_H) (k f : Nat) : pxM h k f ≤ 2147483647 := by have := Int32.toInt_lt (jw_i h k f); unfold pxM; omega
theorem pxM_set {h : jw_H} {k f : Nat} {z : Int} (h1 : -2147483648 ≤ z) (h2 : z ≤ 2147483647) (a b : Nat) : pxM (jw_setI h k f (pxJ z)) a b = if a = k ∧ b = f then z else pxM h a b := by
  unfold pxM
  rw [jw_i_I]
  unfold jw_u
  by_cases ha : a = k
  · by_cases hb : b = f
    · simp [ha, hb, pxJ_toInt h1 h2]
    · simp [ha, hb]
  · simp [ha]
theorem pxM_L {h : jw_H} {k f : Nat} {z : Int64} : pxM (jw_setL h k f z) = pxM h := rfl
theorem pxM_R {h : jw_H} {k f : Nat} {z : Option Nat} : pxM (jw_setR h k f z) = pxM h := rfl
/-! the words of the functions -/
theorem px_gI {h : jw_H} {c k f : Nat} (e : (jw_t h k).1 = c) : jw_gI h c (some k) f = some (pxJ (pxM h k f)) := by
  simp only [jw_gI, if_pos e, ← pxM_J]
theorem px_gR {h : jw_H} {c k f : Nat} (e : (jw_t h k).1 = c) : jw_gR h c (some k) f = some (jw_r h k f) := by
  simp only [jw_gR, if_pos e]
theorem px_pI {h : jw_H} {c k f : Nat} {v : Int32} (e : (jw_t h k).1 = c) : jw_pI h c (some k) f v = some (jw_setI h k f v) := by
  simp only [jw_pI, if_pos e]
theorem px_pB {h : jw_H} {c k f : Nat} {v : Int32} (e : (jw_t h k).1 = c) (hv : v = 0 ∨ v = 1) : jw_pB h c (some k) f v = some (jw_setI h k f v) := by
  simp only [jw_pB, if_pos (And.intro e hv)]
theorem px_pR {h : jw_H} {c k f : Nat} {v : Option Nat} (e : (jw_t h k).1 = c) : jw_pR h c (some k) f v = some (jw_setR h k f v) := by
  simp only [jw_pR, if_pos e]
theorem px_rc {h : jw_H} {c k : Nat} (e : (jw_t h k).1 = c) : jw_rc h c (some k) = some k := by
  simp only [jw_rc, if_pos e]
theorem px_ix {h : jw_H} {t k : Nat} {z : Int} (e : (jw_t h k).1 = t) (h0 : 0 ≤ z) (h1 : z < (jw_t h k).2) (h2 : z ≤ 2147483647) : jw_ix h t (some k) (pxJ z) = some (k, z.toNat) := by
  have e1 : ¬ (pxJ z < 0) := by
    rw [show (0 : Int32) = pxJ 0 from rfl, pxJ_lt (by omega) (by omega) (by omega) (by omega)]; omega
  have e2 := pxJ_cl (a := z) (by omega) (by omega)
  simp only [jw_ix, e2]
  rw [if_pos ⟨e, fun q => q.elim e1 (by omega)⟩]
theorem px_ai {h : jw_H} {t k : Nat} {z : Int} (e : (jw_t h k).1 = t) (h0 : 0 ≤ z) (h1 : z < (jw_t h k).2) (h2 : z ≤ 2147483647) : jw_ai h t (some k) (pxJ z) = some (pxJ (pxM h k z.toNat)) := by
  simp only [jw_ai, px_ix e h0 h1 h2, Option.map_some, ← pxM_J]
theorem px_al {h : jw_H} {k : Nat} {z : Int} (e : (jw_t h k).1 = 23) (h0 : 0 ≤ z) (h1 : z < (jw_t h k).2) (h2 : z ≤ 2147483647) : jw_al h (some k) (pxJ z) = some (jw_l h k z.toNat) := by
  simp only [jw_al, px_ix e h0 h1 h2, Option.map_some]
theorem px_ar {h : jw_H} {t k : Nat} {z : Int} (e : (jw_t h k).1 = t) (h0 : 0 ≤ z) (h1 : z < (jw_t h k).2) (h2 : z ≤ 2147483647) : jw_ar h t (some k) (pxJ z) = some (jw_r h k z.toNat) := by
  simp only [jw_ar, px_ix e h0 h1 h2, Option.map_some]
theorem px_si {h : jw_H} {t k : Nat} {z : Int} {v : Int32} (e : (jw_t h k).1 = t) (h0 : 0 ≤ z) (h1 : z < (jw_t h k).2) (h2 : z ≤ 2147483647) : jw_si h t (some k) (pxJ z) v = some (jw_setI h k z.toNat v) := by
  simp only [jw_si, px_ix e h0 h1 h2, Option.map_some]
theorem px_sl {h : jw_H} {k : Nat} {z : Int} {v : Int64} (e : (jw_t h k).1 = 23) (h0 : 0 ≤ z) (h1 : z < (jw_t h k).2) (h2 : z ≤ 2147483647) : jw_sl h (some k) (pxJ z) v = some (jw_setL h k z.toNat v) := by
  simp only [jw_sl, px_ix e h0 h1 h2, Option.map_some]
theorem px_ln {h : jw_H} {k : Nat} (e : 20 ≤ (jw_t h k).1) : jw_ln h (some k) = some (pxJ ((jw_t h k).2 : Int)) := by
  simp only [jw_ln, if_pos e, pxJ_ofNat]
/-- what a copy of places leaves -/
def px_cpH (h : jw_H) (a : Nat) (sp : Nat) (b : Nat) (dp n : Nat) : jw_H := (jw_n h, jw_c h, jw_s h, jw_t h, (fun k => if k = b then va_cpy (jw_i h a) (jw_i h b) sp dp n else jw_i h k), jw_l h, jw_r h)
theorem px_cp {h : jw_H} {t a b : Nat} {sp dp n : Int} (ea : (jw_t h a).1 = t) (eb : (jw_t h b).1 = t) (h0 : 0 ≤ sp) (h1 : 0 ≤ dp) (h2 : 0 ≤ n) (h3 : sp + n ≤ (jw_t h a).2) (h4 : dp + n ≤ (jw_t h b).2) (h5 : sp + n ≤ 2147483647) (h6 : dp + n ≤ 2147483647) :
    jw_cp h t (some a) (pxJ sp) (some b) (pxJ dp) (pxJ n) = some (px_cpH h a sp.toNat b dp.toNat n.toNat) := by
  have nn : ∀ z : Int, 0 ≤ z → z ≤ 2147483647 → ¬ (pxJ z < 0) := fun z q1 q2 => by
    rw [show (0 : Int32) = pxJ 0 from rfl, pxJ_lt (by omega) (by omega) (by omega) (by omega)]; omega
  simp only [jw_cp, pxJ_cl (a := sp) (by omega) (by omega), pxJ_cl (a := dp) (by omega) (by omega), pxJ_cl (a := n) (by omega) (by omega)]
  rw [if_pos ⟨ea, eb, nn sp h0 (by omega), nn dp h1 (by omega), nn n h2 (by omega), by omega, by omega⟩]
  rfl
theorem px_cpM {h : jw_H} {a sp b dp n : Nat} (k f : Nat) : pxM (px_cpH h a sp b dp n) k f = if k = b then (if dp ≤ f ∧ f < dp + n then pxM h a (sp + (f - dp)) else pxM h b f) else pxM h k f := by
  unfold pxM px_cpH jw_i va_cpy
  by_cases hk : k = b
  · subst hk
    by_cases hf : dp ≤ f ∧ f < dp + n <;> simp [hf]
  · simp [hk]
theorem px_cpt {h : jw_H} {a sp b dp n : Nat} : jw_t (px_cpH h a sp b dp n) = jw_t h := rfl
theorem px_cpr {h : jw_H} {a sp b dp n : Nat} : jw_r (px_cpH h a sp b dp n) = jw_r h := rfl
theorem px_cpl {h : jw_H} {a sp b dp n : Nat} : jw_l (px_cpH h a sp b dp n) = jw_l h := rfl
theorem px_b2 {α β : Type} {a : α} {h : jw_H} {f : α → jw_H → Option β} : jw_b2 (some (a, h)) f = f a h := rfl
theorem px_bs {α β : Type} {a : α} {f : α → Option β} : (some a).bind f = f a := rfl
/-- it ends, so -/
def pxW {α : Type} (o : Option (α × jw_H)) (Q : α → jw_H → Prop) : Prop := ∃ a h, o = some (a, h) ∧ Q a h
theorem pxW_some {α : Type} {a : α} {h : jw_H} {Q : α → jw_H → Prop} : pxW (some (a, h)) Q ↔ Q a h :=
  ⟨fun ⟨_, _, e, q⟩ => by cases e; exact q, fun q => ⟨a, h, rfl, q⟩⟩
theorem pxW_b2 {α β : Type} {o : Option (α × jw_H)} {f : α → jw_H → Option (β × jw_H)} {P : α → jw_H → Prop} {Q : β → jw_H → Prop} (h1 : pxW o P) (h2 : ∀ a h, P a h → pxW (f a h) Q) : pxW (jw_b2 o f) Q := by
  obtain ⟨a, h, e, q⟩ := h1
  rw [e, px_b2]
  exact h2 a h q
theorem pxW.mono {α : Type} {o : Option (α × jw_H)} {P Q : α → jw_H → Prop} (h1 : pxW o P) (h2 : ∀ a h, P a h → Q a h) : pxW o Q := by
  obtain ⟨a, h, e, q⟩ := h1
  exact ⟨a, h, e, h2 a h q⟩
/-- all but some places stay -/
def pxF (P : Nat → Nat → Prop) (h h' : jw_H) : Prop :=
  jw_n h' = jw_n h ∧ jw_c h' = jw_c h ∧ jw_s h' = jw_s h ∧ jw_t h' = jw_t h ∧ ∀ k f, ¬ P k f → jw_i h' k f = jw_i h k f ∧ jw_l h' k f = jw_l h k f ∧ jw_r h' k f = jw_r h k f
theorem pxF.rfl {P : Nat → Nat → Prop} {h : jw_H} : pxF P h h := ⟨.refl _, .refl _, .refl _, .refl _, fun _ _ _ => ⟨.refl _, .refl _, .refl _⟩⟩
theorem pxF.trans {P : Nat → Nat → Prop} {h h1 h2 : jw_H} (a : pxF P h h1) (b : pxF P h1 h2) : pxF P h h2 :=
  ⟨b.1.trans a.1, b.2.1.trans a.2.1, b.2.2.1.trans a.2.2.1, b.2.2.2.1.trans a.2.2.2.1, fun k f hp => by
    obtain ⟨a1, a2, a3⟩ := a.2.2.2.2 k f hp
    obtain ⟨b1, b2, b3⟩ := b.2.2.2.2 k f hp
    exact ⟨b1.trans a1, b2.trans a2, b3.trans a3⟩⟩
theorem pxF.mono {P Q : Nat → Nat → Prop} {h h1 : jw_H} (a : pxF P h h1) (b : ∀ k f, P k f → Q k f) : pxF Q h h1 :=
  ⟨a.1, a.2.1, a.2.2.1, a.2.2.2.1, fun k f hq => a.2.2.2.2 k f (fun hp => hq (b k f hp))⟩
theorem pxF.t {P : Nat → Nat → Prop} {h h1 : jw_H} (a : pxF P h h1) : jw_t h1 = jw_t h := a.2.2.2.1
theorem pxF.m {P : Nat → Nat → Prop} {h h1 : jw_H} (a : pxF P h h1) {k f : Nat} (hp : ¬ P k f) : pxM h1 k f = pxM h k f := by
  unfold pxM; rw [(a.2.2.2.2 k f hp).1]
theorem pxF.l {P : Nat → Nat → Prop} {h h1 : jw_H} (a : pxF P h h1) {k f : Nat} (hp : ¬ P k f) : jw_l h1 k f = jw_l h k f := (a.2.2.2.2 k f hp).2.1
theorem pxF.r {P : Nat → Nat → Prop} {h h1 : jw_H} (a : pxF P h h1) {k f : Nat} (hp : ¬ P k f) : jw_r h1 k f = jw_r h k f := (a.2.2.2.2 k f hp).2.2
theorem pxF.setI {P : Nat → Nat → Prop} {h : jw_H} {k f : Nat} {v : Int32} (hp : P k f) : pxF P h (jw_setI h k f v) :=
  ⟨.refl _, .refl _, .refl _, .refl _, fun a b hn => ⟨by
    show jw_u (jw_i h) k f v a b = _
    unfold jw_u
    by_cases ha : a = k
    · by_cases hb : b = f
      · subst ha; subst hb; exact absurd hp hn
      · simp [hb]
    · simp [ha], .refl _, .refl _⟩⟩
theorem pxF.cpH {P : Nat → Nat → Prop} {h : jw_H} {a sp b dp n : Nat} (hp : ∀ f, dp ≤ f → f < dp + n → P b f) : pxF P h (px_cpH h a sp b dp n) :=
  ⟨.refl _, .refl _, .refl _, .refl _, fun k f hn => ⟨by
    show (if k = b then va_cpy (jw_i h a) (jw_i h b) sp dp n else jw_i h k) f = _
    by_cases hk : k = b
    · subst hk
      rw [if_pos (.refl _)]
      unfold va_cpy
      rw [if_neg (fun q => hn (hp f q.1 q.2))]
    · rw [if_neg hk], .refl _, .refl _⟩⟩
/-- cells a to b -/
def pxC (a b : Nat) : Nat → Nat → Prop := fun k _ => a ≤ k ∧ k ≤ b
theorem px_rb0 : jw_rb (pxJ 0) = some () := rfl
theorem px_rb1 : jw_rb (pxJ 1) = some () := rfl
theorem px_min {h : jw_H} {a b : Int} (h1 : -2147483648 ≤ a) (h2 : a ≤ 2147483647) (h3 : -2147483648 ≤ b) (h4 : b ≤ 2147483647) : f_J9_min_7cf53 h (pxJ a) (pxJ b) = some (pxJ (min a b), h) := by
  unfold f_J9_min_7cf53 g_J9_min_7cf53_b10
  simp only [pxJ_lt h3 h4 h1 h2]
  by_cases hc : b < a
  · rw [if_pos hc, Int.min_eq_right (by omega)]
  · rw [if_neg hc, Int.min_eq_left (by omega)]
theorem px_max {h : jw_H} {a b : Int} (h1 : -2147483648 ≤ a) (h2 : a ≤ 2147483647) (h3 : -2147483648 ≤ b) (h4 : b ≤ 2147483647) : f_J9_max_7cf53 h (pxJ a) (pxJ b) = some (pxJ (max a b), h) := by
  unfold f_J9_max_7cf53 g_J9_max_7cf53_b10
  simp only [pxJ_lt h1 h2 h3 h4]
  by_cases hc : a < b
  · rw [if_pos hc, Int.max_eq_right (by omega)]
  · rw [if_neg hc, Int.max_eq_left (by omega)]
theorem px_compare {h : jw_H} {a b : Int} (h1 : -2147483648 ≤ a) (h2 : a ≤ 2147483647) (h3 : -2147483648 ≤ b) (h4 : b ≤ 2147483647) : f_J6_compare_7cf53 h (pxJ a) (pxJ b) = some (pxJ (if a < b then -1 else if a = b then 0 else 1), h) := by
  unfold f_J6_compare_7cf53 g_J6_compare_7cf53_b19
  simp only [pxJ_le h3 h4 h1 h2, pxJ_eq h1 h2 h3 h4]
  by_cases hc : a < b
  · rw [if_neg (by omega), if_pos hc]; rfl
  · rw [if_pos (by omega), if_neg hc]
    by_cases he : a = b
    · rw [if_pos he, if_pos he]; rfl
    · rw [if_neg he, if_neg he]; rfl
theorem pxM_eq {h : jw_H} {k f : Nat} {z : Int} (h1 : -2147483648 ≤ z) (h2 : z ≤ 2147483647) : pxM (jw_setI h k f (pxJ z)) k f = z := by
  rw [pxM_set h1 h2, if_pos ⟨rfl, rfl⟩]
theorem pxM_ne {h : jw_H} {k f a b : Nat} {v : Int32} (hn : a ≠ k ∨ b ≠ f) : pxM (jw_setI h k f v) a b = pxM h a b := by
  unfold pxM
  rw [jw_i_I]
  unfold jw_u
  by_cases ha : a = k
  · by_cases hb : b = f
    · omega
    · simp [ha, hb]
  · simp [ha]
theorem px_cpM_ne {h : jw_H} {a sp b dp n k f : Nat} (hk : k ≠ b) : pxM (px_cpH h a sp b dp n) k f = pxM h k f := by rw [px_cpM, if_neg hk]
theorem px_cpM_in {h : jw_H} {a b : Nat} {sp dp n z : Int} (h0 : 0 ≤ dp) (h1 : dp ≤ z) (h2 : z < dp + n) (h3 : 0 ≤ sp) : pxM (px_cpH h a sp.toNat b dp.toNat n.toNat) b z.toNat = pxM h a (z - dp + sp).toNat := by
  rw [px_cpM, if_pos rfl, if_pos (by omega)]
  congr 1; omega
theorem px_cpM_out {h : jw_H} {a b : Nat} {sp dp n z : Int} (h0 : 0 ≤ dp) (hz : 0 ≤ z) (h1 : z < dp ∨ dp + n ≤ z) : pxM (px_cpH h a sp.toNat b dp.toNat n.toNat) b z.toNat = pxM h b z.toNat := by
  rw [px_cpM, if_pos rfl, if_neg (by omega)]
/-! places of a list, from 1 on -/
def pxG {α : Type} (d : α) (l : List α) (x : Int) : α := l.getD (x - 1).toNat d
theorem pxG_out {α : Type} {d : α} {l : List α} {x : Int} (h : l.length < x) : pxG d l x = d := by
  unfold pxG
  rw [List.getD_eq_getElem?_getD, List.getElem?_eq_none (by omega)]; rfl
theorem pxG_mem {α : Type} {d : α} {l : List α} {x : Int} (h1 : 1 ≤ x) (h2 : x ≤ l.length) : pxG d l x ∈ l := by
  unfold pxG
  rw [List.getD_eq_getElem?_getD, List.getElem?_eq_getElem (show (x - 1).toNat < l.length by omega)]
  exact List.getElem_mem _
theorem pxG_map {α β : Type} {d : α} {e : β} {f : α → β} {l : List α} {x : Int} (he : f d = e) : pxG e (l.map f) x = f (pxG d l x) := by
  unfold pxG
  rw [List.getD_eq_getElem?_getD, List.getD_eq_getElem?_getD, List.getElem?_map]
  cases l[(x - 1).toNat]? <;> simp [he]
theorem pxG_take {α : Type} {d : α} {l : List α} {n x : Int} (h1 : 1 ≤ x) (h2 : x ≤ n) : pxG d (l.take n.toNat) x = pxG d l x := by
  unfold pxG
  rw [List.getD_eq_getElem?_getD, List.getD_eq_getElem?_getD, List.getElem?_take, if_pos (by omega)]
theorem pxG_drop {α : Type} {d : α} {l : List α} {n x : Int} (h1 : 1 ≤ x) (h2 : 0 ≤ n) : pxG d (l.drop n.toNat) x = pxG d l (x + n) := by
  unfold pxG
  rw [List.getD_eq_getElem?_getD, List.getD_eq_getElem?_getD, List.getElem?_drop]
  congr 2; omega
theorem pxG_appL {α : Type} {d : α} {l m : List α} {x : Int} (h1 : 1 ≤ x) (h2 : x ≤ l.length) : pxG d (l ++ m) x = pxG d l x := by
  unfold pxG
  rw [List.getD_eq_getElem?_getD, List.getD_eq_getElem?_getD, List.getElem?_append_left (by omega)]
theorem pxG_appR {α : Type} {d : α} {l m : List α} {x : Int} (h2 : l.length < x) : pxG d (l ++ m) x = pxG d m (x - l.length) := by
  unfold pxG
  rw [List.getD_eq_getElem?_getD, List.getD_eq_getElem?_getD, List.getElem?_append_right (by omega)]
  congr 2; omega
theorem pxG_app1 {α : Type} {d a : α} {l : List α} {x : Int} (h2 : x = l.length + 1) : pxG d (l ++ [a]) x = a := by
  rw [pxG_appR (by omega), show x - (l.length : Int) = 1 by omega]; rfl
def pxSet {α : Type} (l : List α) (x : Int) (a : α) : List α := l.set (x - 1).toNat a
theorem pxSet_len {α : Type} {l : List α} {x : Int} {a : α} : (pxSet l x a).length = l.length := List.length_set
theorem pxG_setE {α : Type} {d a : α} {l : List α} {x : Int} (h1 : 1 ≤ x) (h2 : x ≤ l.length) : pxG d (pxSet l x a) x = a := by
  unfold pxG pxSet
  rw [List.getD_eq_getElem?_getD, List.getElem?_set_self (by omega)]; rfl
theorem pxG_setN {α : Type} {d a : α} {l : List α} {x y : Int} (h1 : 1 ≤ x) (h2 : 1 ≤ y) (h3 : y ≠ x) : pxG d (pxSet l x a) y = pxG d l y := by
  unfold pxG pxSet
  rw [List.getD_eq_getElem?_getD, List.getD_eq_getElem?_getD, List.getElem?_set_ne (by omega)]
/-- some more, the first of which becomes number x -/
def pxIns {α : Type} (l : List α) (x : Int) (m : List α) : List α := l.take (x - 1).toNat ++ (m ++ l.drop (x - 1).toNat)
theorem pxIns_len {α : Type} {l m : List α} {x : Int} : (pxIns l x m).length = l.length + m.length := by
  unfold pxIns; simp only [List.length_append, List.length_take, List.length_drop]; omega
theorem pxIns_lo {α : Type} {d : α} {l m : List α} {x y : Int} (h1 : 1 ≤ y) (h2 : y < x) (h3 : x ≤ l.length + 1) : pxG d (pxIns l x m) y = pxG d l y := by
  unfold pxIns
  rw [pxG_appL h1 (by rw [List.length_take]; omega), pxG_take h1 (by omega)]
theorem pxIns_in {α : Type} {d : α} {l m : List α} {x y : Int} (h1 : x ≤ y) (h2 : y < x + m.length) (h3 : x ≤ l.length + 1) (h4 : 1 ≤ x) : pxG d (pxIns l x m) y = pxG d m (y - x + 1) := by
  unfold pxIns
  have e : ((l.take (x - 1).toNat).length : Int) = x - 1 := by rw [List.length_take]; omega
  rw [pxG_appR (by omega), e, pxG_appL (by omega) (by omega)]
  congr 1; omega
theorem pxIns_hi {α : Type} {d : α} {l m : List α} {x y : Int} (h1 : x + m.length ≤ y) (h3 : x ≤ l.length + 1) (h4 : 1 ≤ x) : pxG d (pxIns l x m) y = pxG d l (y - m.length) := by
  unfold pxIns
  have e : ((l.take (x - 1).toNat).length : Int) = x - 1 := by rw [List.length_take]; omega
  rw [pxG_appR (by omega), e, pxG_appR (by omega), pxG_drop (by omega) (by omega)]
  congr 1; omega
def pxDel {α : Type} (l : List α) (x n : Int) : List α := l.take (x - 1).toNat ++ l.drop (x - 1 + n).toNat
theorem pxDel_len {α : Type} {l : List α} {x n : Int} (h1 : 1 ≤ x) (h2 : 0 ≤ n) (h3 : x - 1 + n ≤ l.length) : ((pxDel l x n).length : Int) = l.length - n := by
  unfold pxDel; simp only [List.length_append, List.length_take, List.length_drop]; omega
theorem pxDel_lo {α : Type} {d : α} {l : List α} {x n y : Int} (h1 : 1 ≤ y) (h2 : y < x) (h3 : x ≤ l.length + 1) : pxG d (pxDel l x n) y = pxG d l y := by
  unfold pxDel
  rw [pxG_appL h1 (by rw [List.length_take]; omega), pxG_take h1 (by omega)]
theorem pxDel_hi {α : Type} {d : α} {l : List α} {x n y : Int} (h1 : x ≤ y) (h2 : 0 ≤ n) (h3 : x ≤ l.length + 1) (h4 : 1 ≤ x) : pxG d (pxDel l x n) y = pxG d l (y + n) := by
  unfold pxDel
  have e : ((l.take (x - 1).toNat).length : Int) = x - 1 := by rw [List.length_take]; omega
  rw [pxG_appR (by omega), e, pxG_drop (by omega) (by omega)]
  congr 1; omega
theorem pxG_ext {α : Type} {d : α} {l m : List α} (h : l.length = m.length) (e : ∀ x : Int, 1 ≤ x → x ≤ l.length → pxG d l x = pxG d m x) : l = m := by
  apply List.ext_getElem? 
  intro i
  by_cases hi : i < l.length
  · have := e (i + 1) (by omega) (by omega)
    unfold pxG at this
    rw [show ((i : Int) + 1 - 1).toNat = i by omega, List.getD_eq_getElem?_getD, List.getD_eq_getElem?_getD, List.getElem?_eq_getElem hi, List.getElem?_eq_getElem (by omega : i < m.length)] at this
    rw [List.getElem?_eq_getElem hi, List.getElem?_eq_getElem (by omega : i < m.length)]
    exact congrArg some this
  · rw [List.getElem?_eq_none (by omega), List.getElem?_eq_none (by omega)]
theorem pxJ_div {a b : Int} (h1 : 0 ≤ a) (h2 : a ≤ 2147483647) (h3 : 0 < b) (h4 : b ≤ 2147483647) : pxJ a / pxJ b = pxJ (a / b) := by
  rw [← Int32.toInt_inj, Int32.toInt_div, pxJ_toInt (by omega) h2, pxJ_toInt (by omega) h4, Int.tdiv_eq_ediv_of_nonneg h1]
  have e1 : 0 ≤ a / b := Int.ediv_nonneg h1 (by omega)
  have e2 : a / b ≤ a := Int.ediv_le_self b h1
  rw [pxJ_toInt (by omega) (by omega)]
  exact Int.bmod_eq_of_le (by omega) (by omega)
theorem pxJ_b8 {a : Int} (h1 : -128 ≤ a) (h2 : a ≤ 127) : (pxJ a).toInt8.toInt32 = pxJ a := by
  have : ∀ k : Fin 256, (pxJ ((k.val : Int) - 128)).toInt8.toInt32 = pxJ ((k.val : Int) - 128) := by decide +kernel
  have h := this ⟨(a + 128).toNat, by omega⟩
  have e : (((⟨(a + 128).toNat, by omega⟩ : Fin 256).val : Int) - 128) = a := by simp; omega
  rw [e] at h
  exact h
theorem pxG_dropc {α : Type} {d : α} {l : List α} {x : Int} (h1 : 1 ≤ x) (h2 : x ≤ l.length) : l.drop (x - 1).toNat = pxG d l x :: l.drop x.toNat := by
  rw [List.drop_eq_getElem_cons (show (x - 1).toNat < l.length by omega), show (x - 1).toNat + 1 = x.toNat by omega]
  unfold pxG
  rw [List.getD_eq_getElem?_getD, List.getElem?_eq_getElem (show (x - 1).toNat < l.length by omega)]
  rfl
/-- numbers from x to y -/
def pxSub {α : Type} (l : List α) (x y : Int) : List α := (l.drop (x - 1).toNat).take (y - x + 1).toNat
theorem pxSub_len {α : Type} {l : List α} {x y : Int} (h1 : 1 ≤ x) (h2 : x ≤ y + 1) (h3 : y ≤ l.length) : ((pxSub l x y).length : Int) = y - x + 1 := by
  unfold pxSub; rw [List.length_take, List.length_drop]; omega
theorem pxSub_at {α : Type} {d : α} {l : List α} {x y z : Int} (h1 : 1 ≤ x) (h2 : 1 ≤ z) (h3 : z ≤ y - x + 1) : pxG d (pxSub l x y) z = pxG d l (x + z - 1) := by
  unfold pxSub
  rw [pxG_take h2 (by omega), pxG_drop h2 (by omega)]
  congr 1; omega

theorem pxL0 : (0 : Int32) = pxJ 0 := rfl
theorem pxL1 : (1 : Int32) = pxJ 1 := rfl
theorem pxL2 : (2 : Int32) = pxJ 2 := rfl
theorem pxL3 : (3 : Int32) = pxJ 3 := rfl
theorem pxL4 : (4 : Int32) = pxJ 4 := rfl
theorem pxL5 : (5 : Int32) = pxJ 5 := rfl
theorem pxL6 : (6 : Int32) = pxJ 6 := rfl
theorem pxL7 : (7 : Int32) = pxJ 7 := rfl
theorem pxL8 : (8 : Int32) = pxJ 8 := rfl
theorem pxL9 : (9 : Int32) = pxJ 9 := rfl
theorem pxL10 : (10 : Int32) = pxJ 10 := rfl
theorem pxL11 : (11 : Int32) = pxJ 11 := rfl
theorem pxL12 : (12 : Int32) = pxJ 12 := rfl
theorem pxL13 : (13 : Int32) = pxJ 13 := rfl
theorem pxL14 : (14 : Int32) = pxJ 14 := rfl
theorem pxL15 : (15 : Int32) = pxJ 15 := rfl
theorem pxL16 : (16 : Int32) = pxJ 16 := rfl
theorem pxL17 : (17 : Int32) = pxJ 17 := rfl
theorem pxL18 : (18 : Int32) = pxJ 18 := rfl
theorem pxL19 : (19 : Int32) = pxJ 19 := rfl
theorem pxL20 : (20 : Int32) = pxJ 20 := rfl
theorem pxL21 : (21 : Int32) = pxJ 21 := rfl
theorem pxL22 : (22 : Int32) = pxJ 22 := rfl
theorem pxL23 : (23 : Int32) = pxJ 23 := rfl
theorem pxL24 : (24 : Int32) = pxJ 24 := rfl
theorem pxL25 : (25 : Int32) = pxJ 25 := rfl
theorem pxL26 : (26 : Int32) = pxJ 26 := rfl
theorem pxL27 : (27 : Int32) = pxJ 27 := rfl
theorem pxL28 : (28 : Int32) = pxJ 28 := rfl
theorem pxL29 : (29 : Int32) = pxJ 29 := rfl
theorem pxL30 : (30 : Int32) = pxJ 30 := rfl
theorem pxL31 : (31 : Int32) = pxJ 31 := rfl
theorem pxL32 : (32 : Int32) = pxJ 32 := rfl
theorem pxL33 : (33 : Int32) = pxJ 33 := rfl
theorem pxL34 : (34 : Int32) = pxJ 34 := rfl
theorem pxL35 : (35 : Int32) = pxJ 35 := rfl
theorem pxL36 : (36 : Int32) = pxJ 36 := rfl
theorem pxL37 : (37 : Int32) = pxJ 37 := rfl
theorem pxL38 : (38 : Int32) = pxJ 38 := rfl
theorem pxL39 : (39 : Int32) = pxJ 39 := rfl
theorem pxL40 : (40 : Int32) = pxJ 40 := rfl
theorem pxL41 : (41 : Int32) = pxJ 41 := rfl
theorem pxL42 : (42 : Int32) = pxJ 42 := rfl
theorem pxL43 : (43 : Int32) = pxJ 43 := rfl
theorem pxL44 : (44 : Int32) = pxJ 44 := rfl
theorem pxL45 : (45 : Int32) = pxJ 45 := rfl
theorem pxL46 : (46 : Int32) = pxJ 46 := rfl
theorem pxL47 : (47 : Int32) = pxJ 47 := rfl
theorem pxL48 : (48 : Int32) = pxJ 48 := rfl
theorem pxL49 : (49 : Int32) = pxJ 49 := rfl
theorem pxL51 : (51 : Int32) = pxJ 51 := rfl
theorem pxL57 : (57 : Int32) = pxJ 57 := rfl
theorem pxL58 : (58 : Int32) = pxJ 58 := rfl
theorem pxL59 : (59 : Int32) = pxJ 59 := rfl
theorem pxL60 : (60 : Int32) = pxJ 60 := rfl
theorem pxL61 : (61 : Int32) = pxJ 61 := rfl
theorem pxL62 : (62 : Int32) = pxJ 62 := rfl
theorem pxL63 : (63 : Int32) = pxJ 63 := rfl
theorem pxL64 : (64 : Int32) = pxJ 64 := rfl
theorem pxL65 : (65 : Int32) = pxJ 65 := rfl
theorem pxL66 : (66 : Int32) = pxJ 66 := rfl
theorem pxL67 : (67 : Int32) = pxJ 67 := rfl
theorem pxL68 : (68 : Int32) = pxJ 68 := rfl
theorem pxL69 : (69 : Int32) = pxJ 69 := rfl
theorem pxL70 : (70 : Int32) = pxJ 70 := rfl
theorem pxL71 : (71 : Int32) = pxJ 71 := rfl
theorem pxL72 : (72 : Int32) = pxJ 72 := rfl
theorem pxL73 : (73 : Int32) = pxJ 73 := rfl
theorem pxL74 : (74 : Int32) = pxJ 74 := rfl
theorem pxL75 : (75 : Int32) = pxJ 75 := rfl
theorem pxL76 : (76 : Int32) = pxJ 76 := rfl
theorem pxL77 : (77 : Int32) = pxJ 77 := rfl
theorem pxL78 : (78 : Int32) = pxJ 78 := rfl
theorem pxL79 : (79 : Int32) = pxJ 79 := rfl
theorem pxL80 : (80 : Int32) = pxJ 80 := rfl
theorem pxL81 : (81 : Int32) = pxJ 81 := rfl
theorem pxL82 : (82 : Int32) = pxJ 82 := rfl
theorem pxL83 : (83 : Int32) = pxJ 83 := rfl
theorem pxL84 : (84 : Int32) = pxJ 84 := rfl
theorem pxL85 : (85 : Int32) = pxJ 85 := rfl
theorem pxL86 : (86 : Int32) = pxJ 86 := rfl
theorem pxL87 : (87 : Int32) = pxJ 87 := rfl
theorem pxL88 : (88 : Int32) = pxJ 88 := rfl
theorem pxL89 : (89 : Int32) = pxJ 89 := rfl
theorem pxL90 : (90 : Int32) = pxJ 90 := rfl
theorem pxL91 : (91 : Int32) = pxJ 91 := rfl
theorem pxL92 : (92 : Int32) = pxJ 92 := rfl
theorem pxL93 : (93 : Int32) = pxJ 93 := rfl
theorem pxL94 : (94 : Int32) = pxJ 94 := rfl
theorem pxL95 : (95 : Int32) = pxJ 95 := rfl
theorem pxL96 : (96 : Int32) = pxJ 96 := rfl
theorem pxL97 : (97 : Int32) = pxJ 97 := rfl
theorem pxL98 : (98 : Int32) = pxJ 98 := rfl
theorem pxL99 : (99 : Int32) = pxJ 99 := rfl
theorem pxL100 : (100 : Int32) = pxJ 100 := rfl
theorem pxL101 : (101 : Int32) = pxJ 101 := rfl
theorem pxL102 : (102 : Int32) = pxJ 102 := rfl
theorem pxL103 : (103 : Int32) = pxJ 103 := rfl
theorem pxL104 : (104 : Int32) = pxJ 104 := rfl
theorem pxL105 : (105 : Int32) = pxJ 105 := rfl
theorem pxL106 : (106 : Int32) = pxJ 106 := rfl
theorem pxL107 : (107 : Int32) = pxJ 107 := rfl
theorem pxL108 : (108 : Int32) = pxJ 108 := rfl
theorem pxL109 : (109 : Int32) = pxJ 109 := rfl
theorem pxL110 : (110 : Int32) = pxJ 110 := rfl
theorem pxL111 : (111 : Int32) = pxJ 111 := rfl
theorem pxL112 : (112 : Int32) = pxJ 112 := rfl
theorem pxL113 : (113 : Int32) = pxJ 113 := rfl
theorem pxL114 : (114 : Int32) = pxJ 114 := rfl
theorem pxL115 : (115 : Int32) = pxJ 115 := rfl
theorem pxL116 : (116 : Int32) = pxJ 116 := rfl
theorem pxL117 : (117 : Int32) = pxJ 117 := rfl
theorem pxL118 : (118 : Int32) = pxJ 118 := rfl
theorem pxL119 : (119 : Int32) = pxJ 119 := rfl
theorem pxL120 : (120 : Int32) = pxJ 120 := rfl
theorem pxL121 : (121 : Int32) = pxJ 121 := rfl
theorem pxL122 : (122 : Int32) = pxJ 122 := rfl
theorem pxL123 : (123 : Int32) = pxJ 123 := rfl
theorem pxL124 : (124 : Int32) = pxJ 124 := rfl
theorem pxL125 : (125 : Int32) = pxJ 125 := rfl
theorem pxL126 : (126 : Int32) = pxJ 126 := rfl
theorem pxL200 : (200 : Int32) = pxJ 200 := rfl
theorem pxL240 : (240 : Int32) = pxJ 240 := rfl
theorem pxL287 : (287 : Int32) = pxJ 287 := rfl
theorem pxL388 : (388 : Int32) = pxJ 388 := rfl
theorem pxL400 : (400 : Int32) = pxJ 400 := rfl
theorem pxL429 : (429 : Int32) = pxJ 429 := rfl
theorem pxL431 : (431 : Int32) = pxJ 431 := rfl
theorem pxL440 : (440 : Int32) = pxJ 440 := rfl
theorem pxL1240 : (1240 : Int32) = pxJ 1240 := rfl
theorem pxL1600 : (1600 : Int32) = pxJ 1600 := rfl
theorem pxL1681 : (1681 : Int32) = pxJ 1681 := rfl
theorem pxL12028 : (12028 : Int32) = pxJ 12028 := rfl
theorem pxL13849 : (13849 : Int32) = pxJ 13849 := rfl
theorem pxL14880 : (14880 : Int32) = pxJ 14880 := rfl
theorem pxL25173 : (25173 : Int32) = pxJ 25173 := rfl
theorem pxL26908 : (26908 : Int32) = pxJ 26908 := rfl
theorem pxL49600 : (49600 : Int32) = pxJ 49600 := rfl
theorem pxL65535 : (65535 : Int32) = pxJ 65535 := rfl
theorem pxL65536 : (65536 : Int32) = pxJ 65536 := rfl
