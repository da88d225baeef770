/-! the class: differ, pairOf -/
theorem pw41 {a b : Int} : (((pxJ a - (1 : Int32)) * (41 : Int32)) + pxJ b) - (1 : Int32) = pxJ (41 * (a - 1) + b - 1) := by
  rw [show (1 : Int32) = pxJ 1 from rfl, show (41 : Int32) = pxJ 41 from rfl, pxJ_sub, pxJ_mul, pxJ_add, pxJ_sub, show (a - 1) * 41 + b - 1 = 41 * (a - 1) + b - 1 by omega]
/-- a cell of the common counts -/
def pwCe (h : jw_H) (rs fs : List (List Int)) (a b : Int) : Prop := pxM h 8 (41 * (a - 1) + b - 1).toNat = pzCo rs fs a b
theorem pzCo_0 {rs fs : List (List Int)} (l : rs.length ≤ 40) (l' : fs.length ≤ 40) {a b : Int} (a1 : 1 ≤ a) (b1 : 1 ≤ b) (o : (rs.length : Int) < a ∨ (fs.length : Int) < b) : pzCo rs fs a b = 0 := by rw [pzCo_e l l' a1 b1, if_pos o]
section
variable {h : jw_H} {α : pzA} {n : Int} {T : pxTx} {fs : List (List Int)} {ρ : Nat}
theorem c_common {a b : Int} (C : pwC h) (a1 : 1 ≤ a) (a2 : a ≤ 41) (b1 : 1 ≤ b) (b2 : b ≤ 41) : f_X11_commonFrom h 0 (pxJ a) (pxJ b) = some (pxJ (pxM h 8 (41 * (a - 1) + b - 1).toNat), h) := by
  have t8 := C.2.2.2.2.2.2.1
  unfold f_X11_commonFrom g_X11_commonFrom_b34
  rw [pw41, if_neg (show ¬ (pxJ (41 * (a - 1) + b - 1) < 0) from fun z => by
    have := (pxJ_lt (a := 41 * (a - 1) + b - 1) (b := 0) (by omega) (by omega) (by omega) (by omega)).mp z
    omega), C.r (3, 8) (by decide), px_bs, px_ln (by rw [t8]; decide), t8, px_bs, if_neg (show ¬ (pxJ ((1681 : Nat) : Int) ≤ pxJ (41 * (a - 1) + b - 1)) from fun z => by
    have := (pxJ_le (a := ((1681 : Nat) : Int)) (b := 41 * (a - 1) + b - 1) (by omega) (by omega) (by omega) (by omega)).mp z
    omega), px_bs, px_ai (by rw [t8]) (by omega) (by rw [t8]; show 41 * (a - 1) + b - 1 < ((1681 : Nat) : Int); omega) (by omega), px_bs]
theorem c_mc_b45 {h0 : jw_H} {x : Int} {k35 : jw_H → Nat → Option Nat → Int32 → Option (Unit × jw_H)} {Q : Unit → jw_H → Prop} (C0 : pwC h0) (I0 : pxIX h0 T) (R0 : pxIR h0 ρ 40 fs) (hr : 9 < ρ) (x1 : 1 ≤ x) (x2 : x ≤ T.1.length)
    (next : ∀ h, pxF (fun k _ => k = 8) h0 h → (∀ a b : Int, x ≤ a → a ≤ 41 → 1 ≤ b → b ≤ 41 → pwCe h (pxRs T.1) fs a b) → (∀ a b : Int, 1 ≤ a → a ≤ 41 → (fs.length : Int) < b → b ≤ 41 → pwCe h (pxRs T.1) fs a b) → pxW (k35 h 0 (some ρ) (pxJ (x - 1))) Q) :
    ∀ (m N : Nat) (h : jw_H) (y : Int), (m : Int) = y → y ≤ fs.length → m < N → pxF (fun k _ => k = 8) h0 h → (∀ a b : Int, x < a → a ≤ 41 → 1 ≤ b → b ≤ 41 → pwCe h (pxRs T.1) fs a b) → (∀ a b : Int, 1 ≤ a → a ≤ 41 → (fs.length : Int) < b → b ≤ 41 → pwCe h (pxRs T.1) fs a b) → (∀ b : Int, y < b → b ≤ 41 → pwCe h (pxRs T.1) fs x b) →
    pxW (f_X11_measureCommon_b45 k35 N h 0 (some ρ) (pxJ x) (pxJ y)) Q := by
  have l40 := I0.len
  have f40 := R0.2.1
  have rl : (pxRs T.1).length = T.1.length := pxRs_len _
  intro m
  induction m with
  | zero =>
    intro N h y hy y1 hN F A B D
    obtain ⟨N, rfl, -⟩ := px_fu hN
    rw [u_X11_measureCommon_b45]
    unfold g_X11_measureCommon_b45
    rw [if_pos (show pxJ y < (1 : Int32) from (pxJ_lt (a := y) (b := 1) (by omega) (by omega) (by omega) (by omega)).mpr (by omega)), show (-1 : Int32) = pxJ (-1) by decide, pxJ_add, show x + -1 = x - 1 by omega]
    exact next h F (fun a b a1 a2 b1 b2 => by
      by_cases c : a = x
      · subst c; exact D b (by omega) b2
      · exact A a b (by omega) a2 b1 b2) B
  | succ m ih =>
    intro N h y hy y1 hN F A B D
    obtain ⟨N, rfl, hN⟩ := px_fu hN
    have C : pwC h := C0.fr F (fun f _ => by omega) (fun f => by omega)
    have t8 := C.2.2.2.2.2.2.1
    have I : pxIX h T := pxIT.fr I0 F (fun k f _ _ => by omega)
    have R : pxIR h ρ 40 fs := R0.fr F (fun k f _ _ => by omega)
    have ec := pzCo_e (rs := pxRs T.1) (fs := fs) (a := x) (b := y) (by omega) f40 (by omega) (by omega)
    have cb := pzCo_b (rs := pxRs T.1) (fs := fs) (a := x) (b := y)
    have st : ∀ v : Int, v = pzCo (pxRs T.1) fs x y → pxW (g_X11_measureCommon_b100 (f_X11_measureCommon_b45 k35 N) h 0 (some ρ) (pxJ x) (pxJ y) (pxJ v)) Q := by
      intro v ev
      unfold g_X11_measureCommon_b100 g_X11_measureCommon_b138
      rw [pw41, if_neg (show ¬ (pxJ (41 * (x - 1) + y - 1) < 0) from fun z => by
        have := (pxJ_lt (a := 41 * (x - 1) + y - 1) (b := 0) (by omega) (by omega) (by omega) (by omega)).mp z
        omega), C.r (3, 8) (by decide), px_bs, px_ln (by rw [t8]; decide), t8, px_bs, if_neg (show ¬ (pxJ ((1681 : Nat) : Int) ≤ pxJ (41 * (x - 1) + y - 1)) from fun z => by
        have := (pxJ_le (a := ((1681 : Nat) : Int)) (b := 41 * (x - 1) + y - 1) (by omega) (by omega) (by omega) (by omega)).mp z
        omega), px_bs, px_si (by rw [t8]) (by omega) (by rw [t8]; show 41 * (x - 1) + y - 1 < ((1681 : Nat) : Int); omega) (by omega), px_bs, show (-1 : Int32) = pxJ (-1) by decide, pxJ_add, show y + -1 = y - 1 by omega]
      refine ih N _ (y - 1) (by omega) (by omega) (by omega) (F.trans (pxF.setI rfl)) (fun a b a1 a2 b1 b2 => ?_) (fun a b a1 a2 b1 b2 => ?_) (fun b b1 b2 => ?_)
      · unfold pwCe
        rw [pxM_ne (by omega)]
        exact A a b a1 a2 b1 b2
      · unfold pwCe
        rw [pxM_ne (by omega)]
        exact B a b a1 a2 b1 b2
      · by_cases c : b = y
        · subst c
          unfold pwCe
          rw [pxM_eq (by omega) (by omega)]
          exact ev
        · unfold pwCe
          rw [pxM_ne (by omega)]
          exact D b (by omega) b2
    have q1 : pwCe h (pxRs T.1) fs (x + 1) y := A (x + 1) y (by omega) (by omega) (by omega) (by omega)
    have q2 : pwCe h (pxRs T.1) fs x (y + 1) := D (y + 1) (by omega) (by omega)
    have q3 : pwCe h (pxRs T.1) fs (x + 1) (y + 1) := A (x + 1) (y + 1) (by omega) (by omega) (by omega) (by omega)
    unfold pwCe at q1 q2 q3
    have b1 := pzCo_b (rs := pxRs T.1) (fs := fs) (a := x + 1) (b := y)
    have b2 := pzCo_b (rs := pxRs T.1) (fs := fs) (a := x) (b := y + 1)
    rw [if_neg (show ¬ (((pxRs T.1).length : Int) < x ∨ (fs.length : Int) < y) by omega)] at ec
    rw [u_X11_measureCommon_b45]
    unfold g_X11_measureCommon_b45
    rw [if_neg (show ¬ (pxJ y < (1 : Int32)) from fun z => by
      have := (pxJ_lt (a := y) (b := 1) (by omega) (by omega) (by omega) (by omega)).mp z
      omega), C.r (6, 255) (by decide), px_bs, px_gR I.1.1, I.1.2.1, px_bs, px_rc I.2.1.1.1, px_bs, s_X7_same I.2.1 R x1 (by omega) (by omega) y1, px_b2]
    by_cases d : pxRw (pxRs T.1) x = pxRw fs y
    · rw [if_pos d, if_neg (show ¬ (pxJ 1 = 0) by decide), px_rc C.1, px_bs, show pxJ x + (1 : Int32) = pxJ (x + 1) from pxJ_add x 1, show pxJ y + (1 : Int32) = pxJ (y + 1) from pxJ_add y 1, c_common C (by omega) (by omega) (by omega) (by omega), px_b2, q3, show pxJ (pzCo (pxRs T.1) fs (x + 1) (y + 1)) + (1 : Int32) = pxJ (pzCo (pxRs T.1) fs (x + 1) (y + 1) + 1) from pxJ_add _ 1]
      rw [if_pos d] at ec
      exact st _ ec.symm
    · rw [if_neg d, if_pos (show pxJ 0 = 0 from rfl), px_rc C.1, px_bs, show pxJ x + (1 : Int32) = pxJ (x + 1) from pxJ_add x 1, show pxJ y + (1 : Int32) = pxJ (y + 1) from pxJ_add y 1, c_common C (by omega) (by omega) (by omega) (by omega), px_b2, q1, px_rc C.1, px_bs, c_common C (by omega) (by omega) (by omega) (by omega), px_b2, q2, px_max (by omega) (by omega) (by omega) (by omega), px_b2]
      rw [if_neg d] at ec
      exact st _ ec.symm
theorem c_mc_b35 {h0 : jw_H} (C0 : pwC h0) (I0 : pxIX h0 T) (R0 : pxIR h0 ρ 40 fs) (hr : 9 < ρ) :
    ∀ (m N : Nat) (h : jw_H) (x : Int), (m : Int) = x → x ≤ T.1.length → m < N → pxF (fun k _ => k = 8) h0 h → (∀ a b : Int, x < a → a ≤ 41 → 1 ≤ b → b ≤ 41 → pwCe h (pxRs T.1) fs a b) → (∀ a b : Int, 1 ≤ a → a ≤ 41 → (fs.length : Int) < b → b ≤ 41 → pwCe h (pxRs T.1) fs a b) →
    pxW (f_X11_measureCommon_b35 N h 0 (some ρ) (pxJ x)) fun _ h' => pxF (fun k _ => k = 8) h0 h' ∧ ∀ a b : Int, 1 ≤ a → a ≤ 41 → 1 ≤ b → b ≤ 41 → pwCe h' (pxRs T.1) fs a b := by
  have l40 := I0.len
  have f40 := R0.2.1
  intro m
  induction m with
  | zero =>
    intro N h x hx x1 hN F A B
    obtain ⟨N, rfl, -⟩ := px_fu hN
    rw [u_X11_measureCommon_b35]
    unfold g_X11_measureCommon_b35
    rw [if_pos (show pxJ x < (1 : Int32) from (pxJ_lt (a := x) (b := 1) (by omega) (by omega) (by omega) (by omega)).mpr (by omega))]
    exact pxW_some.mpr ⟨F, fun a b a1 a2 b1 b2 => A a b (by omega) a2 b1 b2⟩
  | succ m ih =>
    intro N h x hx x1 hN F A B
    obtain ⟨N, rfl, hN⟩ := px_fu hN
    have R : pxIR h ρ 40 fs := R0.fr F (fun k f _ _ => by omega)
    rw [u_X11_measureCommon_b35]
    unfold g_X11_measureCommon_b35
    rw [if_neg (show ¬ (pxJ x < (1 : Int32)) from fun z => by
      have := (pxJ_lt (a := x) (b := 1) (by omega) (by omega) (by omega) (by omega)).mp z
      omega), px_gI R.1.1, px_bs, R.2.2.2.1]
    exact c_mc_b45 C0 I0 R0 hr (by omega) x1 (fun h2 F2 A2 B2 => ih N h2 (x - 1) (by omega) (by omega) (by omega) F2 (fun a b a1 a2 b1 b2 => A2 a b (by omega) a2 b1 b2) B2) fs.length jw_FU h _ rfl (Int.le_refl _) (by unfold jw_FU; omega) F A B (fun b b1 b2 => B x b (by omega) (by omega) b1 b2)
theorem c_mc_b2 {h0 : jw_H} {Q : Unit → jw_H → Prop} (C0 : pwC h0) (I0 : pxIX h0 T)
    (next : ∀ h, pxF (fun k _ => k = 8) h0 h → (∀ j : Int, 0 ≤ j → j < 1681 → pxM h 8 j.toNat = 0) → pxW (f_X11_measureCommon_b35 jw_FU h 0 (some ρ) (pxJ (T.1.length : Int))) Q) :
    ∀ (m N : Nat) (h : jw_H) (j : Int), j + m = 1681 → 0 ≤ j → m < N → pxF (fun k _ => k = 8) h0 h → (∀ i : Int, 0 ≤ i → i < j → pxM h 8 i.toNat = 0) → pxW (f_X11_measureCommon_b2 N h 0 (some ρ) (pxJ j)) Q := by
  intro m
  induction m with
  | zero =>
    intro N h j hj j0 hN F e
    obtain ⟨N, rfl, -⟩ := px_fu hN
    have C : pwC h := C0.fr F (fun f _ => by omega) (fun f => by omega)
    have t8 := C.2.2.2.2.2.2.1
    have I : pxIX h T := pxIT.fr I0 F (fun k f _ _ => by omega)
    rw [u_X11_measureCommon_b2]
    unfold g_X11_measureCommon_b2
    rw [C.r (3, 8) (by decide), px_bs, px_ln (by rw [t8]; decide), t8, px_bs, if_pos (show pxJ ((1681 : Nat) : Int) ≤ pxJ j from (pxJ_le (by omega) (by omega) (by omega) (by omega)).mpr (by omega)), C.r (6, 255) (by decide), px_bs, px_gR I.1.1, I.1.2.1, px_bs, px_gI I.2.1.1.1, px_bs, I.c2]
    exact next h F (fun i i0 i1 => e i i0 (by omega))
  | succ m ih =>
    intro N h j hj j0 hN F e
    obtain ⟨N, rfl, hN⟩ := px_fu hN
    have C : pwC h := C0.fr F (fun f _ => by omega) (fun f => by omega)
    have t8 := C.2.2.2.2.2.2.1
    rw [u_X11_measureCommon_b2]
    unfold g_X11_measureCommon_b2
    rw [C.r (3, 8) (by decide), px_bs, px_ln (by rw [t8]; decide), t8, px_bs, if_neg (show ¬ (pxJ ((1681 : Nat) : Int) ≤ pxJ j) from fun z => by
      have := (pxJ_le (a := ((1681 : Nat) : Int)) (b := j) (by omega) (by omega) (by omega) (by omega)).mp z
      omega), px_bs, show (0 : Int32) = pxJ 0 from rfl, px_si (by rw [t8]) j0 (by rw [t8]; show j < ((1681 : Nat) : Int); omega) (by omega), px_bs, show pxJ j + (1 : Int32) = pxJ (j + 1) from pxJ_add j 1]
    refine ih N _ (j + 1) (by omega) (by omega) (by omega) (F.trans (pxF.setI rfl)) (fun i i0 i1 => ?_)
    by_cases c : i = j
    · rw [c, pxM_eq (by omega) (by omega)]
    · rw [pxM_ne (by omega)]; exact e i i0 (by omega)
theorem c_measure (C : pwC h) (I : pxIX h T) (R : pxIR h ρ 40 fs) (hr : 9 < ρ) :
    pxW (f_X11_measureCommon h 0 (some ρ)) fun _ h' => pxF (fun k _ => k = 8) h h' ∧ ∀ a b : Int, 1 ≤ a → a ≤ 41 → 1 ≤ b → b ≤ 41 → pwCe h' (pxRs T.1) fs a b := by
  have l40 := I.len
  have f40 := R.2.1
  have rl : (pxRs T.1).length = T.1.length := pxRs_len _
  unfold f_X11_measureCommon
  rw [show (0 : Int32) = pxJ 0 from rfl]
  refine c_mc_b2 C I (fun h2 F2 e => ?_) 1681 jw_FU h 0 (by omega) (by omega) (by unfold jw_FU; omega) pxF.rfl (fun i i0 i1 => by omega)
  exact c_mc_b35 C I R hr T.1.length jw_FU h2 _ rfl (Int.le_refl _) (by unfold jw_FU; omega) F2 (fun a b a1 a2 b1 b2 => by
    unfold pwCe
    rw [e _ (by omega) (by omega), pzCo_0 (by omega) f40 (by omega) b1 (Or.inl (by omega))]) (fun a b a1 a2 b1 b2 => by
    unfold pwCe
    rw [e _ (by omega) (by omega), pzCo_0 (by omega) f40 a1 (by omega) (Or.inr b1)])
set_option maxHeartbeats 4000000 in
theorem c_pu_b39 {h0 : jw_H} (C0 : pwC h0) (I0 : pxIX h0 T) (R0 : pxIR h0 ρ 40 fs) (hr : 9 < ρ) (E0 : ∀ a b : Int, 1 ≤ a → a ≤ 41 → 1 ≤ b → b ≤ 41 → pwCe h0 (pxRs T.1) fs a b) :
    ∀ (m N : Nat) (h : jw_H) (a b c : Int) (pr : Int → Int), m ≤ 80 → m < N → 1 ≤ a → a ≤ T.1.length + 1 → 1 ≤ b → b ≤ fs.length + 1 → pxF (fun k _ => k = 9) h0 h → (∀ x : Int, 1 ≤ x → x ≤ 40 → pxM h 9 (x - 1).toNat = pr x) →
    pxW (f_X11_pairUp_b39 N h 0 (some ρ) (pxJ c) (pxJ a) (pxJ b) (pxJ (80 - (m : Int)))) fun v h' => pxF (fun k _ => k = 9) h0 h' ∧ v = pxJ (pzPr (pxRs T.1) fs m a b c pr).1 ∧ ∀ x : Int, 1 ≤ x → x ≤ 40 → pxM h' 9 (x - 1).toNat = (pzPr (pxRs T.1) fs m a b c pr).2 x := by
  have l40 := I0.len
  have f40 := R0.2.1
  have rl : (pxRs T.1).length = T.1.length := pxRs_len _
  intro m
  induction m with
  | zero =>
    intro N h a b c pr m80 hN a1 a2 b1 b2 F P
    obtain ⟨N, rfl, -⟩ := px_fu hN
    rw [u_X11_pairUp_b39]
    unfold g_X11_pairUp_b39
    rw [if_pos (show (80 : Int32) ≤ pxJ (80 - ((0 : Nat) : Int)) by decide)]
    exact pxW_some.mpr ⟨F, rfl, P⟩
  | succ m ih =>
    intro N h a b c pr m80 hN a1 a2 b1 b2 F P
    obtain ⟨N, rfl, hN⟩ := px_fu hN
    have C : pwC h := C0.fr F (fun f _ => by omega) (fun f => by omega)
    have t9 := C.2.2.2.2.2.2.2
    have I : pxIX h T := pxIT.fr I0 F (fun k f _ _ => by omega)
    have R : pxIR h ρ 40 fs := R0.fr F (fun k f _ _ => by omega)
    have eP : pzPr (pxRs T.1) fs (m + 1) a b c pr = if ((pxRs T.1).length : Int) < a ∨ (fs.length : Int) < b then (c, pr) else if pxRw (pxRs T.1) a = pxRw fs b then pzPr (pxRs T.1) fs m (a + 1) (b + 1) (c + 1) (fun j => if j = a then b else pr j) else if pzCo (pxRs T.1) fs (a + 1) b < pzCo (pxRs T.1) fs a (b + 1) then pzPr (pxRs T.1) fs m a (b + 1) c pr else pzPr (pxRs T.1) fs m (a + 1) b c pr := rfl
    rw [eP, u_X11_pairUp_b39]
    unfold g_X11_pairUp_b39
    rw [if_neg (show ¬ ((80 : Int32) ≤ pxJ (80 - ((m + 1 : Nat) : Int))) from fun z => by
      have := (pxJ_le (a := 80) (b := 80 - ((m + 1 : Nat) : Int)) (by omega) (by omega) (by omega) (by omega)).mp z
      omega), C.r (6, 255) (by decide), px_bs, px_gR I.1.1, I.1.2.1, px_bs, px_rc I.2.1.1.1, px_bs, s_X7_has I.2.1 (by omega) (by omega), px_b2]
    by_cases c1 : (T.1.length : Int) < a
    · rw [if_neg (show ¬ (1 ≤ a ∧ a ≤ ((pxRs T.1).length : Int)) by omega), if_pos (show pxJ 0 = 0 from rfl), if_pos (show ((pxRs T.1).length : Int) < a ∨ (fs.length : Int) < b by omega)]
      exact pxW_some.mpr ⟨F, rfl, P⟩
    rw [if_pos (show 1 ≤ a ∧ a ≤ ((pxRs T.1).length : Int) by omega), if_neg (show ¬ (pxJ 1 = 0) by decide), px_rc R.1.1, px_bs, s_X7_has R (by omega) (by omega), px_b2]
    by_cases c2 : (fs.length : Int) < b
    · rw [if_neg (show ¬ (1 ≤ b ∧ b ≤ (fs.length : Int)) by omega), if_pos (show pxJ 0 = 0 from rfl), if_pos (show ((pxRs T.1).length : Int) < a ∨ (fs.length : Int) < b by omega)]
      exact pxW_some.mpr ⟨F, rfl, P⟩
    rw [if_pos (show 1 ≤ b ∧ b ≤ (fs.length : Int) by omega), if_neg (show ¬ (pxJ 1 = 0) by decide), if_neg (show ¬ (((pxRs T.1).length : Int) < a ∨ (fs.length : Int) < b) by omega), C.r (6, 255) (by decide), px_bs, px_gR I.1.1, I.1.2.1, px_bs, px_rc I.2.1.1.1, px_bs, s_X7_same I.2.1 R a1 (by omega) b1 (by omega), px_b2]
    by_cases d : pxRw (pxRs T.1) a = pxRw fs b
    · rw [if_pos d, if_pos d, if_neg (show ¬ (pxJ 1 = 0) by decide), C.r (4, 9) (by decide), px_bs, px_ln (by rw [t9]; decide), t9, px_bs, if_neg (show ¬ (pxJ ((40 : Nat) : Int) < pxJ a) from fun z => by
        have := (pxJ_lt (a := ((40 : Nat) : Int)) (b := a) (by omega) (by omega) (by omega) (by omega)).mp z
        omega), px_bs, show pxJ a - (1 : Int32) = pxJ (a - 1) from pxJ_sub a 1, px_si (by rw [t9]) (by omega) (by rw [t9]; show a - 1 < ((40 : Nat) : Int); omega) (by omega), px_bs]
      unfold g_X11_pairUp_b105 g_X11_pairUp_b147
      rw [show pxJ a + (1 : Int32) = pxJ (a + 1) from pxJ_add a 1, show pxJ b + (1 : Int32) = pxJ (b + 1) from pxJ_add b 1, show pxJ c + (1 : Int32) = pxJ (c + 1) from pxJ_add c 1, show pxJ (80 - ((m + 1 : Nat) : Int)) + (1 : Int32) = pxJ (80 - (m : Int)) by rw [show (1 : Int32) = pxJ 1 from rfl, pxJ_add, show 80 - ((m + 1 : Nat) : Int) + 1 = 80 - (m : Int) by omega]]
      refine ih N _ (a + 1) (b + 1) (c + 1) _ (by omega) (by omega) (by omega) (by omega) (by omega) (by omega) (F.trans (pxF.setI rfl)) (fun x x1 x2 => ?_)
      show _ = if x = a then b else pr x
      by_cases e : x = a
      · rw [if_pos e, e, pxM_eq (by omega) (by omega)]
      · rw [if_neg e, pxM_ne (by omega)]
        exact P x x1 x2
    · have q1 : pxM h 8 (41 * (a + 1 - 1) + b - 1).toNat = pzCo (pxRs T.1) fs (a + 1) b := by
        rw [F.m (by omega)]
        exact E0 (a + 1) b (by omega) (by omega) (by omega) (by omega)
      have q2 : pxM h 8 (41 * (a - 1) + (b + 1) - 1).toNat = pzCo (pxRs T.1) fs a (b + 1) := by
        rw [F.m (by omega)]
        exact E0 a (b + 1) (by omega) (by omega) (by omega) (by omega)
      have b1' := pzCo_b (rs := pxRs T.1) (fs := fs) (a := a + 1) (b := b)
      have b2' := pzCo_b (rs := pxRs T.1) (fs := fs) (a := a) (b := b + 1)
      rw [if_neg d, if_neg d, if_pos (show pxJ 0 = 0 from rfl), px_rc C.1, px_bs, show pxJ a + (1 : Int32) = pxJ (a + 1) from pxJ_add a 1, show pxJ b + (1 : Int32) = pxJ (b + 1) from pxJ_add b 1, c_common C (by omega) (by omega) (by omega) (by omega), px_b2, q1, px_rc C.1, px_bs, c_common C (by omega) (by omega) (by omega) (by omega), px_b2, q2]
      unfold g_X11_pairUp_b147
      rw [show pxJ (80 - ((m + 1 : Nat) : Int)) + (1 : Int32) = pxJ (80 - (m : Int)) by rw [show (1 : Int32) = pxJ 1 from rfl, pxJ_add, show 80 - ((m + 1 : Nat) : Int) + 1 = 80 - (m : Int) by omega]]
      by_cases g : pzCo (pxRs T.1) fs (a + 1) b < pzCo (pxRs T.1) fs a (b + 1)
      · rw [if_pos (show pxJ (pzCo (pxRs T.1) fs (a + 1) b) < pxJ (pzCo (pxRs T.1) fs a (b + 1)) from (pxJ_lt (by omega) (by omega) (by omega) (by omega)).mpr g), if_pos g]
        exact ih N h a (b + 1) c pr (by omega) (by omega) a1 (by omega) (by omega) (by omega) F P
      · rw [if_neg (show ¬ (pxJ (pzCo (pxRs T.1) fs (a + 1) b) < pxJ (pzCo (pxRs T.1) fs a (b + 1))) from fun z => g ((pxJ_lt (by omega) (by omega) (by omega) (by omega)).mp z)), if_neg g]
        exact ih N h (a + 1) b c pr (by omega) (by omega) (by omega) (by omega) b1 (by omega) F P
theorem c_pu_b7 {h0 : jw_H} {Q : Int32 → jw_H → Prop} (C0 : pwC h0)
    (next : ∀ h, pxF (fun k _ => k = 9) h0 h → (∀ x : Int, 1 ≤ x → x ≤ 40 → pxM h 9 (x - 1).toNat = -1) → pxW (f_X11_pairUp_b39 jw_FU h 0 (some ρ) (pxJ 0) (pxJ 1) (pxJ 1) (pxJ (80 - ((80 : Nat) : Int)))) Q) :
    ∀ (m N : Nat) (h : jw_H) (j : Int), j + m = 40 → 0 ≤ j → m < N → pxF (fun k _ => k = 9) h0 h → (∀ x : Int, 1 ≤ x → x ≤ j → pxM h 9 (x - 1).toNat = -1) → pxW (f_X11_pairUp_b7 N h 0 (some ρ) (pxJ j)) Q := by
  intro m
  induction m with
  | zero =>
    intro N h j hj j0 hN F e
    obtain ⟨N, rfl, -⟩ := px_fu hN
    have C : pwC h := C0.fr F (fun f _ => by omega) (fun f => by omega)
    have t9 := C.2.2.2.2.2.2.2
    rw [u_X11_pairUp_b7]
    unfold g_X11_pairUp_b7
    rw [C.r (4, 9) (by decide), px_bs, px_ln (by rw [t9]; decide), t9, px_bs, if_pos (show pxJ ((40 : Nat) : Int) ≤ pxJ j from (pxJ_le (by omega) (by omega) (by omega) (by omega)).mpr (by omega))]
    have q := next h F (fun x x1 x2 => e x x1 (by omega))
    rw [show pxJ (80 - ((80 : Nat) : Int)) = (0 : Int32) by decide, show pxJ 1 = (1 : Int32) from rfl, show pxJ 0 = (0 : Int32) from rfl] at q
    exact q
  | succ m ih =>
    intro N h j hj j0 hN F e
    obtain ⟨N, rfl, hN⟩ := px_fu hN
    have C : pwC h := C0.fr F (fun f _ => by omega) (fun f => by omega)
    have t9 := C.2.2.2.2.2.2.2
    rw [u_X11_pairUp_b7]
    unfold g_X11_pairUp_b7
    rw [C.r (4, 9) (by decide), px_bs, px_ln (by rw [t9]; decide), t9, px_bs, if_neg (show ¬ (pxJ ((40 : Nat) : Int) ≤ pxJ j) from fun z => by
      have := (pxJ_le (a := ((40 : Nat) : Int)) (b := j) (by omega) (by omega) (by omega) (by omega)).mp z
      omega), px_bs, show (-1 : Int32) = pxJ (-1) by decide, px_si (by rw [t9]) j0 (by rw [t9]; show j < ((40 : Nat) : Int); omega) (by omega), px_bs, show pxJ j + (1 : Int32) = pxJ (j + 1) from pxJ_add j 1]
    refine ih N _ (j + 1) (by omega) (by omega) (by omega) (F.trans (pxF.setI rfl)) (fun x x1 x2 => ?_)
    by_cases c : x = j + 1
    · rw [c, show j + 1 - 1 = j by omega, pxM_eq (by omega) (by omega)]
    · rw [pxM_ne (by omega)]; exact e x x1 (by omega)
theorem c_pairUp (C : pwC h) (I : pxIX h T) (R : pxIR h ρ 40 fs) (hr : 9 < ρ) :
    pxW (f_X11_pairUp h 0 (some ρ)) fun v h' => pxF (fun k _ => k = 8 ∨ k = 9) h h' ∧ v = pxJ (pzPr (pxRs T.1) fs 80 1 1 0 (fun _ => -1)).1 ∧ ∀ x : Int, 1 ≤ x → x ≤ 40 → pxM h' 9 (x - 1).toNat = (pzPr (pxRs T.1) fs 80 1 1 0 (fun _ => -1)).2 x := by
  have l40 := I.len
  have f40 := R.2.1
  unfold f_X11_pairUp
  rw [px_rc C.1, px_bs]
  refine pxW_b2 (c_measure C I R hr) fun _ h2 q => ?_
  obtain ⟨F2, E2⟩ := q
  have C2 : pwC h2 := C.fr F2 (fun f _ => by omega) (fun f => by omega)
  have I2 : pxIX h2 T := pxIT.fr I F2 (fun k f _ _ => by omega)
  have R2 : pxIR h2 ρ 40 fs := R.fr F2 (fun k f _ _ => by omega)
  rw [show (0 : Int32) = pxJ 0 from rfl]
  refine c_pu_b7 (h0 := h2) C2 (fun h3 F3 e3 => ?_) 40 jw_FU h2 0 (by omega) (by omega) (by unfold jw_FU; omega) pxF.rfl (fun x x1 x2 => by omega)
  refine pxW.mono (c_pu_b39 (h0 := h3) (C2.fr F3 (fun f _ => by omega) (fun f => by omega)) (pxIT.fr I2 F3 (fun k f _ _ => by omega)) (R2.fr F3 (fun k f _ _ => by omega)) hr (fun a b a1 a2 b1 b2 => by
    unfold pwCe
    rw [F3.m (by omega)]
    exact E2 a b a1 a2 b1 b2) 80 jw_FU h3 1 1 0 (fun _ => -1) (by omega) (by unfold jw_FU; omega) (by omega) (by omega) (by omega) (by omega) pxF.rfl e3) fun v h' q => ?_
  obtain ⟨F4, ev, P⟩ := q
  exact ⟨((F2.mono (fun k f z => Or.inl z)).trans (F3.mono (fun k f z => Or.inr z))).trans (F4.mono (fun k f z => Or.inr z)), ev, P⟩
theorem pwA.p89 {h' : jw_H} (A : pwA h α) (F : pxF (fun k _ => k = 8 ∨ k = 9) h h') : pwA h' α := by
  obtain ⟨C, Tp, Sc, I, Y, D, e13, e14, X⟩ := A
  exact ⟨C.fr F (fun f _ => by omega) (fun f => by omega), Tp.fr F (by omega) (fun f => by omega), Sc.fr F (fun k f _ _ => by omega), pxIT.fr I F (fun k f _ _ => by omega), pxIS.fr Y F (fun k f _ _ => by omega), D.fr F (fun k f z => by omega), by rw [F.m (by omega)]; exact e13, by rw [F.m (by omega)]; exact e14, X.fr F (fun k f _ _ => by omega)⟩
theorem c_differ {k : Int} (A : pwA h α) (k0 : -2147483648 ≤ k) (k1 : k ≤ 2147483647) : pxW (f_X11_differ h 0 (pxJ k)) fun v h' => pwY "java/lang/IndexOutOfBoundsException" "" h (pz_differ k α) v h' := by
  have C := A.1
  have I := A.2.2.2.1
  have Y := A.2.2.2.2.1
  unfold f_X11_differ pz_differ
  rw [C.r (7, 261) (by decide), px_bs, px_rc Y.1.1, px_bs, s_X8_file Y.1 k0 k1, px_b2]
  by_cases c : 0 ≤ k ∧ k < 4
  · have R := Y.2.2.2 k c.1 c.2
    rw [if_pos c, if_pos c, if_neg (show ¬ (some (261 + 8 + 3 * k.toNat) = none) by simp), C.r (6, 255) (by decide), px_bs, px_gR I.1.1, I.1.2.1, px_bs, px_gI I.2.1.1.1, px_bs, I.c2, px_gI R.1.1, px_bs, R.2.2.2.1, px_rc C.1, px_bs]
    refine pxW_b2 (c_pairUp C I R (by omega)) fun v h2 q => ?_
    obtain ⟨F2, ev, -⟩ := q
    rw [ev, show (2 : Int32) = pxJ 2 from rfl, pxJ_add, pxJ_mul, pxJ_sub]
    exact pxW_some.mpr (pwY_0 (pwF.of F2 (fun k f z => by omega)) (A.p89 F2))
  · rw [if_neg c, if_neg c, if_pos rfl]
    exact pxW_some.mpr (pwY_1 A)
theorem c_pairOf {k x : Int} (A : pwA h α) (k0 : -2147483648 ≤ k) (k1 : k ≤ 2147483647) (x0 : -2147483648 ≤ x) (x1 : x ≤ 2147483647) : pxW (f_X11_pairOf h 0 (pxJ k) (pxJ x)) fun v h' => pwY "java/lang/IndexOutOfBoundsException" "" h (pz_pairOf k x α) v h' := by
  have C := A.1
  have I := A.2.2.2.1
  have Y := A.2.2.2.2.1
  have l40 := I.len
  unfold f_X11_pairOf pz_pairOf g_X11_pairOf_b27 g_X11_pairOf_b69
  rw [C.r (7, 261) (by decide), px_bs, px_rc Y.1.1, px_bs, s_X8_file Y.1 k0 k1, px_b2]
  by_cases c : 0 ≤ k ∧ k < 4
  · have R := Y.2.2.2 k c.1 c.2
    rw [if_pos c, if_neg (show ¬ (some (261 + 8 + 3 * k.toNat) = none) by simp), C.r (6, 255) (by decide), px_bs, px_gR I.1.1, I.1.2.1, px_bs, px_rc I.2.1.1.1, px_bs, s_X7_has I.2.1 x0 x1, px_b2, pxRs_len]
    by_cases d : 1 ≤ x ∧ x ≤ (α.2.2.1.1.length : Int)
    · rw [if_pos d, if_neg (show ¬ (pxJ 1 = 0) by decide), if_pos (show 0 ≤ k ∧ k < 4 ∧ 1 ≤ x ∧ x ≤ (α.2.2.1.1.length : Int) from ⟨c.1, c.2, d.1, d.2⟩), px_rc C.1, px_bs]
      refine pxW_b2 (c_pairUp C I R (by omega)) fun v h2 q => ?_
      obtain ⟨F2, -, P⟩ := q
      have A2 := A.p89 F2
      have C2 := A2.1
      have t9 := C2.2.2.2.2.2.2.2
      rw [if_neg (show ¬ (pxJ x < (1 : Int32)) from fun z => by
        have := (pxJ_lt (a := x) (b := 1) (by omega) (by omega) (by omega) (by omega)).mp z
        omega), C2.r (4, 9) (by decide), px_bs, px_ln (by rw [t9]; decide), t9, px_bs, if_neg (show ¬ (pxJ ((40 : Nat) : Int) < pxJ x) from fun z => by
        have := (pxJ_lt (a := ((40 : Nat) : Int)) (b := x) (by omega) (by omega) (by omega) (by omega)).mp z
        omega), px_bs, show pxJ x - (1 : Int32) = pxJ (x - 1) from pxJ_sub x 1, px_ai (by rw [t9]) (by omega) (by rw [t9]; show x - 1 < ((40 : Nat) : Int); omega) (by omega), px_bs, P x d.1 (by omega)]
      exact pxW_some.mpr (pwY_0 (pwF.of F2 (fun k f z => by omega)) A2)
    · rw [if_neg d, if_pos (show pxJ 0 = 0 from rfl), if_neg (fun z => d ⟨z.2.2.1, z.2.2.2⟩)]
      exact pxW_some.mpr (pwY_1 A)
  · rw [if_neg c, if_pos rfl, if_neg (fun z => c ⟨z.1, z.2.1⟩)]
    exact pxW_some.mpr (pwY_1 A)
end
