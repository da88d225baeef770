/-! the reference's calls: a text and a file compared -/
theorem pzCm_f {rs fs : List (List Int)} : ∀ (m m' : Nat) (a b : Int), ((rs.length : Int) + 1 - a).toNat + ((fs.length : Int) + 1 - b).toNat < m → ((rs.length : Int) + 1 - a).toNat + ((fs.length : Int) + 1 - b).toNat < m' → pzCm rs fs m a b = pzCm rs fs m' a b
  | 0, _, a, b, h, _ => absurd h (Nat.not_lt_zero _)
  | _ + 1, 0, a, b, _, h => absurd h (Nat.not_lt_zero _)
  | m + 1, m' + 1, a, b, h, h' => by
    show (if (rs.length : Int) < a ∨ (fs.length : Int) < b then (0 : Int) else if pxRw rs a = pxRw fs b then pzCm rs fs m (a + 1) (b + 1) + 1 else max (pzCm rs fs m (a + 1) b) (pzCm rs fs m a (b + 1))) = (if (rs.length : Int) < a ∨ (fs.length : Int) < b then (0 : Int) else if pxRw rs a = pxRw fs b then pzCm rs fs m' (a + 1) (b + 1) + 1 else max (pzCm rs fs m' (a + 1) b) (pzCm rs fs m' a (b + 1)))
    by_cases c : (rs.length : Int) < a ∨ (fs.length : Int) < b
    · rw [if_pos c, if_pos c]
    · rw [if_neg c, if_neg c, pzCm_f m m' (a + 1) (b + 1) (by omega) (by omega), pzCm_f m m' (a + 1) b (by omega) (by omega), pzCm_f m m' a (b + 1) (by omega) (by omega)]
theorem pzCo_e {rs fs : List (List Int)} (l : rs.length ≤ 40) (l' : fs.length ≤ 40) {a b : Int} (a1 : 1 ≤ a) (b1 : 1 ≤ b) : pzCo rs fs a b = if (rs.length : Int) < a ∨ (fs.length : Int) < b then 0 else if pxRw rs a = pxRw fs b then pzCo rs fs (a + 1) (b + 1) + 1 else max (pzCo rs fs (a + 1) b) (pzCo rs fs a (b + 1)) := by
  show (if (rs.length : Int) < a ∨ (fs.length : Int) < b then (0 : Int) else if pxRw rs a = pxRw fs b then pzCm rs fs 89 (a + 1) (b + 1) + 1 else max (pzCm rs fs 89 (a + 1) b) (pzCm rs fs 89 a (b + 1))) = _
  unfold pzCo
  by_cases c : (rs.length : Int) < a ∨ (fs.length : Int) < b
  · rw [if_pos c, if_pos c]
  · rw [if_neg c, if_neg c, pzCm_f 89 90 (a + 1) (b + 1) (by omega) (by omega), pzCm_f 89 90 (a + 1) b (by omega) (by omega), pzCm_f 89 90 a (b + 1) (by omega) (by omega)]
theorem pzCm_b {rs fs : List (List Int)} : ∀ (m : Nat) (a b : Int), 0 ≤ pzCm rs fs m a b ∧ pzCm rs fs m a b ≤ m
  | 0, a, b => ⟨Int.le_refl _, Int.le_refl _⟩
  | m + 1, a, b => by
    have e : pzCm rs fs (m + 1) a b = (if (rs.length : Int) < a ∨ (fs.length : Int) < b then (0 : Int) else if pxRw rs a = pxRw fs b then pzCm rs fs m (a + 1) (b + 1) + 1 else max (pzCm rs fs m (a + 1) b) (pzCm rs fs m a (b + 1))) := rfl
    have h1 := pzCm_b (rs := rs) (fs := fs) m (a + 1) (b + 1)
    have h2 := pzCm_b (rs := rs) (fs := fs) m (a + 1) b
    have h3 := pzCm_b (rs := rs) (fs := fs) m a (b + 1)
    rw [e]
    by_cases c : (rs.length : Int) < a ∨ (fs.length : Int) < b
    · rw [if_pos c]; omega
    · rw [if_neg c]
      by_cases d : pxRw rs a = pxRw fs b
      · rw [if_pos d]; omega
      · rw [if_neg d]; omega
theorem pzCo_b {rs fs : List (List Int)} {a b : Int} : 0 ≤ pzCo rs fs a b ∧ pzCo rs fs a b ≤ 90 := pzCm_b 90 a b
/-- a cell of the common counts -/
def pyCe (h : jw_H) (rs fs : List (List Int)) (a b : Int) : Prop := pxM h 617 (41 * a + b).toNat = pzCo rs fs (a + 1) (b + 1)
theorem py41 {a b : Int} : ((41 : Int32) * pxJ a) + pxJ b = pxJ (41 * a + b) := by rw [show (41 : Int32) = pxJ 41 from rfl, pxJ_mul, pxJ_add]
section
variable {h : jw_H} {α : pzA} {n : Int}
theorem n_larger {a b : Int} (a0 : -1000 ≤ a) (a1 : a ≤ 1000) (b0 : -1000 ≤ b) (b1 : b ≤ 1000) : f_X12_larger h (pxJ a) (pxJ b) = some (pxJ (max a b), h) := by
  unfold f_X12_larger g_X12_larger_b10
  by_cases c : a ≤ b
  · rw [if_pos (show pxJ a ≤ pxJ b from (pxJ_le (by omega) (by omega) (by omega) (by omega)).mpr c), show max a b = b by omega]
  · rw [if_neg (show ¬ (pxJ a ≤ pxJ b) from fun z => c ((pxJ_le (by omega) (by omega) (by omega) (by omega)).mp z)), show max a b = a by omega]
theorem n_fileRow0 {k x : Int} : f_X12_fileRow h (pxJ k) (pxJ x) = some (pxJ (123 + 41 * k + x), h) := by
  unfold f_X12_fileRow
  rw [show (123 : Int32) = pxJ 123 from rfl, show (41 : Int32) = pxJ 41 from rfl, pxJ_mul, pxJ_add, pxJ_add]
/-- the rows that are compared -/
theorem pyCmp {k a b : Int} (H : pyS h) (L : pyL h α.2.2.1.1) (R : pyRs h (123 + 41 * k) (α.2.2.2.1.2.2 k)) (ok : pxOk (α.2.2.2.1.2.2 k)) (l : (α.2.2.2.1.2.2 k).length ≤ 40) (k0 : 0 ≤ k) (k4 : k < 4) (a0 : 0 ≤ a) (a1 : a < α.2.2.1.1.length) (b0 : 0 ≤ b) (b1 : b < (α.2.2.2.1.2.2 k).length) :
    f_X12_areSame h 587 ((0 : Int32) + pxJ a) (pxJ (123 + 41 * k + b)) = some (pxJ (if pxRw (pxRs α.2.2.1.1) (a + 1) = pxRw (α.2.2.2.1.2.2 k) (b + 1) then 1 else 0), h) := by
  have l40 := L.2.1
  have r1 := (L.2.2.2 (a + 1) (by omega) (by omega)).1
  have r2 := R (b + 1) (by omega) (by omega)
  rw [show a + 1 - 1 = a by omega] at r1
  rw [show 123 + 41 * k + (b + 1) - 1 = 123 + 41 * k + b by omega] at r2
  rw [show (0 : Int32) + pxJ a = pxJ (0 + a) from pxJ_add 0 a, show (0 : Int) + a = a by omega, pxRs_at]
  exact n_areSame H r1 r2 (by omega) (by omega) (by omega) (by omega) (pyAt_or L.2.2.1 (a + 1)).1 (pxRw_or ok (b + 1)).1
set_option maxHeartbeats 4000000 in
theorem n_cmp_b19 {h0 : jw_H} {k x : Int} {k12 : jw_H → Nat → Int32 → Int32 → Int32 → Option (Unit × jw_H)} {Q : Unit → jw_H → Prop} (H0 : pyS h0) (L0 : pyL h0 α.2.2.1.1) (R0 : pyRs h0 (123 + 41 * k) (α.2.2.2.1.2.2 k)) (ok : pxOk (α.2.2.2.1.2.2 k)) (l : (α.2.2.2.1.2.2 k).length ≤ 40) (k0 : 0 ≤ k) (k4 : k < 4) (x0 : 0 ≤ x) (x1 : x ≤ α.2.2.1.1.length)
    (next : ∀ h, pyV (fun k _ => k = 617) h0 h → (∀ a b : Int, x ≤ a → a ≤ α.2.2.1.1.length → 0 ≤ b → b ≤ (α.2.2.2.1.2.2 k).length → pyCe h (pxRs α.2.2.1.1) (α.2.2.2.1.2.2 k) a b) → pxW (k12 h 587 (pxJ k) (pxJ ((α.2.2.2.1.2.2 k).length : Int)) (pxJ (x - 1))) Q) :
    ∀ (m N : Nat) (h : jw_H) (y : Int), y + 1 = m → y ≤ (α.2.2.2.1.2.2 k).length → m < N → pyV (fun k _ => k = 617) h0 h → (∀ a b : Int, x < a → a ≤ α.2.2.1.1.length → 0 ≤ b → b ≤ (α.2.2.2.1.2.2 k).length → pyCe h (pxRs α.2.2.1.1) (α.2.2.2.1.2.2 k) a b) → (∀ b : Int, y < b → b ≤ (α.2.2.2.1.2.2 k).length → pyCe h (pxRs α.2.2.1.1) (α.2.2.2.1.2.2 k) x b) →
    pxW (f_X12_compareTo_b19 k12 N h 587 (pxJ k) (pxJ ((α.2.2.2.1.2.2 k).length : Int)) (pxJ x) (pxJ y)) Q := by
  have l40 := L0.2.1
  have rl : (pxRs α.2.2.1.1).length = α.2.2.1.1.length := pxRs_len _
  intro m
  induction m with
  | zero =>
    intro N h y hy y1 hN V C D
    obtain ⟨N, rfl, -⟩ := px_fu hN
    rw [u_X12_compareTo_b19]
    unfold g_X12_compareTo_b19
    rw [if_pos (show pxJ y < 0 from (pxJ_lt (a := y) (b := 0) (by omega) (by omega) (by omega) (by omega)).mpr (by omega)), show (-1 : Int32) = pxJ (-1) by decide, pxJ_add, show x + -1 = x - 1 by omega]
    exact next h V (fun a b a0 a1 b0 b1 => by
      by_cases c : a = x
      · subst c; exact D b (by omega) b1
      · exact C a b (by omega) a1 b0 b1)
  | succ m ih =>
    intro N h y hy y1 hN V C D
    obtain ⟨N, rfl, hN⟩ := px_fu hN
    have H := V.s H0
    have L : pyL h α.2.2.1.1 := L0.keep V (fun f _ => by omega) (fun f _ => by omega) (by omega)
    have R : pyRs h (123 + 41 * k) (α.2.2.2.1.2.2 k) := R0.keep V (by omega) ok (fun f _ _ => by omega)
    have ec := pzCo_e (rs := pxRs α.2.2.1.1) (fs := α.2.2.2.1.2.2 k) (a := x + 1) (b := y + 1) (by omega) l (by omega) (by omega)
    have cb := pzCo_b (rs := pxRs α.2.2.1.1) (fs := α.2.2.2.1.2.2 k) (a := x + 1) (b := y + 1)
    have st : ∀ v : Int, v = pzCo (pxRs α.2.2.1.1) (α.2.2.2.1.2.2 k) (x + 1) (y + 1) → pxW (g_X12_compareTo_b151 (f_X12_compareTo_b19 k12 N) h 587 (pxJ k) (pxJ ((α.2.2.2.1.2.2 k).length : Int)) (pxJ x) (pxJ y) (some 617) (pxJ (41 * x + y)) (pxJ v)) Q := by
      intro v ev
      unfold g_X12_compareTo_b151
      rw [pyN_s617 H (by omega) (by omega), px_bs, show (-1 : Int32) = pxJ (-1) by decide, pxJ_add, show y + -1 = y - 1 by omega]
      refine ih N _ (y - 1) (by omega) (by omega) (by omega) (V.set rfl) (fun a b a0 a1 b0 b1 => ?_) (fun b b0 b1 => ?_)
      · unfold pyCe
        rw [pxM_ne (by omega)]
        exact C a b a0 a1 b0 b1
      · by_cases c : b = y
        · subst c
          unfold pyCe
          rw [pxM_eq (by omega) (by omega)]
          exact ev
        · unfold pyCe
          rw [pxM_ne (by omega)]
          exact D b (by omega) b1
    have s0 : ∀ v : Int, v = pzCo (pxRs α.2.2.1.1) (α.2.2.2.1.2.2 k) (x + 1) (y + 1) → pxW (g_X12_compareTo_b109 (f_X12_compareTo_b19 k12 N) h 587 (pxJ k) (pxJ ((α.2.2.2.1.2.2 k).length : Int)) (pxJ x) (pxJ y) (pxJ v)) Q := by
      intro v ev
      unfold g_X12_compareTo_b109 g_X12_compareTo_b110
      rw [pyN_g78 H, px_bs, if_pos rfl, py41]
      exact st v ev
    rw [u_X12_compareTo_b19]
    unfold g_X12_compareTo_b19
    rw [if_neg (show ¬ (pxJ y < 0) from fun z => by
      have := (pxJ_lt (a := y) (b := 0) (by omega) (by omega) (by omega) (by omega)).mp z
      omega), pyN_gI H, px_bs, L.1]
    unfold g_X12_compareTo_b38
    by_cases c1 : x = α.2.2.1.1.length
    · rw [if_pos (show pxJ x = pxJ (α.2.2.1.1.length : Int) by rw [c1])]
      unfold g_X12_compareTo_b73
      rw [pyN_gI H, px_bs, L.1, if_pos (show pxJ (α.2.2.1.1.length : Int) ≤ pxJ x by rw [c1]; exact Int32.le_refl _)]
      exact s0 0 (by rw [ec, if_pos (show ((pxRs α.2.2.1.1).length : Int) < x + 1 ∨ ((α.2.2.2.1.2.2 k).length : Int) < y + 1 by omega)])
    have nx : ¬ (pxJ (α.2.2.1.1.length : Int) ≤ pxJ x) := fun z => by
      have := (pxJ_le (a := (α.2.2.1.1.length : Int)) (b := x) (by omega) (by omega) (by omega) (by omega)).mp z
      omega
    rw [if_neg (show ¬ (pxJ x = pxJ (α.2.2.1.1.length : Int)) from fun z => c1 ((pxJ_eq (a := x) (b := (α.2.2.1.1.length : Int)) (by omega) (by omega) (by omega) (by omega)).mp z))]
    by_cases c2 : y = (α.2.2.2.1.2.2 k).length
    · rw [if_pos (show pxJ y = pxJ ((α.2.2.2.1.2.2 k).length : Int) by rw [c2])]
      unfold g_X12_compareTo_b73
      rw [pyN_gI H, px_bs, L.1, if_neg nx, if_pos (show pxJ ((α.2.2.2.1.2.2 k).length : Int) ≤ pxJ y by rw [c2]; exact Int32.le_refl _)]
      exact s0 0 (by rw [ec, if_pos (show ((pxRs α.2.2.1.1).length : Int) < x + 1 ∨ ((α.2.2.2.1.2.2 k).length : Int) < y + 1 by omega)])
    have ny : ¬ (pxJ ((α.2.2.2.1.2.2 k).length : Int) ≤ pxJ y) := fun z => by
      have := (pxJ_le (a := ((α.2.2.2.1.2.2 k).length : Int)) (b := y) (by omega) (by omega) (by omega) (by omega)).mp z
      omega
    have q1 : pyCe h (pxRs α.2.2.1.1) (α.2.2.2.1.2.2 k) (x + 1) y := C (x + 1) y (by omega) (by omega) (by omega) y1
    have q2 : pyCe h (pxRs α.2.2.1.1) (α.2.2.2.1.2.2 k) x (y + 1) := D (y + 1) (by omega) (by omega)
    have q3 : pyCe h (pxRs α.2.2.1.1) (α.2.2.2.1.2.2 k) (x + 1) (y + 1) := C (x + 1) (y + 1) (by omega) (by omega) (by omega) (by omega)
    unfold pyCe at q1 q2 q3
    have b1 := pzCo_b (rs := pxRs α.2.2.1.1) (fs := α.2.2.2.1.2.2 k) (a := x + 1 + 1) (b := y + 1)
    have b2 := pzCo_b (rs := pxRs α.2.2.1.1) (fs := α.2.2.2.1.2.2 k) (a := x + 1) (b := y + 1 + 1)
    rw [if_neg (show ¬ (((pxRs α.2.2.1.1).length : Int) < x + 1 ∨ ((α.2.2.2.1.2.2 k).length : Int) < y + 1) by omega)] at ec
    rw [if_neg (show ¬ (pxJ y = pxJ ((α.2.2.2.1.2.2 k).length : Int)) from fun z => c2 ((pxJ_eq (a := y) (b := ((α.2.2.2.1.2.2 k).length : Int)) (by omega) (by omega) (by omega) (by omega)).mp z)), pyN_g78 H, px_bs, show pxJ x + (1 : Int32) = pxJ (x + 1) from pxJ_add x 1, py41, pyN_a617 H (by omega) (by omega), px_bs, q1, px_bs, py41, show pxJ (41 * x + y) + (1 : Int32) = pxJ (41 * x + (y + 1)) by rw [show 41 * x + (y + 1) = 41 * x + y + 1 by omega]; exact pxJ_add _ 1, pyN_a617 H (by omega) (by omega), px_bs, q2, n_larger (by omega) (by omega) (by omega) (by omega), px_b2]
    unfold g_X12_compareTo_b73
    rw [pyN_gI H, px_bs, L.1, if_neg nx, if_neg ny, n_fileRow0, px_b2, pyN_rc H, px_bs, pyCmp H L R ok l k0 k4 x0 (by omega) (by omega) (by omega), px_b2]
    by_cases d : pxRw (pxRs α.2.2.1.1) (x + 1) = pxRw (α.2.2.2.1.2.2 k) (y + 1)
    · rw [if_pos d, if_neg (show ¬ (pxJ 1 = 0) by decide)]
      rw [if_pos d] at ec
      unfold g_X12_compareTo_b110
      rw [pyN_g78 H, px_bs, if_neg (show ¬ ((1 : Int32) = 0) by decide), px_bs, show pxJ x + (1 : Int32) = pxJ (x + 1) from pxJ_add x 1, py41, show pxJ (41 * (x + 1) + y) + (1 : Int32) = pxJ (41 * (x + 1) + (y + 1)) by rw [show 41 * (x + 1) + (y + 1) = 41 * (x + 1) + y + 1 by omega]; exact pxJ_add _ 1, pyN_a617 H (by omega) (by omega), px_bs, q3, py41, show pxJ (pzCo (pxRs α.2.2.1.1) (α.2.2.2.1.2.2 k) (x + 1 + 1) (y + 1 + 1)) + (1 : Int32) = pxJ (pzCo (pxRs α.2.2.1.1) (α.2.2.2.1.2.2 k) (x + 1 + 1) (y + 1 + 1) + 1) from pxJ_add _ 1]
      exact st _ ec.symm
    · rw [if_neg d, if_pos (show pxJ 0 = 0 from rfl)]
      rw [if_neg d] at ec
      exact s0 _ ec.symm
theorem n_cmp_b12 {h0 : jw_H} {k : Int} (H0 : pyS h0) (L0 : pyL h0 α.2.2.1.1) (R0 : pyRs h0 (123 + 41 * k) (α.2.2.2.1.2.2 k)) (ok : pxOk (α.2.2.2.1.2.2 k)) (l : (α.2.2.2.1.2.2 k).length ≤ 40) (k0 : 0 ≤ k) (k4 : k < 4) :
    ∀ (m N : Nat) (h : jw_H) (x : Int), x + 1 = m → x ≤ α.2.2.1.1.length → m < N → pyV (fun k _ => k = 617) h0 h → (∀ a b : Int, x < a → a ≤ α.2.2.1.1.length → 0 ≤ b → b ≤ (α.2.2.2.1.2.2 k).length → pyCe h (pxRs α.2.2.1.1) (α.2.2.2.1.2.2 k) a b) →
    pxW (f_X12_compareTo_b12 N h 587 (pxJ k) (pxJ ((α.2.2.2.1.2.2 k).length : Int)) (pxJ x)) fun _ h' => pyV (fun k _ => k = 617) h0 h' ∧ ∀ a b : Int, 0 ≤ a → a ≤ α.2.2.1.1.length → 0 ≤ b → b ≤ (α.2.2.2.1.2.2 k).length → pyCe h' (pxRs α.2.2.1.1) (α.2.2.2.1.2.2 k) a b := by
  have l40 := L0.2.1
  intro m
  induction m with
  | zero =>
    intro N h x hx x1 hN V C
    obtain ⟨N, rfl, -⟩ := px_fu hN
    rw [u_X12_compareTo_b12]
    unfold g_X12_compareTo_b12
    rw [if_pos (show pxJ x < 0 from (pxJ_lt (a := x) (b := 0) (by omega) (by omega) (by omega) (by omega)).mpr (by omega))]
    exact pxW_some.mpr ⟨V, fun a b a0 a1 b0 b1 => C a b (by omega) a1 b0 b1⟩
  | succ m ih =>
    intro N h x hx x1 hN V C
    obtain ⟨N, rfl, hN⟩ := px_fu hN
    rw [u_X12_compareTo_b12]
    unfold g_X12_compareTo_b12
    rw [if_neg (show ¬ (pxJ x < 0) from fun z => by
      have := (pxJ_lt (a := x) (b := 0) (by omega) (by omega) (by omega) (by omega)).mp z
      omega)]
    exact n_cmp_b19 H0 L0 R0 ok l k0 k4 (by omega) x1 (fun h2 V2 C2 => ih N h2 (x - 1) (by omega) (by omega) (by omega) V2 (fun a b a0 a1 b0 b1 => C2 a b (by omega) a1 b0 b1)) ((α.2.2.2.1.2.2 k).length + 1) jw_FU h _ (by omega) (Int.le_refl _) (by unfold jw_FU; omega) V C (fun b b0 b1 => by omega)
theorem n_compareTo {k : Int} (A : pyA h α) (k0 : 0 ≤ k) (k4 : k < 4) :
    pxW (f_X12_compareTo h 587 (pxJ k)) fun _ h' => pyV (fun k _ => k = 617) h h' ∧ ∀ a b : Int, 0 ≤ a → a ≤ α.2.2.1.1.length → 0 ≤ b → b ≤ (α.2.2.2.1.2.2 k).length → pyCe h' (pxRs α.2.2.1.1) (α.2.2.2.1.2.2 k) a b := by
  have H := A.1
  have L := A.2.2.2.1.1
  have l40 := L.2.1
  have S := A.2.2.2.2.1.1.2.2 k k0 k4
  have F := A.2.2.2.2.1.2.2.2 k k0 k4
  unfold f_X12_compareTo
  rw [pyN_g11 H, px_bs, pyN_a597 H k0 k4, px_bs, F.1, pyN_gI H, px_bs, L.1]
  exact n_cmp_b12 H L F.2 S.2 S.1 k0 k4 (α.2.2.1.1.length + 1) jw_FU h _ (by omega) (Int.le_refl _) (by unfold jw_FU; omega) pyV.rfl (fun a b a0 a1 b0 b1 => by omega)
end
