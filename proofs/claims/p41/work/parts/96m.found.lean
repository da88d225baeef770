/-! the next line that holds a pattern, going round once -/
section
variable {h : jw_H} {α : pzA} {n : Int}
theorem qz_gF : qzSgn (1611105 : Int64) qtF = true := by decide +kernel
theorem qz_ddF : qzDdE qtF = true := by decide +kernel
theorem qz_tpF : pxTp qtF := by
  have k := qz_ddF
  unfold qzDdE at k
  rw [Bool.and_eq_true] at k
  exact ⟨of_decide_eq_true k.1, fun c hc => of_decide_eq_true (List.all_eq_true.mp k.2 c hc)⟩
theorem qz_fitE {s r : List Int} {x : Int} {v : Int × (Int → Int) × (Int → Int)} (h : pxFit s r qzPf px0 px0 x = some v) : v.1 ≤ r.length := by
  have eU : pxFit s r qzPf px0 px0 x = if x < r.length ∧ pxHb s (1, 97) (pxE r x) = true then pxDesc (fun y => if y < r.length ∧ pxHb s (1, 98) (pxE r y) = true then some (y + 1, px0, px0) else none) (r.length - (x + 1) + 1).toNat r.length else none := rfl
  rw [eU] at h
  by_cases c : x < r.length ∧ pxHb s (1, 97) (pxE r x) = true
  · rw [if_pos c] at h
    obtain ⟨y, y0, y1, y2⟩ := qz_descE _ _ _ h
    have y2 : (if y < r.length ∧ pxHb s (1, 98) (pxE r y) = true then some (y + 1, px0, px0) else none) = some v := y2
    by_cases d : y < r.length ∧ pxHb s (1, 98) (pxE r y) = true
    · rw [if_pos d] at y2
      have e := Option.some.inj y2
      rw [← e]
      show y + 1 ≤ (r.length : Int)
      omega
    · rw [if_neg d] at y2
      cases y2
  · rw [if_neg c] at h
    cases h
theorem qz_seekE {s r : List Int} {fr : Int} : ∀ (m : Nat) (x : Int) (v : Int × Int × (Int → Int) × (Int → Int)), pxSeek s r qzPf fr false m x = some v → v.2.1 ≤ r.length
  | 0, x, v, h => by cases h
  | m + 1, x, v, h => by
    have h : (pxFit s r qzPf px0 px0 x).elim (pxSeek s r qzPf fr false m (x + 1)) (fun v => if false = true ∧ x = fr ∧ v.1 = fr then pxSeek s r qzPf fr false m (x + 1) else some (x, v)) = some v := h
    cases e : pxFit s r qzPf px0 px0 x with
    | none =>
      rw [e] at h
      exact qz_seekE m (x + 1) v h
    | some w =>
      rw [e, Option.elim_some, if_neg (fun z => by cases z.1)] at h
      have e2 := Option.some.inj h
      rw [← e2]
      exact qz_fitE e
/-- the line that is looked at in the step k -/
def qzLn (now len k : Int) : Int := (now - 1 + k) % len + 1
theorem qz_lnb {now len k : Int} (l0 : 0 < len) : 1 ≤ qzLn now len k ∧ qzLn now len k ≤ len := by
  unfold qzLn
  have h1 := Int.emod_nonneg (now - 1 + k) (show len ≠ 0 by omega)
  have h2 := Int.emod_lt_of_pos (now - 1 + k) l0
  omega
theorem qz_lnx {now len k : Int} (l0 : 0 < len) : pxNx false len (qzLn now len k) = qzLn now len (k + 1) := by
  have b := qz_lnb (now := now) (k := k) l0
  unfold pxNx
  rw [if_neg (by decide)]
  unfold qzLn at b ⊢
  have e : (now - 1 + (k + 1)) % len = ((now - 1 + k) % len + 1) % len := by
    rw [show now - 1 + (k + 1) = (now - 1 + k) + 1 by omega, Int.emod_add_emod]
  rw [e]
  clear e
  generalize (now - 1 + k) % len = d at b ⊢
  by_cases c : len < d + 1 + 1
  · rw [if_pos c, show d + 1 = len by omega, Int.emod_self]
    rfl
  · rw [if_neg c, Int.emod_eq_of_lt (by omega) (by omega)]
theorem qz_ln0 {now len : Int} (w1 : 1 ≤ now) (w2 : now ≤ len) : qzLn now len 0 = now := by
  unfold qzLn
  rw [Int.add_zero, Int.emod_eq_of_lt (by omega) (by omega)]
  omega
theorem l_fse {en : Bool} {x : Int} (A : pwA h α) (e : α.1 = qtF) (x1 : 1 ≤ x) (xn : x ≤ (α.2.2.1.1.length : Int)) : pz_fse en x α = (0, (pxFind qtF (pxRw (pxRs α.2.2.1.1) x) qzPf 0 false).elim (-1) (fun w => if en = true then w.2.1 else w.1), α) := by
  unfold pz_fse
  rw [if_neg (fun z => z ⟨x1, xn⟩), e, if_pos qz_pF.1, qz_pF.2]
theorem qz_fv {s r : List Int} {v : Int × Int × (Int → Int) × (Int → Int)} : ∀ (m : Nat) (x : Int), pxSeek s r qzPf 0 false m x = some v → v.1 < x + m
  | 0, x, z => by cases z
  | m + 1, x, z => by
    have z : (pxFit s r qzPf px0 px0 x).elim (pxSeek s r qzPf 0 false m (x + 1)) (fun v => if false = true ∧ x = 0 ∧ v.1 = 0 then pxSeek s r qzPf 0 false m (x + 1) else some (x, v)) = some v := z
    cases e : pxFit s r qzPf px0 px0 x with
    | none =>
      rw [e] at z
      have := qz_fv m (x + 1) z
      omega
    | some w =>
      rw [e, Option.elim_some, if_neg (fun y => by cases y.1)] at z
      have e2 := Option.some.inj z
      rw [← e2]
      show x < x + ((m + 1 : Nat) : Int)
      omega
theorem l_findStart {x : Int} (A : pwA h α) (e : α.1 = qtF) (x1 : 1 ≤ x) (xn : x ≤ (α.2.2.1.1.length : Int)) : pxW (f_X11_findStart h 0 (pxJ x)) fun v h' => v = .inl (pxJ ((pxFind qtF (pxRw (pxRs α.2.2.1.1) x) qzPf 0 false).elim (-1) (fun w => w.1))) ∧ qzG 1 h h' ∧ pwA h' α := by
  have l40 := A.2.2.2.1.len
  refine pxW.mono (c_findStart (x := x) A (by rw [e]; exact qz_tpF) (by omega) (by omega)) fun v h' Y => ?_
  rw [l_fse A e x1 xn] at Y
  exact Y.l rfl
theorem l_findEnd {x : Int} (A : pwA h α) (e : α.1 = qtF) (x1 : 1 ≤ x) (xn : x ≤ (α.2.2.1.1.length : Int)) : pxW (f_X11_findEnd h 0 (pxJ x)) fun v h' => v = .inl (pxJ ((pxFind qtF (pxRw (pxRs α.2.2.1.1) x) qzPf 0 false).elim (-1) (fun w => w.2.1))) ∧ qzG 1 h h' ∧ pwA h' α := by
  have l40 := A.2.2.2.1.len
  refine pxW.mono (c_findEnd (x := x) A (by rw [e]; exact qz_tpF) (by omega) (by omega)) fun v h' Y => ?_
  rw [l_fse A e x1 xn] at Y
  exact Y.l rfl
/-- what the steps from k on come to -/
def qzDue (α : pzA) (k : Nat) : Int := pxLW qtF qzPf (pxRs α.2.2.1.1) false (α.2.2.1.1.length + 1 - k) (qzLn α.2.2.1.2.2.1 (α.2.2.1.1.length : Int) ((k : Int) - 1))
theorem pxLW_or {s : List Int} {l : List (Int × Int)} {rs : List (List Int)} (l0 : 0 < (rs.length : Int)) : ∀ (m : Nat) (x : Int), 1 ≤ x → x ≤ rs.length → pxLW s l rs false m x = -1 ∨ (1 ≤ pxLW s l rs false m x ∧ pxLW s l rs false m x ≤ rs.length ∧ pxHolds s l (pxRw rs (pxLW s l rs false m x)) = true)
  | 0, _, _, _ => Or.inl rfl
  | m + 1, x, x1, xn => by
    have nb : 1 ≤ pxNx false rs.length x ∧ pxNx false rs.length x ≤ rs.length := by
      unfold pxNx
      rw [if_neg (by decide)]
      by_cases c : (rs.length : Int) < x + 1
      · rw [if_pos c]; omega
      · rw [if_neg c]; omega
    show (if pxHolds s l (pxRw rs (pxNx false rs.length x)) = true then pxNx false rs.length x else pxLW s l rs false m (pxNx false rs.length x)) = -1 ∨ (1 ≤ (if pxHolds s l (pxRw rs (pxNx false rs.length x)) = true then pxNx false rs.length x else pxLW s l rs false m (pxNx false rs.length x)) ∧ (if pxHolds s l (pxRw rs (pxNx false rs.length x)) = true then pxNx false rs.length x else pxLW s l rs false m (pxNx false rs.length x)) ≤ rs.length ∧ pxHolds s l (pxRw rs (if pxHolds s l (pxRw rs (pxNx false rs.length x)) = true then pxNx false rs.length x else pxLW s l rs false m (pxNx false rs.length x))) = true)
    by_cases c : pxHolds s l (pxRw rs (pxNx false rs.length x)) = true
    · rw [if_pos c]
      exact Or.inr ⟨nb.1, nb.2, c⟩
    · rw [if_neg c]
      exact pxLW_or l0 m _ nb.1 nb.2
/-- what stands behind the loop -/
theorem l_found87 {h0 : jw_H} {X : Int} (A : pwA h α) (IV : pxInv α.2.2.1) (e : α.1 = qtF) (n0 : 0 < α.2.2.1.1.length) (hX : X = pxLW qtF qzPf (pxRs α.2.2.1.1) false α.2.2.1.1.length α.2.2.1.2.2.1) (g : qzG 55 h0 h) : pxW (g_L_found_b87 h (some 0) (1 : Int32) (pxJ X)) fun r h' => r = 1 ∧ qzG 60 h0 h' ∧ pwA h' α := by
  have n40 := IV.1
  have w1 : 1 ≤ α.2.2.1.2.2.1 := IV.2.2.2.2.1 (by omega)
  have w2 := IV.2.2.2.1
  have lr : (pxRs α.2.2.1.1).length = α.2.2.1.1.length := pxRs_len _
  have xo := pxLW_or (s := qtF) (l := qzPf) (rs := pxRs α.2.2.1.1) (by omega) α.2.2.1.1.length α.2.2.1.2.2.1 w1 (by omega)
  rw [← hX] at xo
  unfold g_L_found_b87
  rw [if_neg qz_n10, A.rc, px_bs]
  have ef : pz_find false α = (0, X, α) := by
    unfold pz_find
    rw [e, if_pos qz_pF.1, qz_pF.2, hX]
  have fi : pxW (f_X11_find h 0 (0 : Int32)) fun v h' => v = .inl (pxJ X) ∧ qzG 1 h h' ∧ pwA h' α := by
    refine pxW.mono (c_find (back := false) A (by rw [e]; exact qz_tpF) IV) fun v h' Y => ?_
    rw [ef] at Y
    exact Y.l rfl
  refine pxW_b2 fi fun v h1 q => ?_
  obtain ⟨rfl, g1, A1⟩ := q
  rw [px_iw, if_pos rfl]
  have done : ∀ h' : jw_H, pwA h' α → qzG 60 h0 h' → pxW (g_L_found_b119 h') fun r h' => r = 1 ∧ qzG 60 h0 h' ∧ pwA h' α := by
    intro h' A' g'
    unfold g_L_found_b119 g_L_found_b124
    rw [qz_rb1, px_bs]
    exact pxW_some.mpr ⟨rfl, g', A'⟩
  rcases xo with c | ⟨c1, c2, c3⟩
  · rw [if_pos (show pxJ X < 0 by rw [c]; decide)]
    exact done h1 A1 (g.tr g1 (by decide))
  · rw [if_neg (qz_lt0 (by omega) (by omega)), A1.rc, px_bs]
    refine pxW_b2 (l_findEnd A1 e c1 (by omega)) fun v h2 q => ?_
    obtain ⟨rfl, g2, A2⟩ := q
    rw [px_iw, A2.rc, px_bs]
    refine pxW_b2 (l_findStart A2 e c1 (by omega)) fun v h3 q => ?_
    obtain ⟨rfl, g3, A3⟩ := q
    rw [px_iw]
    have l30 := (pxRw_or A.2.2.2.1.2.1.2.2.1 X).1
    obtain ⟨w, hw⟩ := Option.isSome_iff_exists.mp (show (pxFind qtF (pxRw (pxRs α.2.2.1.1) X) qzPf 0 false).isSome = true from c3)
    rw [hw]
    obtain ⟨f1, f2⟩ := qz_findF hw
    have f3 : w.1 < 0 + (((pxRw (pxRs α.2.2.1.1) X).length : Int) - 0 + 1).toNat := qz_fv _ 0 hw
    show pxW (if pxJ w.2.1 ≤ (pxJ w.1 + (1 : Int32)) then _ else _) _
    have f4 : w.2.1 ≤ ((pxRw (pxRs α.2.2.1.1) X).length : Int) := qz_seekE _ _ _ hw
    rw [show pxJ w.1 + (1 : Int32) = pxJ (w.1 + 1) from pxJ_add _ 1, if_neg (show ¬ (pxJ w.2.1 ≤ pxJ (w.1 + 1)) from fun z => by
      have := (pxJ_le (a := w.2.1) (b := w.1 + 1) (by omega) (by omega) (by omega) (by omega)).mp z
      omega)]
    exact done h3 A3 (((g.tr g1 (Nat.le_refl _)).tr g2 (Nat.le_refl _)).tr g3 (by decide))
theorem l_found36 {h0 : jw_H} (IV : pxInv α.2.2.1) (e : α.1 = qtF) (n0 : 0 < α.2.2.1.1.length) : ∀ (m N k : Nat) (h : jw_H), k + m = α.2.2.1.1.length + 1 → m < N → 1 ≤ k → pwA h α → qzDue α k = pxLW qtF qzPf (pxRs α.2.2.1.1) false α.2.2.1.1.length α.2.2.1.2.2.1 → qzG (k + 10) h0 h →
    pxW (f_L_found_b36 (N + 1) h (some 0) (1 : Int32) (pxJ (-1)) (pxJ (k : Int))) fun r h' => r = 1 ∧ qzG 60 h0 h' ∧ pwA h' α := by
  have n40 := IV.1
  have w1 : 1 ≤ α.2.2.1.2.2.1 := IV.2.2.2.2.1 (by omega)
  have w2 := IV.2.2.2.1
  have lr : (pxRs α.2.2.1.1).length = α.2.2.1.1.length := pxRs_len _
  intro m
  induction m with
  | zero =>
    intro N k h hk hN k1 A d g
    have k0 : α.2.2.1.1.length + 1 - k = 0 := by omega
    have d0 : qzDue α k = -1 := by
      unfold qzDue
      rw [k0]
      rfl
    rw [u_L_found_b36]
    unfold g_L_found_b36
    rw [A.rc, px_bs, r_lines A, px_b2, if_pos (show pxJ (α.2.2.1.1.length : Int) < pxJ (k : Int) from (pxJ_lt (by omega) (by omega) (by omega) (by omega)).mpr (by omega))]
    exact l_found87 A IV e n0 (d0.symm.trans d) (g.up (by omega))
  | succ m ih =>
    intro N k h hk hN k1 A d g
    obtain ⟨N, rfl, hN⟩ := px_fu hN
    have l0 : 0 < (α.2.2.1.1.length : Int) := by omega
    have lb := qz_lnb (now := α.2.2.1.2.2.1) (k := (k : Int)) l0
    have nx := qz_lnx (now := α.2.2.1.2.2.1) (k := (k : Int) - 1) l0
    rw [show (k : Int) - 1 + 1 = (k : Int) by omega] at nx
    have eD : qzDue α k = if pxHolds qtF qzPf (pxRw (pxRs α.2.2.1.1) (qzLn α.2.2.1.2.2.1 (α.2.2.1.1.length : Int) (k : Int))) = true then qzLn α.2.2.1.2.2.1 (α.2.2.1.1.length : Int) (k : Int) else qzDue α (k + 1) := by
      have em : α.2.2.1.1.length + 1 - k = (α.2.2.1.1.length + 1 - (k + 1)) + 1 := by omega
      unfold qzDue
      rw [em, show (((k + 1 : Nat) : Int)) - 1 = (k : Int) by omega]
      show (if pxHolds qtF qzPf (pxRw (pxRs α.2.2.1.1) (pxNx false ((pxRs α.2.2.1.1).length : Int) (qzLn α.2.2.1.2.2.1 (α.2.2.1.1.length : Int) ((k : Int) - 1)))) = true then pxNx false ((pxRs α.2.2.1.1).length : Int) (qzLn α.2.2.1.2.2.1 (α.2.2.1.1.length : Int) ((k : Int) - 1)) else pxLW qtF qzPf (pxRs α.2.2.1.1) false (α.2.2.1.1.length + 1 - (k + 1)) (pxNx false ((pxRs α.2.2.1.1).length : Int) (qzLn α.2.2.1.2.2.1 (α.2.2.1.1.length : Int) ((k : Int) - 1)))) = _
      rw [lr, nx]
    have ek : (((pxJ α.2.2.1.2.2.1 - (1 : Int32)) + pxJ (k : Int)) - ((pxJ α.2.2.1.2.2.1 - (1 : Int32)) + pxJ (k : Int)) / pxJ (α.2.2.1.1.length : Int) * pxJ (α.2.2.1.1.length : Int)) + (1 : Int32) = pxJ (qzLn α.2.2.1.2.2.1 (α.2.2.1.1.length : Int) (k : Int)) := by
      rw [show (1 : Int32) = pxJ 1 from rfl, pxJ_sub, pxJ_add, pxJ_div (by omega) (by omega) (by omega) (by omega), pxJ_mul, pxJ_sub, pxJ_add]
      unfold qzLn
      rw [Int.emod_def, Int.mul_comm]
    rw [u_L_found_b36]
    unfold g_L_found_b36
    have nz : jw_nz (pxJ (α.2.2.1.1.length : Int)) = some () := by
      unfold jw_nz
      rw [if_neg (qz_ne0 (by omega) (by omega))]
    rw [A.rc, px_bs, r_lines A, px_b2, if_neg (show ¬ (pxJ (α.2.2.1.1.length : Int) < pxJ (k : Int)) from fun z => by
      have := (pxJ_lt (a := (α.2.2.1.1.length : Int)) (b := (k : Int)) (by omega) (by omega) (by omega) (by omega)).mp z
      omega), if_neg (show ¬ ((0 : Int32) ≤ pxJ (-1)) by decide), A.rc, px_bs, r_present A, px_b2, A.rc, px_bs, r_lines A, px_b2, nz, px_bs, A.rc, px_bs, ek]
    refine pxW_b2 (l_findStart A e lb.1 lb.2) fun v h2 q => ?_
    obtain ⟨rfl, g2, A2⟩ := q
    rw [px_iw]
    unfold g_L_found_b80
    rw [show pxJ (k : Int) + (1 : Int32) = pxJ ((k + 1 : Nat) : Int) from pxJ_add _ 1]
    by_cases c : pxHolds qtF qzPf (pxRw (pxRs α.2.2.1.1) (qzLn α.2.2.1.2.2.1 (α.2.2.1.1.length : Int) (k : Int))) = true
    · -- it holds the pattern
      rw [if_pos c] at eD
      obtain ⟨w, hw⟩ := Option.isSome_iff_exists.mp (show (pxFind qtF (pxRw (pxRs α.2.2.1.1) (qzLn α.2.2.1.2.2.1 (α.2.2.1.1.length : Int) (k : Int))) qzPf 0 false).isSome = true from c)
      have l30 := (pxRw_or A.2.2.2.1.2.1.2.2.1 (qzLn α.2.2.1.2.2.1 (α.2.2.1.1.length : Int) (k : Int))).1
      have f1 := (qz_findF hw).2
      have f3 : w.1 < 0 + (((pxRw (pxRs α.2.2.1.1) (qzLn α.2.2.1.2.2.1 (α.2.2.1.1.length : Int) (k : Int))).length : Int) - 0 + 1).toNat := qz_fv _ 0 hw
      rw [hw]
      show pxW (if pxJ w.1 < 0 then _ else _) _
      rw [if_neg (qz_lt0 f1 (by omega)), u_L_found_b36]
      unfold g_L_found_b36
      have b87 := l_found87 (h0 := h0) A2 IV e n0 (eD.symm.trans d) (g.tr g2 (by omega))
      rw [A2.rc, px_bs, r_lines A2, px_b2]
      by_cases z : pxJ (α.2.2.1.1.length : Int) < pxJ ((k + 1 : Nat) : Int)
      · rw [if_pos z]
        exact b87
      · rw [if_neg z, if_pos (show (0 : Int32) ≤ pxJ (qzLn α.2.2.1.2.2.1 (α.2.2.1.1.length : Int) (k : Int)) from (pxJ_le (a := 0) (b := qzLn α.2.2.1.2.2.1 (α.2.2.1.1.length : Int) (k : Int)) (by omega) (by omega) (by omega) (by omega)).mpr (by omega))]
        exact b87
    · rw [if_neg c] at eD
      have hn : pxFind qtF (pxRw (pxRs α.2.2.1.1) (qzLn α.2.2.1.2.2.1 (α.2.2.1.1.length : Int) (k : Int))) qzPf 0 false = none := by
        cases z : pxFind qtF (pxRw (pxRs α.2.2.1.1) (qzLn α.2.2.1.2.2.1 (α.2.2.1.1.length : Int) (k : Int))) qzPf 0 false with
        | none => rfl
        | some w => exact absurd (show (pxFind qtF (pxRw (pxRs α.2.2.1.1) (qzLn α.2.2.1.2.2.1 (α.2.2.1.1.length : Int) (k : Int))) qzPf 0 false).isSome = true by rw [z]; rfl) c
      rw [hn]
      show pxW (if pxJ (-1) < 0 then _ else _) _
      rw [if_pos (show pxJ (-1) < 0 by decide)]
      exact ih N (k + 1) h2 (by omega) (by omega) (by omega) A2 (eD.symm.trans d) (g.tr g2 (by omega))
theorem l_found {o : Nat} (Q : qzL n o h α) (n0 : 0 < α.2.2.1.1.length) : pxW (f_L_found h (some 0)) fun r h' => r = 1 ∧ qzG 60 h h' ∧ ∃ α', qzL n o h' α' ∧ α'.2.2.1.1.length = α.2.2.1.1.length := by
  obtain ⟨A, O, Dc, ou⟩ := Q
  have IV := O.2.2.1
  have n40 := IV.1
  have w1 : 1 ≤ α.2.2.1.2.2.1 := IV.2.2.2.2.1 (by omega)
  have w2 := IV.2.2.2.1
  unfold f_L_found
  rw [A.rc, px_bs]
  refine pxW_b2 (l_wipe A O.1) fun v h1 q => ?_
  obtain ⟨v0, g1, A1⟩ := q
  rw [if_neg v0]
  refine pxW_b2 (l_typed qz_gF rfl A1 pxTp_nil (Nat.le_of_ble_eq_true rfl)) fun r2 h2 q => ?_
  obtain ⟨rfl, g2, A2, T2⟩ := q
  have A2 : pwA h2 (qtF, α.2) := A2
  rw [if_neg qz_n10, A2.rc, px_bs]
  have pf : pxW (f_X11_patternFault h2 0) fun v h' => v = pxJ (-1) ∧ qzG 1 h2 h' ∧ pwA h' (qtF, α.2) := by
    refine pxW.mono (c_patternFault A2 qz_tpF) fun v h' Z => ?_
    have ep : pz_pf (qtF, α.2) = (0, -1, (qtF, α.2)) := by
      unfold pz_pf
      rw [show pxTpF ((qtF, α.2) : pzA).1 = -1 from qz_pF.1]
    rw [ep] at Z
    exact Z.l
  refine pxW_b2 pf fun v h3 q => ?_
  obtain ⟨rfl, g3, A3⟩ := q
  rw [if_pos (show pxJ (-1) = (-1 : Int32) by decide)]
  unfold g_L_found_b31
  have k := l_found36 (α := (qtF, α.2)) (h0 := h) IV rfl n0 α.2.2.1.1.length (jw_FU - 1) 1 h3 (by show 1 + α.2.2.1.1.length = α.2.2.1.1.length + 1; omega) (by unfold jw_FU; omega) (Nat.le_refl 1) A3 (by
    unfold qzDue
    show pxLW qtF qzPf (pxRs α.2.2.1.1) false (α.2.2.1.1.length + 1 - 1) (qzLn α.2.2.1.2.2.1 (α.2.2.1.1.length : Int) (((1 : Nat) : Int) - 1)) = _
    rw [show (((1 : Nat) : Int) - 1) = 0 by omega, qz_ln0 w1 w2, Nat.add_sub_cancel]) ((g1.tr g2 (Nat.le_refl _)).tr g3 (by decide))
  rw [show jw_FU - 1 + 1 = jw_FU by unfold jw_FU; omega] at k
  have k : pxW (f_L_found_b36 jw_FU h3 (some 0) (1 : Int32) (-1 : Int32) (1 : Int32)) fun r h' => r = 1 ∧ qzG 60 h h' ∧ pwA h' (qtF, α.2) := k
  refine pxW.mono k fun r h' z => ?_
  exact ⟨z.1, z.2.1, (qtF, α.2), ⟨z.2.2, ⟨qz_tpF, O.2⟩, Dc, ou⟩, rfl⟩
end
