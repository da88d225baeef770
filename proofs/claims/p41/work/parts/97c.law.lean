/-! the law, to its end -/
theorem qz_and (v : Int32) : ∃ a : Int, v &&& (2147483647 : Int32) = pxJ a ∧ 0 ≤ a ∧ a ≤ 2147483647 := by
  have l : v.toBitVec.toNat &&& (2147483647 : Int32).toBitVec.toNat ≤ 2147483647 := Nat.le_trans Nat.and_le_right (by decide)
  have e : (v &&& (2147483647 : Int32)).toInt = ((v.toBitVec.toNat &&& (2147483647 : Int32).toBitVec.toNat : Nat) : Int) := by
    show (v &&& (2147483647 : Int32)).toBitVec.toInt = _
    rw [Int32.toBitVec_and, BitVec.toInt_eq_toNat_cond, BitVec.toNat_and, if_pos (by omega)]
  exact ⟨(v &&& (2147483647 : Int32)).toInt, pxJ_of _, by omega, by omega⟩
theorem l_low {h : jw_H} {v : Int32} {m : Int} {n : Int32} (hn : n = pxJ m) (m0 : 0 < m) (m1 : m ≤ 65536) : ∃ r : Int, f_L_low h v n = some (pxJ r, h) ∧ 0 ≤ r ∧ r < m := by
  subst hn
  obtain ⟨a, ea, a0, a1⟩ := qz_and v
  refine ⟨a % m, ?_, Int.emod_nonneg _ (by omega), Int.emod_lt_of_pos _ m0⟩
  have nz : jw_nz (pxJ m) = some () := by
    unfold jw_nz
    rw [if_neg (qz_ne0 (by omega) (by omega))]
  unfold f_L_low
  rw [nz, px_bs, ea, pxJ_div a0 a1 m0 (by omega), pxJ_mul, pxJ_sub, Int.emod_def, Int.mul_comm]
theorem l_cell {Ls : Nat} {xs : Nat → Int32} {h : jw_H} {z : Int} {x : Int32} (hx : x = pxJ z) (hL : Ls ≤ 260) (z0 : 0 ≤ z) (z1 : z ≤ 100) : ∃ v : Int32, f_L_cell Ls xs h x = some (v, h) := by
  subst hx
  unfold f_L_cell g_L_cell_b22
  by_cases c : Int32.ofNat Ls ≤ pxJ z
  · rw [if_pos c]
    exact ⟨_, rfl⟩
  · rw [if_neg c]
    rw [pxJ_ofNat] at c
    have c2 : z < Ls := by
      by_cases d : z < Ls
      · exact d
      · exact absurd ((pxJ_le (a := (Ls : Int)) (b := z) (by omega) (by omega) (by omega) (by omega)).mpr (by omega)) c
    refine ⟨xs z.toNat, ?_⟩
    have e : jw_xs Ls xs (pxJ z) = some (xs z.toNat) := by
      unfold jw_xs
      rw [pxJ_cl (by omega) (by omega), if_neg]
      intro y
      rcases y with y | y
      · exact qz_lt0 z0 (by omega) y
      · omega
    rw [e, px_bs]
section
variable {h : jw_H} {α : pzA} {n : Int}
theorem l_sample {z k : Int} {o : Nat} {x y : Int32} (hx : x = pxJ z) (hy : y = pxJ k) (Q : qzL n o h α) (hn : 587 ≤ jw_n h) (z0 : 0 ≤ z) (z1 : z < 65536) (k1 : 1 ≤ k) (k2 : k ≤ 20) (l : (α.2.2.1.1.length : Int) + k ≤ 40) (n6 : n + 1 ≤ 600) : pxW (f_X11_sample h 0 x y) fun v h' => v = .inl (pxJ ((α.2.2.1.1.length : Int) + k)) ∧ qzG 1 h h' ∧ ∃ α', qzL (n + 1) o h' α' ∧ (α'.2.2.1.1.length : Int) = (α.2.2.1.1.length : Int) + k := by
  subst hx
  subst hy
  obtain ⟨A, O, Dc, ou⟩ := Q
  have O2 := ok_sample (z := z) (k := k) O n6
  have e : pz_sample z k α = (0, (α.2.2.1.1.length : Int) + k, (α.1, α.2.1, ((pzSs k.toNat z α.2.2.1.1 α.2.2.1.2.2.2).1, α.2.2.1.2.1, (α.2.2.1.1.length : Int) + k, (pzSs k.toNat z α.2.2.1.1 α.2.2.1.2.2.2).2), α.2.2.2.1, pxPush α.2.2.2.2.1 (α.2.2.2.2.2.1 + 1, pxSnap α.2.2.1), α.2.2.2.2.2.1 + 1, α.2.2.2.2.2.2)) := by
    unfold pz_sample
    rw [if_neg (by omega), if_neg (by omega)]
  rw [e] at O2
  obtain ⟨-, -, o3, -, -, o6, o7, o8, o9, -⟩ := id O
  refine pxW.mono (c_sample A hn o3 (by omega) (by omega) (by omega) (by omega) (by omega) (by omega) (by omega)) fun v h' Y => ?_
  rw [e] at Y
  obtain ⟨y1, y2, y3⟩ := Y.l rfl
  refine ⟨y1, y2, _, ⟨y3, O2, fun d hd => ?_, ou⟩, ?_⟩
  · show d.1 ≤ α.2.2.2.2.2.1 + 1
    obtain ⟨D0, m1, m2, m3⟩ := qz_push1 (a := (α.2.2.2.2.2.1 + 1, pxSnap α.2.2.1)) o6
    have hd : d ∈ pxPush α.2.2.2.2.1 (α.2.2.2.2.2.1 + 1, pxSnap α.2.2.1) := hd
    rw [m3] at hd
    rcases List.mem_append.mp hd with w | w
    · have := Dc d (m1 d w)
      omega
    · rw [List.mem_singleton.mp w]
      exact Int.le_refl _
  · show ((pzSs k.toNat z α.2.2.1.1 α.2.2.1.2.2.2).1.length : Int) = _
    rw [pzSs_len]
    omega
end
/-- behind the undoing: every third time the three others -/
theorem l_law108 {Ls : Nat} {xs : Nat → Int32} {C : jw_H → Nat → Int32 → Int32 → Option (Int32 × jw_H)} {k o : Nat} {h : jw_H} {α : pzA} {n : Int} {K : Int32 → jw_H → Prop} (k12 : k < 12) (Q : qzL n o h α) (n3 : 3 ≤ α.2.2.1.1.length) (n6 : n + 43 ≤ 600)
    (next : ∀ h' α' n', qzL n' o h' α' → n' ≤ n + 43 → 3 ≤ α'.2.2.1.1.length → qzG 800 h h' → pxW (C h' 0 (1 : Int32) (pxJ ((k + 1 : Nat) : Int))) K) : pxW (g_L_law_b103 Ls xs C h 0 (pxJ (k : Int))) K := by
  have fin : ∀ h' α' n', qzL n' o h' α' → n' ≤ n + 43 → 3 ≤ α'.2.2.1.1.length → qzG 800 h h' → pxW (g_L_law_b140 Ls xs C h' 0 (pxJ (k : Int))) K := by
    intro h' α' n' q1 q2 q3 q4
    unfold g_L_law_b140 g_L_law_b145
    rw [show pxJ (k : Int) + (1 : Int32) = pxJ ((k + 1 : Nat) : Int) from pxJ_add _ 1]
    exact next h' α' n' q1 q2 q3 q4
  unfold g_L_law_b103 g_L_law_b108
  rw [if_neg qz_n10]
  by_cases c : (0 : Int32) < pxJ (k : Int) - pxJ (k : Int) / (3 : Int32) * (3 : Int32)
  · rw [if_pos c]
    exact fin h α n Q (by omega) n3 (qzG.rfl.up (by decide))
  · rw [if_neg c]
    refine pxW_b2 (l_streamed Q (by omega) (by omega)) fun r h1 q => ?_
    obtain ⟨rfl, g1, α1, Q1, e1⟩ := q
    rw [if_neg qz_n10]
    refine pxW_b2 (l_oneByOne Q1 (by omega) (by omega)) fun r h2 q => ?_
    obtain ⟨rfl, g2, α2, Q2, e2⟩ := q
    rw [if_neg qz_n10]
    refine pxW_b2 (l_found Q2 (by omega)) fun r h3 q => ?_
    obtain ⟨rfl, g3, α3, Q3, e3⟩ := q
    rw [if_neg qz_n10]
    exact fin h3 α3 _ Q3 (by omega) (by omega) ((g1.tr g2 (Nat.le_refl _)).tr g3 (by decide))
theorem l_law45 {Ls : Nat} {xs : Nat → Int32} {h0 : jw_H} (hL : Ls ≤ 260) : ∀ (m N k : Nat) (h : jw_H) (α : pzA) (n : Int), k + m = 12 → m < N → qzL n (4 * k) h α → n ≤ 46 * (k : Int) + 1 → 3 ≤ α.2.2.1.1.length → 587 ≤ jw_n h → qzG (1000 * k + 10) h0 h →
    pxW (f_L_law_b45 Ls xs N h 0 (1 : Int32) (pxJ (k : Int))) fun r h' => r = 1 ∧ qzG 13000 h0 h' := by
  intro m
  induction m with
  | zero =>
    intro N k h α n hk hN Q hn n3 nh g
    obtain ⟨N, rfl, -⟩ := px_fu hN
    obtain ⟨A, O, -, -⟩ := Q
    rw [u_L_law_b45]
    unfold g_L_law_b45
    rw [if_pos (show (12 : Int32) ≤ pxJ (k : Int) from (pxJ_le (a := 12) (b := (k : Int)) (by omega) (by omega) (by omega) (by omega)).mpr (by omega))]
    unfold g_L_law_b152
    rw [if_neg qz_n10, A.rc, px_bs]
    refine pxW_b2 (l_sound A O) fun v h1 q => ?_
    obtain ⟨rfl, g1, A1⟩ := q
    rw [if_neg (show ¬ (pxJ 1 = 0) by decide)]
    unfold g_L_law_b168
    rw [qz_rb1, px_bs]
    exact pxW_some.mpr ⟨rfl, g.tr g1 (by omega)⟩
  | succ m ih =>
    intro N k h α n hk hN Q hn n3 nh g
    obtain ⟨N, rfl, hN⟩ := px_fu hN
    rw [u_L_law_b45]
    unfold g_L_law_b45
    rw [if_neg (show ¬ ((12 : Int32) ≤ pxJ (k : Int)) from fun z => by
      have := (pxJ_le (a := 12) (b := (k : Int)) (by omega) (by omega) (by omega) (by omega)).mp z
      omega), if_neg qz_n10]
    obtain ⟨v1, e1⟩ := l_cell (xs := xs) (h := h) (show (2 : Int32) + pxJ (k : Int) = pxJ (2 + (k : Int)) from pxJ_add 2 _) hL (by omega) (by omega)
    obtain ⟨w, e2, w0, w1⟩ := l_low (h := h) (v := v1) (n := (19 : Int32)) (m := 19) rfl (by decide) (by decide)
    obtain ⟨w', rfl⟩ : ∃ w' : Nat, w = (w' : Int) := ⟨w.toNat, by omega⟩
    rw [e1, px_b2, e2, px_b2]
    refine pxW_b2 (l_undone (w := w') (by omega) Q n3 (by omega) (by omega)) fun r h1 q => ?_
    obtain ⟨rfl, g1, α1, Q1⟩ := q
    rw [if_neg qz_n10, Q1.1.rc, px_bs, r_lines Q1.1, px_b2]
    have l40 := Q1.2.1.2.2.1.1
    have go : ∀ (h' : jw_H) (α' : pzA) (n' : Int), qzL n' (4 * k + 4) h' α' → n' ≤ n + 3 → 3 ≤ α'.2.2.1.1.length → qzG 41 h h' → pxW (g_L_law_b103 Ls xs (f_L_law_b45 Ls xs N) h' 0 (pxJ (k : Int))) fun r h' => r = 1 ∧ qzG 13000 h0 h' := by
      intro h' α' n' q1 q2 q3 q4
      refine l_law108 (by omega) q1 q3 (by omega) ?_
      intro h'' α'' n'' p1 p2 p3 p4
      rw [show 4 * k + 4 = 4 * (k + 1) by omega] at p1
      have nh' : 587 ≤ jw_n h'' := by
        have a := q4.1
        have b := p4.1
        omega
      exact ih N (k + 1) h'' α'' n'' (by omega) (by omega) p1 (by omega) p3 nh' ((g.tr q4 (Nat.le_refl _)).tr p4 (by omega))
    by_cases c : (2 : Int32) < pxJ (α1.2.2.1.1.length : Int)
    · rw [if_pos c]
      have c2 := (pxJ_lt (a := 2) (b := (α1.2.2.1.1.length : Int)) (by omega) (by omega) (by omega) (by omega)).mp c
      exact go h1 α1 (n + 2) Q1 (by omega) (by omega) (g1.up (by decide))
    · rw [if_neg c]
      have c2 : ¬ (2 < (α1.2.2.1.1.length : Int)) := fun z => c ((pxJ_lt (a := 2) (b := (α1.2.2.1.1.length : Int)) (by omega) (by omega) (by omega) (by omega)).mpr z)
      obtain ⟨v2, e3⟩ := l_cell (xs := xs) (h := h1) (show (20 : Int32) + pxJ (k : Int) = pxJ (20 + (k : Int)) from pxJ_add 20 _) hL (by omega) (by omega)
      obtain ⟨z, e4, z0, z1⟩ := l_low (h := h1) (v := v2) (n := (65536 : Int32)) (m := 65536) rfl (by decide) (by decide)
      rw [e3, px_b2, e4, px_b2, Q1.1.rc, px_bs]
      have nh1 : 587 ≤ jw_n h1 := by
        have a := g1.1
        omega
      refine pxW_b2 (l_sample (y := (3 : Int32)) (k := 3) rfl rfl Q1 nh1 z0 z1 (by decide) (by decide) (by omega) (by omega)) fun v h2 q => ?_
      obtain ⟨rfl, g2, α2, Q2, el⟩ := q
      rw [px_iw, if_neg (show ¬ (pxJ ((α1.2.2.1.1.length : Int) + 3) ≤ 0) from fun y => by
        have := (pxJ_le (a := (α1.2.2.1.1.length : Int) + 3) (b := 0) (by omega) (by omega) (by omega) (by omega)).mp y
        omega)]
      exact go h2 α2 (n + 2 + 1) Q2 (by omega) (by omega) (g1.tr g2 (by decide))
theorem law_init {Ls : Nat} {xs : Nat → Int32} {W : jw_H} (hC : jw_C0 = some (0, W)) : f_L_law Ls xs jw_h0 = jw_b2 (f_L_cell Ls xs W (0 : Int32)) fun w5 h4 =>
    jw_b2 (f_L_low h4 w5 (65536 : Int32)) fun w7 h6 =>
    jw_b2 (f_L_cell Ls xs h6 (1 : Int32)) fun w9 h8 =>
    jw_b2 (f_L_low h8 w9 (6 : Int32)) fun w11 h10 =>
    (jw_rc h10 11 (some 0)).bind fun a12 =>
    jw_b2 (f_X11_sample h10 a12 w7 ((4 : Int32) + w11)) fun ww14 h13 =>
    jw_iw ww14 fun w14 =>
    if w14 ≤ 0 then (g_L_law_b42 Ls xs h13 0 (0 : Int32)) else (g_L_law_b42 Ls xs h13 0 (1 : Int32)) := by
  have e : f_L_law Ls xs jw_h0 = jw_b2 jw_C0 fun q h2 => jw_b2 (f_L_cell Ls xs h2 (0 : Int32)) fun w5 h4 =>
    jw_b2 (f_L_low h4 w5 (65536 : Int32)) fun w7 h6 =>
    jw_b2 (f_L_cell Ls xs h6 (1 : Int32)) fun w9 h8 =>
    jw_b2 (f_L_low h8 w9 (6 : Int32)) fun w11 h10 =>
    (jw_rc h10 11 (some q)).bind fun a12 =>
    jw_b2 (f_X11_sample h10 a12 w7 ((4 : Int32) + w11)) fun ww14 h13 =>
    jw_iw ww14 fun w14 =>
    if w14 ≤ 0 then (g_L_law_b42 Ls xs h13 q (0 : Int32)) else (g_L_law_b42 Ls xs h13 q (1 : Int32)) := by
    unfold f_L_law jw_C0
    simp only [px_bs]
    cases f_X11_init (jw_new jw_h0 (11, 0) (jw_nf 11)) (jw_n jw_h0) with
    | none => rfl
    | some p =>
      obtain ⟨u, h2⟩ := p
      simp only [px_b2]
  rw [e, hC, px_b2]
/-- of the law as a function of its script -/
theorem jw_pure (L : Nat) (xs : Nat → Int32) (hL : L ≤ 260) : ∃ h' : jw_H, f_L_law L xs jw_h0 = some (1, h') ∧ jw_c h' ≤ 600130 ∧ jw_s h' ≤ 7301079 := by
  obtain ⟨W, hC, J, n1, n2, n3⟩ := ini_all
  have A := J.Ap
  have Q : qzL 0 0 W pz0 := ⟨A, ini_O, fun d hd => (by
    have hd : d ∈ ([] : List (Int × pxSn)) := hd
    cases hd), Nat.le_refl _⟩
  obtain ⟨v1, e1⟩ := l_cell (xs := xs) (h := W) (x := (0 : Int32)) (z := 0) rfl hL (by decide) (by decide)
  obtain ⟨z, e2, z0, z1⟩ := l_low (h := W) (v := v1) (n := (65536 : Int32)) (m := 65536) rfl (by decide) (by decide)
  obtain ⟨v2, e3⟩ := l_cell (xs := xs) (h := W) (x := (1 : Int32)) (z := 1) rfl hL (by decide) (by decide)
  obtain ⟨k, e4, k0, k1⟩ := l_low (h := W) (v := v2) (n := (6 : Int32)) (m := 6) rfl (by decide) (by decide)
  have lT : ((pz0.2.2.1.1.length : Nat) : Int) = 0 := rfl
  have main : pxW (f_L_law L xs jw_h0) fun r h' => r = 1 ∧ qzG 13000 W h' := by
    rw [law_init hC, e1, px_b2, e2, px_b2, e3, px_b2, e4, px_b2, A.rc, px_bs]
    refine pxW_b2 (l_sample (k := 4 + k) rfl (show (4 : Int32) + pxJ k = pxJ (4 + k) from pxJ_add 4 k) Q (by omega) z0 z1 (by omega) (by omega) (by omega) (by omega)) fun v h1 q => ?_
    obtain ⟨rfl, g1, α1, Q1, el⟩ := q
    rw [px_iw, if_neg (show ¬ (pxJ (((pz0.2.2.1.1.length : Nat) : Int) + (4 + k)) ≤ 0) from fun y => by
      have := (pxJ_le (a := ((pz0.2.2.1.1.length : Nat) : Int) + (4 + k)) (b := 0) (by omega) (by omega) (by omega) (by omega)).mp y
      omega)]
    unfold g_L_law_b42
    have nh : 587 ≤ jw_n h1 := by
      have a := g1.1
      omega
    exact l_law45 (h0 := W) hL 12 jw_FU 0 h1 α1 (0 + 1) rfl (by unfold jw_FU; omega) Q1 (by omega) (by omega) nh (g1.up (by decide))
  obtain ⟨r, h', e, er, g⟩ := main
  refine ⟨h', ?_, ?_, ?_⟩
  · rw [e, er]
  · have := g.2.1
    omega
  · have := g.2.2
    omega
