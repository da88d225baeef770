/-! an order for all lines, and the same one for one line after another -/
section
variable {h : jw_H} {α : pzA} {n : Int}
theorem qz_gE1 : qzSgn (7227361623303518629 : Int64) (qtE.take 9) = true := by decide +kernel
theorem qz_gE2 : qzSgn (47 : Int64) (qtE.drop 9) = true := by decide +kernel
theorem qz_gA : qzSgn (3443170682464671731 : Int64) qtA = true := by decide +kernel
def qzDdE (s : List Int) : Bool := decide (s.length ≤ 60) && s.all (fun c => decide (32 ≤ c ∧ c ≤ 126))
theorem qz_ddE : qzDdE qtE = true := by decide +kernel
theorem qz_tpE : pxTp qtE := by
  have k := qz_ddE
  unfold qzDdE at k
  rw [Bool.and_eq_true] at k
  exact ⟨of_decide_eq_true k.1, fun c hc => of_decide_eq_true (List.all_eq_true.mp k.2 c hc)⟩
/-- the tape of a line, typed -/
theorem l_tapeK {k : Nat} {K : Int32 → jw_H → Prop} {C : jw_H → Option Nat → Int32 → Int64 → Int32 → Option (Int32 × jw_H)} {X : Int64} (A : pwA h α) (O : pzOk n α) (k1 : 1 ≤ k) (k40 : k ≤ 40) (kn : k ≤ α.2.2.1.1.length) (n6 : n + 1 ≤ 600) (ok : (qzX (pxRw (pxRs α.2.2.1.1) k)).length ≤ 30)
    (next : ∀ h' T' D' r', qzG 13 h h' → pwA h' (qzDg k ++ qtA, α.2.1, T', α.2.2.2.1, D', α.2.2.2.2.2.1 + 1, r') → pzOk (n + 1) (qzDg k ++ qtA, α.2.1, T', α.2.2.2.1, D', α.2.2.2.2.2.1 + 1, r') → pxRs T'.1 = pxSet (pxRs α.2.2.1.1) k (qzX (pxRw (pxRs α.2.2.1.1) k)) → T'.1.length = α.2.2.1.1.length → (∀ d ∈ D', d ∈ α.2.2.2.2.1 ∨ d.1 = α.2.2.2.2.2.1 + 1) → pxW (C h' (some 0) (1 : Int32) X (pxJ (k : Int) + (1 : Int32))) K) :
    pxW ((jw_rc h 11 (some 0)).bind fun a6 => jw_b2 (f_X11_wipe h a6) fun w8 h7 => if w8 < 0 then (g_L_oneByOne_b187 C h7 (some 0) X (pxJ (k : Int))) else (if pxJ (k : Int) < (10 : Int32) then (g_L_oneByOne_b148 C h7 (some 0) X (pxJ (k : Int))) else ((jw_rc h7 11 (some 0)).bind fun a11 => jw_b2 (f_X11_type h7 a11 ((48 : Int32) + (pxJ (k : Int) / (10 : Int32)))) fun ww13 h12 => jw_iw ww13 fun w13 => if w13 ≤ 0 then (g_L_oneByOne_b187 C h12 (some 0) X (pxJ (k : Int))) else (g_L_oneByOne_b148 C h12 (some 0) X (pxJ (k : Int)))))) K := by
  obtain ⟨eo, ew, d1, d2, d3, sb, tp⟩ := qz_k k1 k40
  rw [A.rc, px_bs]
  refine pxW_b2 (l_wipe A O.1) fun v h7 q => ?_
  obtain ⟨v0, g7, A7⟩ := q
  rw [if_neg v0]
  have m10 : (pxJ (k : Int) - pxJ (k : Int) / (10 : Int32) * (10 : Int32)) = pxJ ((k : Int) % 10) := by
    rw [show (10 : Int32) = pxJ 10 from rfl, pxJ_div (by omega) (by omega) (by omega) (by omega), pxJ_mul, pxJ_sub]
    congr 1
    omega
  -- behind the digits ahead of the last one
  have tail : ∀ (h8 : jw_H) (s : List Int), qzG 2 h h8 → pwA h8 (s, α.2) → pxTp s → s ++ [48 + (k : Int) % 10] = qzDg k → pxW (g_L_oneByOne_b148 C h8 (some 0) X (pxJ (k : Int))) K := by
    intro h8 s g8 A8 T8 es
    have ls : s.length ≤ 1 := by
      have e := congrArg List.length es
      rw [List.length_append, List.length_singleton] at e
      unfold qzDg at e
      by_cases c : k < 10
      · rw [if_pos c] at e
        have e : s.length + 1 = 1 := e
        omega
      · rw [if_neg c] at e
        have e : s.length + 1 = 2 := e
        omega
    unfold g_L_oneByOne_b148
    rw [A8.rc, px_bs, m10, show (48 : Int32) + pxJ ((k : Int) % 10) = pxJ (48 + (k : Int) % 10) from pxJ_add 48 _]
    refine pxW_b2 (l_type A8 T8 (by show s.length + 1 ≤ 60; omega) (by omega) (by omega)) fun ww h9 q => ?_
    obtain ⟨rfl, g9, A9, T9⟩ := q
    have A9 : pwA h9 (s ++ [48 + (k : Int) % 10], α.2) := A9
    have T9 : pxTp (s ++ [48 + (k : Int) % 10]) := T9
    rw [es] at A9 T9
    rw [px_iw, if_neg (show ¬ (pxJ ((s.length : Int) + 1) ≤ 0) from fun z => by
      have := (pxJ_le (a := (s.length : Int) + 1) (b := 0) (by omega) (by omega) (by omega) (by omega)).mp z
      omega)]
    have lq : (qzDg k).length + qtA.length ≤ 60 := by
      have e := congrArg List.length es
      rw [List.length_append, List.length_singleton] at e
      have : qtA.length = 9 := rfl
      omega
    refine pxW_b2 (l_typed qz_gA rfl A9 T9 lq) fun r h10 q => ?_
    obtain ⟨rfl, g10, A10, T10⟩ := q
    have A10 : pwA h10 (qzDg k ++ qtA, α.2) := A10
    have O10 : pzOk n (qzDg k ++ qtA, α.2) := ⟨tp, O.2⟩
    rw [if_neg qz_n10, A10.rc, px_bs]
    refine pxW_b2 (l_run A10 O10 n6 (by rw [eo])) fun ww h11 q => ?_
    obtain ⟨rfl, g11, A11, O11⟩ := q
    have dd : ∀ t ∈ (pxOrds (qzDg k ++ qtA) 61 0).2, ¬ (pxAc (qzDg k ++ qtA) t.1 = 58 ∨ pxAc (qzDg k ++ qtA) t.1 = 98 ∨ pxAc (qzDg k ++ qtA) t.1 = 84 ∨ pxAc (qzDg k ++ qtA) t.1 = 113) := by
      rw [eo]
      intro t ht
      have ht : t ∈ [((0 : Int), ([] : List Int))] := ht
      rw [List.mem_singleton] at ht
      subst ht
      have c : pxAc (qzDg k ++ qtA) 0 = 115 := by
        unfold pxAc
        rw [ew]
        exact qz_subP sb
      show ¬ (pxAc (qzDg k ++ qtA) 0 = 58 ∨ pxAc (qzDg k ++ qtA) 0 = 98 ∨ pxAc (qzDg k ++ qtA) 0 = 84 ∨ pxAc (qzDg k ++ qtA) 0 = 113)
      rw [c]; decide
    obtain ⟨K0, k1', -, -, -, -, -⟩ := qz_snaps (call := α.2.2.2.2.2.1 + 1) dd 61 0 0 0 α.2.2.1 α.2.2.2.1 false α.2.2.2.2.1 (Nat.zero_le _)
    obtain ⟨e1, e2, e3, e4⟩ := qz_runK (T := α.2.2.1) (S := α.2.2.2.1) (call := α.2.2.2.2.2.1 + 1) (D := α.2.2.2.2.1) k1 kn (by have := O.2.2.1.1; exact this) ok
    have eR : pzRunR (qzDg k ++ qtA) (qzDg k ++ qtA, α.2) = pxRunL (qzDg k ++ qtA) (pxOrds (qzDg k ++ qtA) 61 0).2 (α.2.2.2.2.2.1 + 1) 61 0 0 0 α.2.2.1 α.2.2.2.1 false α.2.2.2.2.1 := rfl
    unfold pzRun at A11 O11
    show pxW (jw_iw (.inl (pxJ (pzRunR (qzDg k ++ qtA) (qzDg k ++ qtA, α.2)).1)) _) _
    rw [eR]
    have A11 : pwA h11 (qzDg k ++ qtA, α.2.1, (pzRunR (qzDg k ++ qtA) (qzDg k ++ qtA, α.2)).2.2.1, (pzRunR (qzDg k ++ qtA) (qzDg k ++ qtA, α.2)).2.2.2.1, (pzRunR (qzDg k ++ qtA) (qzDg k ++ qtA, α.2)).2.2.2.2, α.2.2.2.2.2.1 + 1, (pzRunR (qzDg k ++ qtA) (qzDg k ++ qtA, α.2)).2.1) := A11
    have O11 : pzOk (n + 1) (qzDg k ++ qtA, α.2.1, (pzRunR (qzDg k ++ qtA) (qzDg k ++ qtA, α.2)).2.2.1, (pzRunR (qzDg k ++ qtA) (qzDg k ++ qtA, α.2)).2.2.2.1, (pzRunR (qzDg k ++ qtA) (qzDg k ++ qtA, α.2)).2.2.2.2, α.2.2.2.2.2.1 + 1, (pzRunR (qzDg k ++ qtA) (qzDg k ++ qtA, α.2)).2.1) := O11
    rw [eR] at A11 O11
    generalize pxRunL (qzDg k ++ qtA) (pxOrds (qzDg k ++ qtA) 61 0).2 (α.2.2.2.2.2.1 + 1) 61 0 0 0 α.2.2.1 α.2.2.2.1 false α.2.2.2.2.1 = R at *
    rw [e2] at A11 O11
    rw [px_iw, if_pos (show pxJ R.1 = (1 : Int32) by rw [e1]; decide)]
    unfold g_L_oneByOne_b188
    exact next h11 R.2.2.1 R.2.2.2.2 R.2.1 (((g8.tr g9 (Nat.le_refl _)).tr g10 (Nat.le_refl _)).tr g11 (by decide)) A11 O11 e3 e4 (fun d hd => by
      rw [k1'] at hd
      exact qz_pm K0 _ d hd)
  by_cases c : k < 10
  · rw [if_pos (show pxJ (k : Int) < (10 : Int32) from (pxJ_lt (a := (k : Int)) (b := 10) (by omega) (by omega) (by omega) (by omega)).mpr (by omega))]
    refine tail h7 [] (g7.up (by decide)) A7 pxTp_nil ?_
    unfold qzDg
    rw [if_pos c, List.nil_append, show (k : Int) % 10 = (k : Int) by omega]
  · rw [if_neg (show ¬ (pxJ (k : Int) < (10 : Int32)) from fun z => by
      have := (pxJ_lt (a := (k : Int)) (b := 10) (by omega) (by omega) (by omega) (by omega)).mp z
      omega), A7.rc, px_bs, show (10 : Int32) = pxJ 10 from rfl, pxJ_div (by omega) (by omega) (by omega) (by omega), show (48 : Int32) + pxJ ((k : Int) / 10) = pxJ (48 + (k : Int) / 10) from pxJ_add 48 _]
    refine pxW_b2 (l_type A7 pxTp_nil (Nat.le_of_ble_eq_true rfl) (by omega) (by omega)) fun ww h8 q => ?_
    obtain ⟨rfl, g8, A8, T8⟩ := q
    rw [px_iw, if_neg (show ¬ (pxJ (((([] : List Int).length : Nat) : Int) + 1) ≤ 0) by decide)]
    refine tail h8 [48 + (k : Int) / 10] (g7.tr g8 (by decide)) A8 T8 ?_
    unfold qzDg
    rw [if_neg c]
    rfl
theorem qz_takeS {rs : List (List Int)} {g : List Int → List Int} {k : Nat} (k1 : 1 ≤ k) (kn : k ≤ rs.length) : pxSet ((rs.take (k - 1)).map g ++ rs.drop (k - 1)) (k : Int) (g (pxRw rs k)) = (rs.take k).map g ++ rs.drop k := by
  have kl : k - 1 < rs.length := by omega
  have eg : rs[k - 1] = pxRw rs (k : Int) := by
    show _ = rs.getD ((k : Int) - 1).toNat []
    rw [show ((k : Int) - 1).toNat = k - 1 by omega, List.getD_eq_getElem?_getD, List.getElem?_eq_getElem kl]
    rfl
  have ed : rs.drop (k - 1) = pxRw rs (k : Int) :: rs.drop k := by
    rw [List.drop_eq_getElem_cons kl, eg, show k - 1 + 1 = k by omega]
  have et : rs.take k = rs.take (k - 1) ++ [pxRw rs (k : Int)] := by
    have e := List.take_append_getElem kl
    rw [show k - 1 + 1 = k by omega] at e
    rw [← eg]
    exact e.symm
  have lt : ((rs.take (k - 1)).map g).length = k - 1 := by rw [List.length_map, List.length_take]; omega
  rw [ed, show (k : Int) = ((((rs.take (k - 1)).map g).length : Nat) : Int) + 1 by rw [lt]; omega, qz_setAt, et, List.map_append, List.append_assoc, lt, show (((k - 1 : Nat) : Int) + 1) = (k : Int) by omega]
  rfl
theorem qz_rwS {rs : List (List Int)} {g : List Int → List Int} {k : Nat} (k1 : 1 ≤ k) (kn : k ≤ rs.length) : pxRw ((rs.take (k - 1)).map g ++ rs.drop (k - 1)) (k : Int) = pxRw rs (k : Int) := by
  have kl : k - 1 < rs.length := by omega
  have lt : ((rs.take (k - 1)).map g).length = k - 1 := by rw [List.length_map, List.length_take]; omega
  show pxG [] _ (k : Int) = pxG [] rs (k : Int)
  rw [pxG_appR (by omega), lt, show (k : Int) - ((k - 1 : Nat) : Int) = 1 by omega]
  unfold pxG
  rw [show ((1 : Int) - 1).toNat = 0 by omega, List.getD_eq_getElem?_getD, List.getD_eq_getElem?_getD, List.getElem?_drop, show ((k : Int) - 1).toNat = k - 1 + 0 by omega]
/-- the loop over the lines -/
theorem l_one106 {rs : List (List Int)} {X : Int64} {o : Nat} {h0 : jw_H} {P : Int} (okr : ∀ r ∈ rs, (qzX r).length ≤ 30) (hX : X = qzHs (rs.map qzX) 17) (r40 : rs.length ≤ 40) : ∀ (m N k : Nat) (h : jw_H) (α : pzA) (n : Int), k + m = rs.length + 1 → m < N → 1 ≤ k → qzL n o h α → n + m ≤ P → P ≤ 600 → α.2.2.1.1.length = rs.length → pxRs α.2.2.1.1 = (rs.take (k - 1)).map qzX ++ rs.drop (k - 1) → qzG (13 * (k - 1) + 40) h0 h →
    pxW (f_L_oneByOne_b106 N h (some 0) (1 : Int32) X (pxJ (k : Int))) fun r h' => r = 1 ∧ qzG 600 h0 h' ∧ ∃ α', qzL P o h' α' ∧ α'.2.2.1.1.length = rs.length := by
  intro m
  induction m with
  | zero =>
    intro N k h α n hk hN k1 Q hP P6 el er g
    obtain ⟨N, rfl, -⟩ := px_fu hN
    obtain ⟨A, O, Dc, ou⟩ := Q
    rw [u_L_oneByOne_b106]
    unfold g_L_oneByOne_b106
    have rows : pxRs α.2.2.1.1 = rs.map qzX := by
      rw [er, List.take_of_length_le (by omega), List.drop_of_length_le (by omega), List.append_nil]
    rw [A.rc, px_bs, r_lines A, px_b2, if_pos (show pxJ (α.2.2.1.1.length : Int) < pxJ (k : Int) from (pxJ_lt (by omega) (by omega) (by omega) (by omega)).mpr (by omega))]
    unfold g_L_oneByOne_b195
    rw [if_neg qz_n10, l_rows A, px_b2, rows, if_pos (show lg_cmp (qzHs (rs.map qzX) 17) X = 0 by rw [hX]; exact qz_cmp _)]
    unfold g_L_oneByOne_b214
    rw [qz_rb1, px_bs]
    obtain ⟨o1, o2, o3, o4, o5, o6, o7, o8, o9, -⟩ := O
    exact pxW_some.mpr ⟨rfl, g.up (by omega), α, ⟨A, ⟨o1, o2, o3, o4, o5, o6, by omega, by omega, by omega, trivial⟩, Dc, ou⟩, el⟩
  | succ m ih =>
    intro N k h α n hk hN k1 Q hP P6 el er g
    obtain ⟨N, rfl, hN⟩ := px_fu hN
    obtain ⟨A, O, Dc, ou⟩ := Q
    rw [u_L_oneByOne_b106]
    unfold g_L_oneByOne_b106
    have erw : pxRw (pxRs α.2.2.1.1) (k : Int) = pxRw rs (k : Int) := by
      rw [er]
      exact qz_rwS k1 (by omega)
    have okk : (qzX (pxRw (pxRs α.2.2.1.1) (k : Int))).length ≤ 30 := by
      rw [erw]
      exact okr _ (pxG_mem (by omega) (by omega))
    rw [A.rc, px_bs, r_lines A, px_b2, if_neg (show ¬ (pxJ (α.2.2.1.1.length : Int) < pxJ (k : Int)) from fun z => by
      have := (pxJ_lt (a := (α.2.2.1.1.length : Int)) (b := (k : Int)) (by omega) (by omega) (by omega) (by omega)).mp z
      omega), if_neg qz_n10]
    refine l_tapeK A O k1 (by omega) (by omega) (by omega) okk ?_
    intro h' T' D' r' g' A' O' e3 e4 m'
    rw [show pxJ (k : Int) + (1 : Int32) = pxJ ((k + 1 : Nat) : Int) from pxJ_add _ 1]
    refine ih N (k + 1) h' _ (n + 1) (by omega) (by omega) (by omega) ⟨A', O', ?_, ou⟩ (by omega) P6 (e4.trans el) ?_ (g.tr g' (by omega))
    · intro d hd
      show d.1 ≤ α.2.2.2.2.2.1 + 1
      rcases m' d hd with z | z
      · have := Dc d z
        omega
      · omega
    · show pxRs T'.1 = _
      rw [e3, erw, er, qz_takeS k1 (by omega), show k + 1 - 1 = k by omega]
set_option maxHeartbeats 1000000 in
theorem l_oneByOne {o : Nat} (Q : qzL n o h α) (n0 : 0 < α.2.2.1.1.length) (n6 : n + 41 ≤ 600) : pxW (f_L_oneByOne h (some 0)) fun r h' => r = 1 ∧ qzG 600 h h' ∧ ∃ α', qzL (n + 41) o h' α' ∧ α'.2.2.1.1.length = α.2.2.1.1.length := by
  obtain ⟨A, O, Dc, ou⟩ := Q
  have n40 := O.2.2.1.1
  have d40 := O.2.2.2.2.2.1
  unfold f_L_oneByOne
  rw [l_rows A, px_b2, A.rc, px_bs]
  refine pxW_b2 (l_wipe A O.1) fun v h1 q => ?_
  obtain ⟨v0, g1, A1⟩ := q
  rw [if_neg v0]
  refine pxW_b2 (l_typed qz_gE1 rfl A1 pxTp_nil (Nat.le_of_ble_eq_true rfl)) fun r2 h2 q => ?_
  obtain ⟨rfl, g2, A2, T2⟩ := q
  rw [if_neg qz_n10]
  refine pxW_b2 (l_typed qz_gE2 rfl A2 T2 (Nat.le_of_ble_eq_true rfl)) fun r3 h3 q => ?_
  obtain ⟨rfl, g3, A3, T3⟩ := q
  have A3 : pwA h3 (qtE, α.2) := A3
  have O3 : pzOk n (qtE, α.2) := ⟨qz_tpE, O.2⟩
  rw [if_neg qz_n10]
  unfold g_L_oneByOne_b40
  rw [A3.rc, px_bs]
  refine pxW_b2 (l_run A3 O3 (by omega) (by rw [qz_pE.1])) fun ww h4 q => ?_
  obtain ⟨rfl, g4, A4, O4⟩ := q
  have dd : ∀ t ∈ (pxOrds qtE 61 0).2, ¬ (pxAc qtE t.1 = 58 ∨ pxAc qtE t.1 = 98 ∨ pxAc qtE t.1 = 84 ∨ pxAc qtE t.1 = 113) := by
    rw [qz_pE.1]
    intro t ht
    have ht : t ∈ [((0 : Int), ([] : List Int))] := ht
    rw [List.mem_singleton] at ht
    subst ht
    show ¬ (pxAc qtE 0 = 58 ∨ pxAc qtE 0 = 98 ∨ pxAc qtE 0 = 84 ∨ pxAc qtE 0 = 113)
    rw [qz_pE.2.2.1]; decide
  obtain ⟨K, k1, k2, k3, k4, k5, k6⟩ := qz_snaps (call := α.2.2.2.2.2.1 + 1) dd 61 0 0 0 α.2.2.1 α.2.2.2.1 false α.2.2.2.2.1 (Nat.zero_le _)
  obtain ⟨e1, e2⟩ := qz_runE (T := α.2.2.1) (S := α.2.2.2.1) (call := α.2.2.2.2.2.1 + 1) (D := α.2.2.2.2.1) (by omega)
  have eR : pzRunR (qtE, α.2).1 (qtE, α.2) = pxRunL qtE (pxOrds qtE 61 0).2 (α.2.2.2.2.2.1 + 1) 61 0 0 0 α.2.2.1 α.2.2.2.1 false α.2.2.2.2.1 := by
    unfold pzRunR
    rfl
  unfold pzRun at A4 O4
  rw [eR] at A4 O4 ⊢
  generalize pxRunL qtE (pxOrds qtE 61 0).2 (α.2.2.2.2.2.1 + 1) 61 0 0 0 α.2.2.1 α.2.2.2.1 false α.2.2.2.2.1 = R at *
  have A4 : pwA h4 (qtE, α.2.1, R.2.2.1, R.2.2.2.1, R.2.2.2.2, α.2.2.2.2.2.1 + 1, R.2.1) := A4
  have O4 : pzOk (n + 1) (qtE, α.2.1, R.2.2.1, R.2.2.2.1, R.2.2.2.2, α.2.2.2.2.2.1 + 1, R.2.1) := O4
  rw [e1] at A4 O4
  have k2 : R.1 = (K.length : Int) := by rw [k2]; omega
  rw [px_iw, l_rows A4, px_b2, if_neg qz_n10]
  have gg : qzG 20 h h4 := (((g1.tr g2 (Nat.le_refl _)).tr g3 (Nat.le_refl _)).tr g4 (by decide))
  rcases e2 with c | ⟨c, okr, er⟩
  · -- refused: nothing is done
    have hK : K = [] := List.length_eq_zero_iff.mp (by omega)
    obtain ⟨e3, -⟩ := k5 hK
    rw [if_pos (show pxJ R.1 = 0 by rw [c]; rfl)]
    unfold g_L_oneByOne_b62
    rw [if_neg qz_n10, l_rows A4, px_b2, if_pos (show lg_cmp (qzHs (pxRs R.2.2.1.1) 17) (qzHs (pxRs α.2.2.1.1) 17) = 0 by rw [e3]; exact qz_cmp _)]
    unfold g_L_oneByOne_b80
    rw [qz_rb1, px_bs]
    obtain ⟨o1, o2, o3, o4, o5, o6, o7, o8, o9, -⟩ := O4
    refine pxW_some.mpr ⟨rfl, gg.up (by decide), _, ⟨A4, ⟨o1, o2, o3, o4, o5, o6, by omega, by omega, by omega, trivial⟩, ?_, ou⟩, by show R.2.2.1.1.length = _; rw [e3]⟩
    intro d hd
    have hd : d ∈ R.2.2.2.2 := hd
    rw [k1, hK] at hd
    have := Dc d hd
    show d.1 ≤ α.2.2.2.2.2.1 + 1
    omega
  · -- done: undone, and then line by line
    have kl : K.length = 1 := by omega
    obtain ⟨x, hK⟩ : ∃ x, K = [x] := by
      cases K with
      | nil => cases kl
      | cons a b =>
        cases b with
        | nil => exact ⟨a, rfl⟩
        | cons _ _ => rw [List.length_cons, List.length_cons] at kl; omega
    have ex : x = pxSnap α.2.2.1 := k6 x (by rw [hK]; rfl)
    obtain ⟨D0, m1, m2, m3⟩ := qz_push1 (a := (α.2.2.2.2.2.1 + 1, pxSnap α.2.2.1)) d40
    have eD : R.2.2.2.2 = D0 ++ [(α.2.2.2.2.2.1 + 1, pxSnap α.2.2.1)] := by
      rw [k1, hK, ex]
      exact m3
    rw [if_neg (show ¬ (pxJ R.1 = 0) from qz_ne0 (by omega) (by omega)), A4.rc, px_bs]
    refine pxW_b2 (l_undo A4 eD) fun v5 h5 q => ?_
    obtain ⟨rfl, g5, A5⟩ := q
    have O5 := O4.un
    rw [pzUn_app (α := (qtE, α.2.1, R.2.2.1, α.2.2.2.1, R.2.2.2.2, α.2.2.2.2.2.1 + 1, R.2.1)) eD] at O5
    have A5 : pwA h5 (qtE, α.2.1, (α.2.2.1.1, α.2.2.1.2.1, α.2.2.1.2.2.1, R.2.2.1.2.2.2), α.2.2.2.1, D0, α.2.2.2.2.2.1 + 1, R.2.1) := A5
    have O5 : pzOk (n + 1) (qtE, α.2.1, (α.2.2.1.1, α.2.2.1.2.1, α.2.2.1.2.2.1, R.2.2.1.2.2.2), α.2.2.2.1, D0, α.2.2.2.2.2.1 + 1, R.2.1) := O5
    rw [px_iw, if_neg (qz_lt0 (by omega) (by omega)), l_rows A5, px_b2, if_pos (show lg_cmp (qzHs (pxRs α.2.2.1.1) 17) (qzHs (pxRs α.2.2.1.1) 17) = 0 from qz_cmp _)]
    unfold g_L_oneByOne_b102
    show pxW (f_L_oneByOne_b106 jw_FU h5 (some 0) (1 : Int32) (qzHs (pxRs R.2.2.1.1) 17) (pxJ ((1 : Nat) : Int))) _
    rw [er]
    have lr : (pxRs α.2.2.1.1).length = α.2.2.1.1.length := pxRs_len _
    have k := l_one106 (rs := pxRs α.2.2.1.1) (X := qzHs ((pxRs α.2.2.1.1).map qzX) 17) (o := o) (h0 := h) (P := n + 41) okr rfl (by omega) α.2.2.1.1.length jw_FU 1 h5 _ (n + 1) (by omega) (by unfold jw_FU; omega) (Nat.le_refl 1) ⟨A5, O5, fun d hd => by
      have := Dc d (m1 d hd)
      show d.1 ≤ α.2.2.2.2.2.1 + 1
      omega, ou⟩ (by omega) (by omega) lr.symm (by
      show pxRs α.2.2.1.1 = ((pxRs α.2.2.1.1).take 0).map qzX ++ (pxRs α.2.2.1.1).drop 0
      rw [List.take_zero, List.map_nil, List.nil_append, List.drop_zero]) (gg.tr g5 (by decide))
    rw [lr] at k
    exact k
end
