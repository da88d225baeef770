/-! a script of plain replacing: over the whole, and line by line -/
section
variable {h : jw_H} {α : pzA} {n : Int}
theorem qz_push1 {D : List (Int × pxSn)} {a : Int × pxSn} (l : D.length ≤ 40) : ∃ D0, (∀ d ∈ D0, d ∈ D) ∧ D0.length ≤ 39 ∧ pxPush D a = D0 ++ [a] := by
  unfold pxPush
  by_cases c : D.length < 40
  · rw [if_pos c]
    exact ⟨D, fun _ z => z, by omega, rfl⟩
  · rw [if_neg c]
    exact ⟨D.tail, fun _ z => List.mem_of_mem_tail z, by rw [List.length_tail]; omega, rfl⟩
theorem l_undo {D0 : List (Int × pxSn)} {d : Int × pxSn} (A : pwA h α) (e : α.2.2.2.2.1 = D0 ++ [d]) : pxW (f_X11_undo h 0) fun v h' => v = .inl (pxJ (D0.length : Int)) ∧ qzG 1 h h' ∧ pwA h' (α.1, α.2.1, (d.2.1, d.2.2.1, d.2.2.2, α.2.2.1.2.2.2), α.2.2.2.1, D0, α.2.2.2.2.2) := by
  have ne : ¬ α.2.2.2.2.1 = [] := by rw [e]; simp
  have eR : pz_undo α = (0, (α.2.2.2.2.1.length : Int) - 1, pzUn α) := by
    unfold pz_undo
    rw [if_neg ne]
  refine pxW.mono (c_undo A) fun v h' Y => ?_
  rw [eR] at Y
  obtain ⟨y1, y2, y3⟩ := Y.l rfl
  have y3 : pwA h' (pzUn α) := y3
  rw [pzUn_app e] at y3
  have y1 : v = .inl (pxJ ((α.2.2.2.2.1.length : Int) - 1)) := y1
  rw [e, List.length_append, List.length_singleton, show (((D0.length + 1 : Nat)) : Int) - 1 = (D0.length : Int) by omega] at y1
  exact ⟨y1, y2, y3⟩
theorem qz_mrs {ls : pxLs} {g : List Int → List Int} : pxRs (ls.map (fun b => (b.1, g b.2))) = (pxRs ls).map g := by
  unfold pxRs
  rw [List.map_map, List.map_map]
  rfl
theorem l_strB {r : Int} {X : Int64} (A : pwA h α) (O : pzOk n α) (n6 : n + 1 ≤ 600) (Dc : ∀ d ∈ α.2.2.2.2.1, d.1 ≤ α.2.2.2.2.2.1) (n0 : 0 < α.2.2.1.1.length) (sc : α.2.1 0 = some qtS) (hX : ¬ (0 : Int32) < pxJ r → X = qzHs ((pxRs α.2.2.1.1).map (qzRw qtS qzL4)) 17) :
    pxW (g_L_streamed_b115 h (some 0) (qzAll α.2.2.1) (pxJ r) X (1 : Int32)) fun v h' => v = 1 ∧ qzG 2 h h' ∧ ∃ α', qzL (n + 1) α.2.2.2.1.2.1.length h' α' ∧ α'.2.2.1.1 = α.2.2.1.1 := by
  have n40 := O.2.2.1.1
  have d40 := O.2.2.2.2.2.1
  unfold g_L_streamed_b115
  rw [A.rc, px_bs]
  have eP : pz_stream 0 α = pzPly qtS α := by
    unfold pz_stream
    rw [if_neg (by omega), sc]
    rfl
  have st : pxW (f_X11_stream h 0 (0 : Int32)) fun v h' => v = .inl (pxJ (pzPlyR qtS α).1) ∧ qzG 1 h h' ∧ pwA h' (pzPly qtS α).2.2 := by
    refine pxW.mono (c_stream (k := 0) A O (by omega) (by omega)) fun v h' Y => ?_
    rw [eP] at Y
    exact Y.l rfl
  refine pxW_b2 st fun v h2 q => ?_
  obtain ⟨rfl, g2, A2⟩ := q
  have eL : pzPlyR qtS α = pxBPlay qtS qzL4 α.2.2.1 α.2.2.2.1 := by
    unfold pzPlyR
    rw [qz_pS]
    rfl
  obtain ⟨b1, b2⟩ := qz_bplay (T := α.2.2.1) (S := α.2.2.2.1) qz_HL rfl n0 n40
  unfold pzPly at A2
  rw [eL] at A2 ⊢
  rw [px_iw, if_neg qz_n10]
  by_cases c : (pxBPlay qtS qzL4 α.2.2.1 α.2.2.2.1).2.1 = 0
  · have e := b1 c
    rw [e] at A2 ⊢
    have A2 : pwA h2 (α.1, α.2.1, (α.2.2.1.1.map (fun b => (b.1, qzRw qtS qzL4 b.2)), α.2.2.1.2.1, (α.2.2.1.1.length : Int), α.2.2.1.2.2.2), α.2.2.2.1, pxPush α.2.2.2.2.1 (α.2.2.2.2.2.1 + 1, pxSnap α.2.2.1), α.2.2.2.2.2.1 + 1, 0) := A2
    have n4 : ¬ (pxJ (4 * (α.2.2.1.1.length : Int)) < 0) := qz_lt0 (by omega) (by omega)
    have go : pxW (g_L_streamed_b147 h2 (some 0) (qzAll α.2.2.1) (pxJ (4 * (α.2.2.1.1.length : Int)))) fun v h' => v = 1 ∧ qzG 2 h h' ∧ ∃ α', qzL (n + 1) α.2.2.2.1.2.1.length h' α' ∧ α'.2.2.1.1 = α.2.2.1.1 := by
      unfold g_L_streamed_b147 g_L_streamed_b161
      rw [if_pos (show (0 : Int32) ≤ pxJ (4 * (α.2.2.1.1.length : Int)) from (pxJ_le (a := 0) (b := 4 * (α.2.2.1.1.length : Int)) (by omega) (by omega) (by omega) (by omega)).mpr (by omega)), if_neg n4, A2.rc, px_bs]
      obtain ⟨D0, m1, m2, m3⟩ := qz_push1 (a := (α.2.2.2.2.2.1 + 1, pxSnap α.2.2.1)) d40
      refine pxW_b2 (l_undo A2 m3) fun v3 h3 q => ?_
      obtain ⟨rfl, g3, A3⟩ := q
      have A3 : pwA h3 (α.1, α.2.1, (α.2.2.1.1, α.2.2.1.2.1, α.2.2.1.2.2.1, α.2.2.1.2.2.2), α.2.2.2.1, D0, α.2.2.2.2.2.1 + 1, 0) := A3
      rw [px_iw, if_neg (qz_lt0 (by omega) (by omega)), l_all A3, px_b2, if_pos (show lg_cmp (qzAll (α.2.2.1.1, α.2.2.1.2.1, α.2.2.1.2.2.1, α.2.2.1.2.2.2)) (qzAll α.2.2.1) = 0 from qz_cmp _)]
      unfold g_L_streamed_b182 g_L_streamed_b187
      rw [qz_rb1, px_bs]
      obtain ⟨o1, o2, o3, o4, o5, o6, o7, o8, o9, -⟩ := O
      refine pxW_some.mpr ⟨rfl, g2.tr g3 (by decide), _, ⟨A3, ⟨o1, o2, o3, o4, fun d hd => o5 d (m1 d hd), by show D0.length ≤ 40; omega, by show α.2.2.1.2.2.2 ≤ 2400 * (n + 1); omega, by omega, by show 0 ≤ α.2.2.2.2.2.1 + 1 ∧ α.2.2.2.2.2.1 + 1 ≤ n + 1; omega, trivial⟩, fun d hd => ?_, Nat.le_refl _⟩, rfl⟩
      have := Dc d (m1 d hd)
      show d.1 ≤ α.2.2.2.2.2.1 + 1
      omega
    by_cases cr : (0 : Int32) < pxJ r
    · rw [if_pos cr]
      exact go
    · rw [if_neg cr]
      show pxW (if pxJ (4 * (α.2.2.1.1.length : Int)) < 0 then _ else _) _
      rw [if_neg n4, l_rows A2, px_b2, if_pos (show lg_cmp (qzHs (pxRs (α.2.2.1.1.map (fun b => (b.1, qzRw qtS qzL4 b.2)))) 17) X = 0 by rw [hX cr, qz_mrs]; exact qz_cmp _)]
      exact go
  · obtain ⟨e1, e2, e3⟩ := b2 c
    have A2 : pwA h2 (α.1, α.2.1, (pxBPlay qtS qzL4 α.2.2.1 α.2.2.2.1).2.2.1, (pxBPlay qtS qzL4 α.2.2.1 α.2.2.2.1).2.2.2, (if (pxBPlay qtS qzL4 α.2.2.1 α.2.2.2.1).2.1 = 0 then pxPush α.2.2.2.2.1 (α.2.2.2.2.2.1 + 1, pxSnap α.2.2.1) else α.2.2.2.2.1), α.2.2.2.2.2.1 + 1, (pxBPlay qtS qzL4 α.2.2.1 α.2.2.2.1).2.1) := A2
    rw [if_neg c, e2, e3] at A2
    rw [e1]
    have m1 : pxJ (-1) < 0 := by decide
    have go : pxW (g_L_streamed_b147 h2 (some 0) (qzAll α.2.2.1) (pxJ (-1))) fun v h' => v = 1 ∧ qzG 2 h h' ∧ ∃ α', qzL (n + 1) α.2.2.2.1.2.1.length h' α' ∧ α'.2.2.1.1 = α.2.2.1.1 := by
      unfold g_L_streamed_b147 g_L_streamed_b161
      rw [if_neg (show ¬ ((0 : Int32) ≤ pxJ (-1)) by decide), l_all A2, px_b2, if_pos (show lg_cmp (qzAll α.2.2.1) (qzAll α.2.2.1) = 0 from qz_cmp _), if_pos m1]
      unfold g_L_streamed_b182 g_L_streamed_b187
      rw [qz_rb1, px_bs]
      obtain ⟨o1, o2, o3, o4, o5, o6, o7, o8, o9, -⟩ := O
      refine pxW_some.mpr ⟨rfl, g2.up (by decide), _, ⟨A2, ⟨o1, o2, o3, o4, o5, o6, by show α.2.2.1.2.2.2 ≤ 2400 * (n + 1); omega, by omega, by show 0 ≤ α.2.2.2.2.2.1 + 1 ∧ α.2.2.2.2.2.1 + 1 ≤ n + 1; omega, trivial⟩, fun d hd => ?_, Nat.le_refl _⟩, rfl⟩
      have := Dc d hd
      show d.1 ≤ α.2.2.2.2.2.1 + 1
      omega
    by_cases cr : (0 : Int32) < pxJ r
    · rw [if_pos cr]
      exact go
    · rw [if_neg cr]
      show pxW (if pxJ (-1) < 0 then _ else _) _
      rw [if_pos m1]
      exact go
def qzDdS : Bool := decide (qtS.length ≤ 60) && qtS.all (fun c => decide (32 ≤ c ∧ c ≤ 126)) && qzL4.all (fun t => decide (¬ (pxAc qtS t.1 = 58 ∨ pxAc qtS t.1 = 98 ∨ pxAc qtS t.1 = 84 ∨ pxAc qtS t.1 = 113)))
theorem qz_ddB : qzDdS = true := by decide +kernel
theorem qz_dd : pxTp qtS ∧ ∀ t ∈ qzL4, ¬ (pxAc qtS t.1 = 58 ∨ pxAc qtS t.1 = 98 ∨ pxAc qtS t.1 = 84 ∨ pxAc qtS t.1 = 113) := by
  have k := qz_ddB
  unfold qzDdS at k
  rw [Bool.and_eq_true, Bool.and_eq_true] at k
  exact ⟨⟨of_decide_eq_true k.1.1, fun c hc => of_decide_eq_true (List.all_eq_true.mp k.1.2 c hc)⟩, fun t ht => of_decide_eq_true (List.all_eq_true.mp k.2 t ht)⟩
theorem l_keep0 (A : pwA h α) (T : pxTp α.1) (ok : (pxOrds α.1 61 0).1 = -1) : pxW (f_X11_keep h 0 (0 : Int32)) fun v h' => v = .inl (pxJ (α.1.length : Int)) ∧ qzG 1 h h' ∧ pwA h' (α.1, (fun j => if j = 0 then some α.1 else α.2.1 j), α.2.2) := by
  have e : pz_keep 0 α = (0, (α.1.length : Int), (α.1, (fun j => if j = 0 then some α.1 else α.2.1 j), α.2.2)) := by
    unfold pz_keep
    rw [if_neg (by omega), if_pos ok]
  refine pxW.mono (c_keep (k := 0) A T (by omega) (by omega)) fun v h' Y => ?_
  rw [e] at Y
  exact Y.l rfl
theorem l_play0 {s : List Int} (A : pwA h α) (O : pzOk n α) (n6 : n + 1 ≤ 600) (sc : α.2.1 0 = some s) : pxW (f_X11_play h 0 (0 : Int32)) fun v h' => v = .inl (pxJ (pzRunR s α).1) ∧ qzG 1 h h' ∧ pwA h' (pzRun s α).2.2 ∧ pzOk (n + 1) (pzRun s α).2.2 := by
  have e : pz_play 0 α = pzRun s α := by
    unfold pz_play
    rw [if_neg (by omega), sc]
    rfl
  have O2 := ok_play (k := 0) A O n6
  rw [e] at O2
  refine pxW.mono (c_play (k := 0) A O (by omega) (by omega)) fun v h' Y => ?_
  rw [e] at Y
  obtain ⟨y1, y2, y3⟩ := Y.l rfl
  exact ⟨y1, y2, y3, O2⟩
theorem qz_gS1 : qzSgn (4278295482728184229 : Int64) (qtS.take 9) = true := by decide +kernel
theorem qz_gS2 : qzSgn (3442313063511620901 : Int64) ((qtS.drop 9).take 9) = true := by decide +kernel
theorem qz_gS3 : qzSgn (28412667713524411 : Int64) (qtS.drop 18) = true := by decide +kernel
set_option maxHeartbeats 1000000 in
theorem l_streamed {o : Nat} (Q : qzL n o h α) (n0 : 0 < α.2.2.1.1.length) (n6 : n + 2 ≤ 600) : pxW (f_L_streamed h (some 0)) fun r h' => r = 1 ∧ qzG 40 h h' ∧ ∃ α', qzL (n + 2) o h' α' ∧ α'.2.2.1.1.length = α.2.2.1.1.length := by
  obtain ⟨A, O, Dc, ou⟩ := Q
  obtain ⟨tp, dd⟩ := qz_dd
  unfold f_L_streamed
  rw [A.rc, px_bs]
  refine pxW_b2 (l_wipe A O.1) fun v h0 q => ?_
  obtain ⟨v0, g0, A0⟩ := q
  rw [if_neg v0]
  refine pxW_b2 (l_typed qz_gS1 rfl A0 pxTp_nil (Nat.le_of_ble_eq_true rfl)) fun r1 h1 q => ?_
  obtain ⟨rfl, g1, A1, T1⟩ := q
  rw [if_neg qz_n10]
  refine pxW_b2 (l_typed qz_gS2 rfl A1 T1 (Nat.le_of_ble_eq_true rfl)) fun r2 h2 q => ?_
  obtain ⟨rfl, g2, A2, T2⟩ := q
  rw [if_neg qz_n10]
  refine pxW_b2 (l_typed qz_gS3 rfl A2 T2 (Nat.le_of_ble_eq_true rfl)) fun r3 h3 q => ?_
  obtain ⟨rfl, g3, A3, T3⟩ := q
  have A3 : pwA h3 (qtS, α.2) := A3
  rw [if_neg qz_n10, A3.rc, px_bs]
  refine pxW_b2 (l_keep0 A3 tp (by rw [qz_pS])) fun v4 h4 q => ?_
  obtain ⟨rfl, g4, A4⟩ := q
  have A4 : pwA h4 (qtS, (fun j => if j = 0 then some qtS else α.2.1 j), α.2.2) := A4
  have O4 : pzOk n (qtS, (fun j => if j = 0 then some qtS else α.2.1 j), α.2.2) := by
    refine ⟨tp, fun j s j0 j4 e => ?_, O.2.2⟩
    have e : (if j = 0 then some qtS else α.2.1 j) = some s := e
    by_cases g : j = 0
    · rw [if_pos g] at e
      rw [← Option.some.inj e]
      exact ⟨tp, by rw [qz_pS]⟩
    · rw [if_neg g] at e
      exact O.2.1 j s j0 j4 e
  generalize esc : (fun j => if j = 0 then some qtS else α.2.1 j) = sc at A4 O4
  have sc0 : sc 0 = some qtS := by rw [← esc]; rfl
  rw [px_iw, if_pos (show pxJ (qtS.length : Int) = (26 : Int32) by decide)]
  unfold g_L_streamed_b58
  rw [l_all A4, px_b2, A4.rc, px_bs]
  refine pxW_b2 (l_play0 A4 O4 (by omega) sc0) fun v5 h5 q => ?_
  obtain ⟨rfl, g5, A5, O5⟩ := q
  have eR : pzRunR qtS (qtS, sc, α.2.2) = pxRunL qtS qzL4 (α.2.2.2.2.2.1 + 1) 61 0 0 0 α.2.2.1 α.2.2.2.1 false α.2.2.2.2.1 := by
    unfold pzRunR
    rw [qz_pS]
    rfl
  obtain ⟨K, k1, k2, k3, k4, k5, k6⟩ := qz_snaps (call := α.2.2.2.2.2.1 + 1) dd 61 0 0 0 α.2.2.1 α.2.2.2.1 false α.2.2.2.2.1 (Nat.zero_le _)
  have l4 : qzL4.length = 4 := rfl
  obtain ⟨p1, p2, p3⟩ := qz_play (s := qtS) (L := qzL4) (call := α.2.2.2.2.2.1 + 1) (fun t ht => ⟨(qz_HL t ht).2.1, (qz_HL t ht).2.2.1⟩) qzL4 [] 61 0 0 α.2.2.1 α.2.2.2.1 false α.2.2.2.2.1 rfl (by decide) (by omega)
  rw [qz_fuse] at p2
  have p1 : (pxRunL qtS qzL4 (α.2.2.2.2.2.1 + 1) 61 0 0 0 α.2.2.1 α.2.2.2.1 false α.2.2.2.2.1).2.2.2.1 = α.2.2.2.1 := p1
  have p2 : (pxRunL qtS qzL4 (α.2.2.2.2.2.1 + 1) 61 0 0 0 α.2.2.1 α.2.2.2.1 false α.2.2.2.2.1).2.1 = 0 → pxRs (pxRunL qtS qzL4 (α.2.2.2.2.2.1 + 1) 61 0 0 0 α.2.2.1 α.2.2.2.1 false α.2.2.2.2.1).2.2.1.1 = (pxRs α.2.2.1.1).map (qzRw qtS qzL4) := p2
  have p3 : (pxRunL qtS qzL4 (α.2.2.2.2.2.1 + 1) 61 0 0 0 α.2.2.1 α.2.2.2.1 false α.2.2.2.2.1).2.1 = 0 ∨ (pxRunL qtS qzL4 (α.2.2.2.2.2.1 + 1) 61 0 0 0 α.2.2.1 α.2.2.2.1 false α.2.2.2.2.1).2.1 = 4 ∨ (pxRunL qtS qzL4 (α.2.2.2.2.2.1 + 1) 61 0 0 0 α.2.2.1 α.2.2.2.1 false α.2.2.2.2.1).2.1 = 7 := p3
  unfold pzRun at A5 O5
  rw [eR] at A5 O5 ⊢
  generalize pxRunL qtS qzL4 (α.2.2.2.2.2.1 + 1) 61 0 0 0 α.2.2.1 α.2.2.2.1 false α.2.2.2.2.1 = R at *
  have A5 : pwA h5 (qtS, sc, R.2.2.1, R.2.2.2.1, R.2.2.2.2, α.2.2.2.2.2.1 + 1, R.2.1) := A5
  have O5 : pzOk (n + 1) (qtS, sc, R.2.2.1, R.2.2.2.1, R.2.2.2.2, α.2.2.2.2.2.1 + 1, R.2.1) := O5
  rw [p1] at A5 O5
  have k2 : R.1 = (K.length : Int) := by rw [k2]; omega
  have kl : K.length ≤ 4 := by omega
  have d40 := O.2.2.2.2.2.1
  rw [px_iw, A5.rc, px_bs, r_reason A5, px_b2, l_rows A5, px_b2, if_neg qz_n10]
  have hX : ¬ (0 : Int32) < pxJ R.2.1 → qzHs (pxRs R.2.2.1.1) 17 = qzHs ((pxRs α.2.2.1.1).map (qzRw qtS qzL4)) 17 := fun z => by
    rcases p3 with c | c | c
    · rw [p2 c]
    · rw [c] at z; exact absurd (show (0 : Int32) < pxJ 4 by decide) z
    · rw [c] at z; exact absurd (show (0 : Int32) < pxJ 7 by decide) z
  -- the text as it was: the script line by line
  have go : ∀ (h6 : jw_H) (nx : Int) (D6 : List (Int × pxSn)), pwA h6 (qtS, sc, (α.2.2.1.1, α.2.2.1.2.1, α.2.2.1.2.2.1, nx), α.2.2.2.1, D6, α.2.2.2.2.2.1 + 1, R.2.1) → pzOk (n + 1) (qtS, sc, (α.2.2.1.1, α.2.2.1.2.1, α.2.2.1.2.2.1, nx), α.2.2.2.1, D6, α.2.2.2.2.2.1 + 1, R.2.1) → (∀ d ∈ D6, d ∈ α.2.2.2.2.1) → qzG 38 h h6 → pxW (g_L_streamed_b101 h6 (some 0) (qzAll α.2.2.1) (pxJ R.2.1) (qzHs (pxRs R.2.2.1.1) 17)) fun r h' => r = 1 ∧ qzG 40 h h' ∧ ∃ α', qzL (n + 2) o h' α' ∧ α'.2.2.1.1.length = α.2.2.1.1.length := by
    intro h6 nx D6 A6 O6 m6 g6
    unfold g_L_streamed_b101
    rw [l_all A6, px_b2, if_pos (show lg_cmp (qzAll (α.2.2.1.1, α.2.2.1.2.1, α.2.2.1.2.2.1, nx)) (qzAll α.2.2.1) = 0 from qz_cmp _)]
    have k := l_strB (r := R.2.1) (X := qzHs (pxRs R.2.2.1.1) 17) A6 O6 (by omega) (fun d hd => by
      have := Dc d (m6 d hd)
      show d.1 ≤ α.2.2.2.2.2.1 + 1
      omega) n0 sc0 hX
    refine pxW.mono k fun r h' z => ?_
    obtain ⟨z1, z2, α', z3, z4⟩ := z
    obtain ⟨q1, q2, q3, q4⟩ := z3
    rw [show n + 1 + 1 = n + 2 by omega] at q2
    exact ⟨z1, g6.tr z2 (by decide), α', ⟨q1, q2, q3, Nat.le_trans q4 ou⟩, by rw [z4]⟩
  have gg : qzG 29 h h5 := (((((g0.tr g1 (Nat.le_refl _)).tr g2 (Nat.le_refl _)).tr g3 (Nat.le_refl _)).tr g4 (Nat.le_refl _)).tr g5 (by decide))
  by_cases hK : K = []
  · obtain ⟨e1, -⟩ := k5 hK
    rw [if_pos (show pxJ R.1 = 0 by rw [k2, hK]; rfl)]
    rw [k1, hK, e1] at A5 O5
    exact go h5 α.2.2.1.2.2.2 α.2.2.2.2.1 A5 O5 (fun _ z => z) (gg.up (by decide))
  · have kp : 1 ≤ K.length := by
      cases K with
      | nil => exact absurd rfl hK
      | cons a b => rw [List.length_cons]; omega
    obtain ⟨D1, m1, m2, m3⟩ := qz_pushes (call := α.2.2.2.2.2.1 + 1) K α.2.2.2.2.1 [] (by rw [List.append_nil]; exact d40) (by rw [List.length_nil]; omega)
    rw [List.append_nil, List.nil_append] at m3
    have eD : R.2.2.2.2 = D1 ++ K.map (fun x => (α.2.2.2.2.2.1 + 1, x)) := k1.trans m3
    have hD : ∀ d ∈ D1, d.1 ≠ α.2.2.2.2.2.1 + 1 := fun d hd z => by
      have := Dc d (m1 d hd)
      omega
    have hx : K.head? = some (pxSnap α.2.2.1) := by
      cases K with
      | nil => exact absurd rfl hK
      | cons a b => rw [k6 a rfl]; rfl
    rw [if_neg (show ¬ (pxJ R.1 = 0) from qz_ne0 (by omega) (by omega)), A5.rc, px_bs]
    refine pxW_b2 (l_undoRun A5 O5 hK eD hD) fun v6 h6 q => ?_
    obtain ⟨rfl, g6, A6, O6⟩ := q
    rw [hx] at A6 O6
    rw [px_iw, if_pos (show pxJ (K.length : Int) = pxJ R.1 by rw [k2])]
    exact go h6 R.2.2.1.2.2.2 D1 A6 O6 m1 (gg.tr g6 (by decide))
end
