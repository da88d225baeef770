/-! a tape is done, undone, and done once more -/
theorem qz_pm {call : Int} : ∀ (K : List pxSn) (D : List (Int × pxSn)) (d : Int × pxSn), d ∈ K.foldl (qzPu call) D → d ∈ D ∨ d.1 = call
  | [], D, d, h => Or.inl h
  | x :: K, D, d, h => by
    rcases qz_pm K (qzPu call D x) d h with z | z
    · have z : d ∈ pxPush D (call, x) := z
      unfold pxPush at z
      by_cases c : D.length < 40
      · rw [if_pos c] at z
        rcases List.mem_append.mp z with y | y
        · exact Or.inl y
        · rw [List.mem_singleton.mp y]; exact Or.inr rfl
      · rw [if_neg c] at z
        rcases List.mem_append.mp z with y | y
        · exact Or.inl (List.mem_of_mem_tail y)
        · rw [List.mem_singleton.mp y]; exact Or.inr rfl
    · exact Or.inr z
/-- what holds between the law's steps -/
def qzL (n : Int) (o : Nat) (h : jw_H) (α : pzA) : Prop := pwA h α ∧ pzOk n α ∧ (∀ d ∈ α.2.2.2.2.1, d.1 ≤ α.2.2.2.2.2.1) ∧ α.2.2.2.1.2.1.length ≤ o
section
variable {h : jw_H} {α : pzA} {n : Int}
theorem pzOk.cs (O : pzOk n α) : ∀ d ∈ α.2.2.2.2.1, -2147483648 ≤ d.1 ∧ d.1 ≤ 2147483647 := fun d hd => (O.2.2.2.2.1 d hd).2
theorem l_sound (A : pwA h α) (O : pzOk n α) : pxW (f_X11_isSound h 0) fun v h' => v = pxJ 1 ∧ qzG 1 h h' ∧ pwA h' α := by
  have nb : α.2.2.1.2.2.2 ≤ 2147483647 := by
    obtain ⟨-, -, -, -, -, -, o7, o8, -⟩ := O
    omega
  exact pxW.mono (c_isSound A O.2.2.1 nb) fun v h' Z => Z.l
theorem l_run (A : pwA h α) (O : pzOk n α) (n6 : n + 1 ≤ 600) (ok : (pxOrds α.1 61 0).1 = -1) : pxW (f_X11_run h 0) fun v h' => v = .inl (pxJ (pzRunR α.1 α).1) ∧ qzG 1 h h' ∧ pwA h' (pzRun α.1 α).2.2 ∧ pzOk (n + 1) (pzRun α.1 α).2.2 := by
  have e : pz_run α = pzRun α.1 α := by
    unfold pz_run
    rw [if_pos ok]
  have O2 := ok_run A O n6
  rw [e] at O2
  refine pxW.mono (c_run A O) fun v h' Y => ?_
  rw [e] at Y
  obtain ⟨y1, y2, y3⟩ := Y.l rfl
  exact ⟨y1, y2, y3, O2⟩
theorem l_undoRun {D1 : List (Int × pxSn)} {K : List pxSn} {call : Int} (A : pwA h α) (O : pzOk n α) (ne : K ≠ []) (e : α.2.2.2.2.1 = D1 ++ K.map (fun x => (call, x))) (hD : ∀ d ∈ D1, d.1 ≠ call) : pxW (f_X11_undoRun h 0) fun v h' => v = .inl (pxJ (K.length : Int)) ∧ qzG 1 h h' ∧ pwA h' (qzBk α D1 K.head?) ∧ pzOk n (qzBk α D1 K.head?) := by
  obtain ⟨K', x, eK⟩ : ∃ K' x, K = K' ++ [x] := ⟨K.dropLast, K.getLast ne, (List.dropLast_concat_getLast ne).symm⟩
  have el : α.2.2.2.2.1.getLast? = some (call, x) := by
    rw [e, eK, List.map_append, ← List.append_assoc]
    exact List.getLast?_concat
  have eR : pz_undoRun α = (0, (pzUr call α.2.2.2.2.1.length 0 α).1, (pzUr call α.2.2.2.2.1.length 0 α).2) := by
    unfold pz_undoRun
    rw [el]
    rfl
  have eu := qz_ur hD K.length α.2.2.2.2.1.length K 0 α rfl (by rw [e, List.length_append, List.length_map]; omega) e
  have O2 := pzUr_ok (n := n) (call := call) α.2.2.2.2.1.length 0 α O
  rw [eu] at O2 eR
  refine pxW.mono (c_undoRun A O.cs) fun v h' Y => ?_
  rw [eR] at Y
  obtain ⟨y1, y2, y3⟩ := Y.l rfl
  have y1 : v = .inl (pxJ (0 + (K.length : Int))) := y1
  rw [Int.zero_add] at y1
  exact ⟨y1, y2, y3, O2⟩
theorem qz_lt0 {z : Int} (z0 : 0 ≤ z) (z1 : z ≤ 100000) : ¬ (pxJ z < 0) := fun y => by
  have := (pxJ_lt (a := z) (b := 0) (by omega) (by omega) (by omega) (by omega)).mp y
  omega
theorem qz_ne0 {z : Int} (z0 : 1 ≤ z) (z1 : z ≤ 100000) : ¬ (pxJ z = 0) := fun y => by
  have := (pxJ_eq (a := z) (b := 0) (by omega) (by omega) (by omega) (by omega)).mp y
  omega
theorem qz_n10 : ¬ ((1 : Int32) = 0) := by decide
theorem qz_rb1 : jw_rb (1 : Int32) = some () := px_rb1
set_option maxHeartbeats 1000000 in
theorem l_undone {w o : Nat} (w19 : w < 19) (Q : qzL n o h α) (n3 : 3 ≤ α.2.2.1.1.length) (n6 : n + 2 ≤ 600) (o9 : o ≤ 90) : pxW (f_L_undone h (some 0) (pxJ (w : Int))) fun r h' => r = 1 ∧ qzG 40 h h' ∧ ∃ α', qzL (n + 2) (o + 4) h' α' := by
  obtain ⟨A, O, Dc, ou⟩ := Q
  obtain ⟨tp, ok, l2, dd⟩ := qz_ord w19
  unfold f_L_undone
  rw [l_all A, px_b2, l_lines A, px_b2, A.rc, px_bs, r_deeds A, px_b2]
  refine pxW_b2 (l_types w19 A O.1) fun r1 h1 q1 => ?_
  obtain ⟨rfl, g1, A1⟩ := q1
  have O1 : pzOk n (qzt w, α.2) := ⟨tp, O.2⟩
  rw [if_neg qz_n10, A1.rc, px_bs]
  refine pxW_b2 (c_fault A1 tp) fun v h2 Z => ?_
  obtain ⟨z1, g2, A2⟩ := Z.l
  have z1 : v = pxJ (pxOrds (qzt w) 61 0).1 := z1
  rw [ok] at z1
  have A2 : pwA h2 (qzt w, α.2) := A2
  rw [if_pos (show v = (-1 : Int32) by rw [z1]; decide)]
  unfold g_L_undone_b38
  rw [A2.rc, px_bs]
  refine pxW_b2 (l_run A2 O1 (by omega) ok) fun ww h3 q => ?_
  obtain ⟨rfl, g3, A3, O3⟩ := q
  have A3 : pwA h3 (pzRun (qzt w) (qzt w, α.2)).2.2 := A3
  have O3 : pzOk (n + 1) (pzRun (qzt w) (qzt w, α.2)).2.2 := O3
  have tape := qz_tape w O.2.2.1 O.2.2.2.1 n3 (show α.2.2.2.1.2.1.length ≤ 96 by omega) (α.2.2.2.2.2.1 + 1) α.2.2.2.2.1
  obtain ⟨t1, t2⟩ := tape
  obtain ⟨K, k1, k2, k3, k4, k5, k6⟩ := qz_snaps (call := α.2.2.2.2.2.1 + 1) dd 61 0 0 0 α.2.2.1 α.2.2.2.1 false α.2.2.2.2.1 (Nat.zero_le _)
  have perm : (w = 2 ∨ w = 3) → (pxRunL (qzt w) (pxOrds (qzt w) 61 0).2 (α.2.2.2.2.2.1 + 1) 61 0 0 0 α.2.2.1 α.2.2.2.1 false α.2.2.2.2.1).2.2.1.1.Perm α.2.2.1.1 := fun hw => qz_tperm hw n3
  have eR : pzRunR (qzt w) (qzt w, α.2) = pxRunL (qzt w) (pxOrds (qzt w) 61 0).2 (α.2.2.2.2.2.1 + 1) 61 0 0 0 α.2.2.1 α.2.2.2.1 false α.2.2.2.2.1 := rfl
  unfold pzRun at A3 O3
  show pxW (jw_iw (.inl (pxJ (pzRunR (qzt w) (qzt w, α.2)).1)) _) _
  rw [eR] at A3 O3 ⊢
  generalize pxRunL (qzt w) (pxOrds (qzt w) 61 0).2 (α.2.2.2.2.2.1 + 1) 61 0 0 0 α.2.2.1 α.2.2.2.1 false α.2.2.2.2.1 = R at *
  have A3 : pwA h3 (qzt w, α.2.1, R.2.2.1, R.2.2.2.1, R.2.2.2.2, α.2.2.2.2.2.1 + 1, R.2.1) := A3
  have O3 : pzOk (n + 1) (qzt w, α.2.1, R.2.2.1, R.2.2.2.1, R.2.2.2.2, α.2.2.2.2.2.1 + 1, R.2.1) := O3
  have k2 : R.1 = (K.length : Int) := by rw [k2]; omega
  have kl : K.length ≤ 2 := by omega
  rw [px_iw, if_neg qz_n10, A3.rc, px_bs]
  refine pxW_b2 (l_sound A3 O3) fun v4 h4 q => ?_
  obtain ⟨rfl, g4, A4⟩ := q
  rw [if_neg (show ¬ (pxJ 1 = 0) by decide), if_neg (show ¬ (pxJ R.1 < 0) from qz_lt0 (by omega) (by omega)), A4.rc, px_bs, r_reason A4, px_b2]
  have d40 := O.2.2.2.2.2.1
  -- what comes behind the first run
  have next : pxW (g_L_undone_b76 h4 (some 0) (pxJ (w : Int)) (qzAll α.2.2.1) (qzLs α.2.2.1.1) (pxJ (α.2.2.2.2.1.length : Int)) (pxJ R.1)) fun r h' => r = 1 ∧ qzG 40 h h' ∧ ∃ α', qzL (n + 2) (o + 4) h' α' := by
    unfold g_L_undone_b76 g_L_undone_b81
    rw [if_neg qz_n10]
    by_cases hK : K = []
    · obtain ⟨e1, e2⟩ := k5 hK
      have e0 : R.1 = 0 := by rw [k2, hK]; rfl
      rw [if_pos (show pxJ R.1 = 0 by rw [e0]; rfl), l_all A4, px_b2, if_pos (show lg_cmp (qzAll R.2.2.1) (qzAll α.2.2.1) = 0 by rw [e1]; exact qz_cmp _), A4.rc, px_bs, r_deeds A4, px_b2, if_pos (show pxJ ((R.2.2.2.2.length : Nat) : Int) = pxJ (α.2.2.2.2.1.length : Int) by rw [k1, hK]; rfl)]
      unfold g_L_undone_b116
      rw [qz_rb1, px_bs]
      refine pxW_some.mpr ⟨rfl, ((((g1.tr g2 (Nat.le_refl _)).tr g3 (Nat.le_refl _)).tr g4 (Nat.le_refl _)).up (by decide)), _, A4, ?_, ?_, ?_⟩
      · have := O3.up (by omega)
        rw [show n + 1 + 1 = n + 2 by omega] at this
        exact this
      · intro d hd
        have hd : d ∈ R.2.2.2.2 := hd
        rw [k1, hK] at hd
        have := Dc d hd
        show d.1 ≤ α.2.2.2.2.2.1 + 1
        omega
      · show R.2.2.2.1.2.1.length ≤ o + 4
        omega
    · have kp : 1 ≤ K.length := by
        cases K with
        | nil => exact absurd rfl hK
        | cons a b => rw [List.length_cons]; omega
      rw [if_neg (show ¬ (pxJ R.1 = 0) from qz_ne0 (by omega) (by omega))]
      obtain ⟨D1, m1, m2, m3⟩ := qz_pushes (call := α.2.2.2.2.2.1 + 1) K α.2.2.2.2.1 [] (by rw [List.append_nil]; exact d40) (by rw [List.length_nil]; omega)
      rw [List.append_nil, List.nil_append] at m3
      have eD : R.2.2.2.2 = D1 ++ K.map (fun x => (α.2.2.2.2.2.1 + 1, x)) := k1.trans m3
      have hD : ∀ d ∈ D1, d.1 ≠ α.2.2.2.2.2.1 + 1 := fun d hd z => by
        have := Dc d (m1 d hd)
        omega
      have hx : K.head? = some (pxSnap α.2.2.1) := by
        cases K with
        | nil => exact absurd rfl hK
        | cons a b => rw [k6 a rfl]; rfl
      have go : pxW (g_L_undone_b142 h4 (some 0) (qzAll α.2.2.1) (pxJ R.1)) fun r h' => r = 1 ∧ qzG 40 h h' ∧ ∃ α', qzL (n + 2) (o + 4) h' α' := by
        unfold g_L_undone_b142 g_L_undone_b147
        rw [A4.rc, px_bs, r_deeds A4, px_b2, A4.rc, px_bs]
        refine pxW_b2 (l_undoRun A4 O3 hK eD hD) fun v5 h5 q => ?_
        obtain ⟨rfl, g5, A5, O5⟩ := q
        rw [hx] at A5 O5
        have A5 : pwA h5 (qzt w, α.2.1, (α.2.2.1.1, α.2.2.1.2.1, α.2.2.1.2.2.1, R.2.2.1.2.2.2), R.2.2.2.1, D1, α.2.2.2.2.2.1 + 1, R.2.1) := A5
        have O5 : pzOk (n + 1) (qzt w, α.2.1, (α.2.2.1.1, α.2.2.1.2.1, α.2.2.1.2.2.1, R.2.2.1.2.2.2), R.2.2.2.1, D1, α.2.2.2.2.2.1 + 1, R.2.1) := O5
        have ed : pxJ (D1.length : Int) = pxJ ((R.2.2.2.2.length : Nat) : Int) - pxJ (K.length : Int) := by
          rw [eD, List.length_append, List.length_map, pxJ_sub, show (((D1.length + K.length : Nat)) : Int) - (K.length : Int) = (D1.length : Int) by omega]
        rw [px_iw, if_neg qz_n10, if_neg (show ¬ (pxJ (K.length : Int) < (1 : Int32)) from fun z => by
          have := (pxJ_lt (a := (K.length : Int)) (b := 1) (by omega) (by omega) (by omega) (by omega)).mp z
          omega), if_neg (show ¬ (pxJ R.1 < pxJ (K.length : Int)) by rw [k2]; exact Int32.lt_irrefl), A5.rc, px_bs, r_deeds A5, px_b2, if_pos ed, l_all A5, px_b2, if_pos (show lg_cmp (qzAll (α.2.2.1.1, α.2.2.1.2.1, α.2.2.1.2.2.1, R.2.2.1.2.2.2)) (qzAll α.2.2.1) = 0 from qz_cmp _)]
        unfold g_L_undone_b205
        rw [if_neg qz_n10, A5.rc, px_bs]
        refine pxW_b2 (l_run A5 O5 (by omega) ok) fun v6 h6 q => ?_
        obtain ⟨rfl, g6, A6, O6⟩ := q
        have ne0 : R.1 ≠ 0 := by omega
        have r2 := t1 ne0 R.2.2.1.2.2.2 (α.2.2.2.2.2.1 + 1 + 1) D1
        obtain ⟨K2, p1, p2, -, -, -, -⟩ := qz_snaps (call := α.2.2.2.2.2.1 + 1 + 1) dd 61 0 0 0 (α.2.2.1.1, α.2.2.1.2.1, α.2.2.1.2.2.1, R.2.2.1.2.2.2) R.2.2.2.1 false D1 (Nat.zero_le _)
        have ou2 := (qz_tape w O5.2.2.1 O5.2.2.2.1 n3 (show R.2.2.2.1.2.1.length ≤ 96 by omega) (α.2.2.2.2.2.1 + 1 + 1) D1).2
        have ou2 : (pxRunL (qzt w) (pxOrds (qzt w) 61 0).2 (α.2.2.2.2.2.1 + 1 + 1) 61 0 0 0 (α.2.2.1.1, α.2.2.1.2.1, α.2.2.1.2.2.1, R.2.2.1.2.2.2) R.2.2.2.1 false D1).2.2.2.1.2.1.length ≤ R.2.2.2.1.2.1.length + 2 := ou2
        have e2 : pzRunR (qzt w) (qzt w, α.2.1, (α.2.2.1.1, α.2.2.1.2.1, α.2.2.1.2.2.1, R.2.2.1.2.2.2), R.2.2.2.1, D1, α.2.2.2.2.2.1 + 1, R.2.1) = pxRunL (qzt w) (pxOrds (qzt w) 61 0).2 (α.2.2.2.2.2.1 + 1 + 1) 61 0 0 0 (α.2.2.1.1, α.2.2.1.2.1, α.2.2.1.2.2.1, R.2.2.1.2.2.2) R.2.2.2.1 false D1 := rfl
        unfold pzRun at A6 O6
        show pxW (jw_iw (.inl (pxJ (pzRunR (qzt w) (qzt w, α.2.1, (α.2.2.1.1, α.2.2.1.2.1, α.2.2.1.2.2.1, R.2.2.1.2.2.2), R.2.2.2.1, D1, α.2.2.2.2.2.1 + 1, R.2.1)).1)) _) _
        rw [e2] at A6 O6 ⊢
        generalize pxRunL (qzt w) (pxOrds (qzt w) 61 0).2 (α.2.2.2.2.2.1 + 1 + 1) 61 0 0 0 (α.2.2.1.1, α.2.2.1.2.1, α.2.2.1.2.2.1, R.2.2.1.2.2.2) R.2.2.2.1 false D1 = R2 at *
        have A6 : pwA h6 (qzt w, α.2.1, R2.2.2.1, R2.2.2.2.1, R2.2.2.2.2, α.2.2.2.2.2.1 + 1 + 1, R2.2.1) := A6
        have O6 : pzOk (n + 1 + 1) (qzt w, α.2.1, R2.2.2.1, R2.2.2.2.1, R2.2.2.2.2, α.2.2.2.2.2.1 + 1 + 1, R2.2.1) := O6
        rw [px_iw, if_pos (show pxJ R2.1 = pxJ R.1 by rw [r2]), A6.rc, px_bs]
        refine pxW_b2 (l_sound A6 O6) fun v7 h7 q => ?_
        obtain ⟨rfl, g7, A7⟩ := q
        rw [if_neg (show ¬ (pxJ 1 = 0) by decide)]
        unfold g_L_undone_b233
        rw [qz_rb1, px_bs]
        refine pxW_some.mpr ⟨rfl, ((((((g1.tr g2 (Nat.le_refl _)).tr g3 (Nat.le_refl _)).tr g4 (Nat.le_refl _)).tr g5 (Nat.le_refl _)).tr g6 (Nat.le_refl _)).tr g7 (by decide)), _, A7, ?_, ?_, ?_⟩
        · rw [show n + 1 + 1 = n + 2 by omega] at O6
          exact O6
        · intro d hd
          have hd : d ∈ R2.2.2.2.2 := hd
          rw [p1] at hd
          show d.1 ≤ α.2.2.2.2.2.1 + 1 + 1
          rcases qz_pm K2 D1 d hd with z | z
          · have := Dc d (m1 d z)
            omega
          · omega
        · show R2.2.2.2.1.2.1.length ≤ o + 4
          omega
      unfold g_L_undone_b117
      rw [if_neg qz_n10]
      have lin : (w = 2 ∨ w = 3) → pxW (g_L_undone_b132 h4 (some 0) (qzAll α.2.2.1) (qzLs α.2.2.1.1) (pxJ R.1)) fun r h' => r = 1 ∧ qzG 40 h h' ∧ ∃ α', qzL (n + 2) (o + 4) h' α' := fun hw => by
        unfold g_L_undone_b132
        rw [l_lines A4, px_b2, if_pos (show lg_cmp (qzLs R.2.2.1.1) (qzLs α.2.2.1.1) = 0 by rw [qz_lsp (perm hw)]; exact qz_cmp _)]
        exact go
      by_cases w2 : w = 2
      · rw [if_pos (show pxJ (w : Int) = (2 : Int32) by rw [w2]; decide)]
        exact lin (Or.inl w2)
      · rw [if_neg (show ¬ (pxJ (w : Int) = (2 : Int32)) from fun z => by
          have := (pxJ_eq (a := (w : Int)) (b := 2) (by omega) (by omega) (by omega) (by omega)).mp z
          omega)]
        by_cases w3 : w = 3
        · rw [if_pos (show pxJ (w : Int) = (3 : Int32) by rw [w3]; decide)]
          exact lin (Or.inr w3)
        · rw [if_neg (show ¬ (pxJ (w : Int) = (3 : Int32)) from fun z => by
            have := (pxJ_eq (a := (w : Int)) (b := 3) (by omega) (by omega) (by omega) (by omega)).mp z
            omega)]
          exact go
  show pxW (if pxJ R.2.1 = 0 then _ else _) _
  by_cases cr : pxJ R.2.1 = 0
  · rw [if_pos cr]
    exact next
  · rw [if_neg cr, if_neg (show ¬ ((2 : Int32) ≤ pxJ R.1) from fun z => by
      have := (pxJ_le (a := 2) (b := R.1) (by omega) (by omega) (by omega) (by omega)).mp z
      have nz : R.2.1 ≠ 0 := fun y => cr (by rw [y]; rfl)
      have := k4 nz
      omega)]
    exact next
end
