/-! what holds after each call -/
theorem pxPush_len {D : List (Int × pxSn)} {a : Int × pxSn} (l : D.length ≤ 40) : (pxPush D a).length ≤ 40 := by
  unfold pxPush
  by_cases c : D.length < 40
  · rw [if_pos c, List.length_append, List.length_singleton]; omega
  · rw [if_neg c, List.length_append, List.length_singleton, List.length_tail]; omega
section
variable {h : jw_H} {α : pzA} {n : Int}
theorem pzOk.up (O : pzOk n α) (n6 : n + 1 ≤ 600) : pzOk (n + 1) α := by
  obtain ⟨o1, o2, o3, o4, o5, o6, o7, o8, o9, -⟩ := O
  exact ⟨o1, o2, o3, o4, o5, o6, by omega, by omega, by omega, trivial⟩
theorem ok_rd {R : pzR} (O : pzOk n α) (n6 : n + 1 ≤ 600) (e : R.2.2 = α) : pzOk (n + 1) R.2.2 := by
  rw [e]
  exact O.up n6
theorem pxTp_nil : pxTp [] := ⟨Nat.zero_le _, fun c hc => by cases hc⟩
theorem pxTp_app {s : List Int} {c : Int} (T : pxTp s) (l : s.length ≠ 60) (c0 : 32 ≤ c) (c1 : c ≤ 126) : pxTp (s ++ [c]) := by
  have l60 := T.1
  refine ⟨by rw [List.length_append, List.length_singleton]; omega, fun x hx => ?_⟩
  rcases List.mem_append.mp hx with z | z
  · exact T.2 x z
  · rw [List.mem_singleton.mp z]; exact ⟨c0, c1⟩
theorem ok_type {c : Int} (O : pzOk n α) (n6 : n + 1 ≤ 600) : pzOk (n + 1) (pz_type c α).2.2 := by
  unfold pz_type
  by_cases a : c < 32 ∨ 126 < c
  · rw [if_pos a]; exact O.up n6
  rw [if_neg a]
  by_cases b : α.1.length = 60
  · rw [if_pos b]; exact O.up n6
  rw [if_neg b]
  have U := O.up n6
  exact ⟨pxTp_app O.1 b (by omega) (by omega), U.2⟩
theorem ok_wipe (O : pzOk n α) (n6 : n + 1 ≤ 600) : pzOk (n + 1) (pz_wipe α).2.2 := ⟨pxTp_nil, (O.up n6).2⟩
theorem ok_keep {k : Int} (O : pzOk n α) (n6 : n + 1 ≤ 600) : pzOk (n + 1) (pz_keep k α).2.2 := by
  unfold pz_keep
  by_cases a : ¬ (0 ≤ k ∧ k < 4)
  · rw [if_pos a]; exact O.up n6
  rw [if_neg a]
  by_cases b : (pxOrds α.1 61 0).1 = -1
  · rw [if_pos b]
    obtain ⟨o1, o2, o3⟩ := O.up n6
    refine ⟨o1, fun j s j0 j4 e => ?_, o3⟩
    have e : (if j = k then some α.1 else α.2.1 j) = some s := e
    by_cases g : j = k
    · rw [if_pos g] at e
      rw [← Option.some.inj e]
      exact ⟨o1, b⟩
    · rw [if_neg g] at e
      exact o2 j s j0 j4 e
  · rw [if_neg b]; exact O.up n6
theorem pzUn_nil (e : α.2.2.2.2.1 = []) : pzUn α = α := by
  unfold pzUn
  rw [e]
  rfl
theorem pzUn_app {D' : List (Int × pxSn)} {d : Int × pxSn} (e : α.2.2.2.2.1 = D' ++ [d]) : pzUn α = (α.1, α.2.1, (d.2.1, d.2.2.1, d.2.2.2, α.2.2.1.2.2.2), α.2.2.2.1, D', α.2.2.2.2.2) := by
  unfold pzUn
  rw [e, List.getLast?_concat, List.dropLast_concat]
  rfl
theorem pzOk.un (O : pzOk n α) : pzOk n (pzUn α) := by
  by_cases c : α.2.2.2.2.1 = []
  · rw [pzUn_nil c]; exact O
  · obtain ⟨D', d, e⟩ := pyD_end c
    obtain ⟨o1, o2, o3, o4, o5, o6, o7, o8, o9, -⟩ := O
    rw [pzUn_app e]
    rw [e] at o5 o6
    rw [List.length_append, List.length_singleton] at o6
    exact ⟨o1, o2, (o5 d (List.mem_append_right _ (List.mem_singleton_self d))).1, o4, fun x hx => o5 x (List.mem_append_left _ hx), by show D'.length ≤ 40; omega, o7, o8, o9, trivial⟩
theorem ok_undo (O : pzOk n α) (n6 : n + 1 ≤ 600) : pzOk (n + 1) (pz_undo α).2.2 := by
  unfold pz_undo
  by_cases c : α.2.2.2.2.1 = []
  · rw [if_pos c]; exact O.up n6
  · rw [if_neg c]; exact O.un.up n6
theorem pzUr_ok {call : Int} : ∀ (m : Nat) (u : Int) (α : pzA), pzOk n α → pzOk n (pzUr call m u α).2
  | 0, _, _, O => O
  | m + 1, u, α, O => by
    have eU : pzUr call (m + 1) u α = (α.2.2.2.2.1.getLast?).elim (u, α) (fun x => if x.1 = call then pzUr call m (u + 1) (pzUn α) else (u, α)) := rfl
    rw [eU]
    cases α.2.2.2.2.1.getLast? with
    | none => exact O
    | some x =>
      show pzOk n (if x.1 = call then pzUr call m (u + 1) (pzUn α) else (u, α)).2
      by_cases c : x.1 = call
      · rw [if_pos c]; exact pzUr_ok m _ _ O.un
      · rw [if_neg c]; exact O
theorem ok_undoRun (O : pzOk n α) (n6 : n + 1 ≤ 600) : pzOk (n + 1) (pz_undoRun α).2.2 := by
  unfold pz_undoRun
  cases α.2.2.2.2.1.getLast? with
  | none => exact O.up n6
  | some x => exact (pzUr_ok α.2.2.2.2.1.length 0 α O).up n6
/-- a text as it grows by the sample -/
def pzJ (ls : pxLs) (mk : Int → Int) (nx : Int) : Prop := ls.length ≤ 40 ∧ pxOk (pxRs ls) ∧ 0 ≤ nx ∧ pxII (pxIds ls) mk nx
theorem pzSs_j {mk : Int → Int} : ∀ (m : Nat) (z : Int) (ls : pxLs) (nx : Int), 0 ≤ z → z ≤ 65535 → ls.length + m ≤ 40 → pzJ ls mk nx → pzJ (pzSs m z ls nx).1 mk (pzSs m z ls nx).2 ∧ (pzSs m z ls nx).2 = nx + m
  | 0, z, ls, nx, _, _, _, J => ⟨J, by show nx = nx + ((0 : Nat) : Int); omega⟩
  | m + 1, z, ls, nx, z0, z1, l, J => by
    have e : pzSs (m + 1) z ls nx = pzSs m (pzSr (pzLot z / 16 % 9).toNat (pzLot z) []).1 (ls ++ [(nx, (pzSr (pzLot z / 16 % 9).toNat (pzLot z) []).2)]) (nx + 1) := rfl
    have lb := pzLot_b (z := z)
    have sb := pzSr_b (pzLot z / 16 % 9).toNat (pzLot z) [] lb.1 lb.2 (fun c hc => by cases hc)
    have sl := sb.2.2
    rw [List.length_nil] at sl
    obtain ⟨j1, j2, j3, j4⟩ := J
    have J' : pzJ (ls ++ [(nx, (pzSr (pzLot z / 16 % 9).toNat (pzLot z) []).2)]) mk (nx + 1) := by
      refine ⟨by rw [List.length_append, List.length_singleton]; omega, ?_, by omega, ?_⟩
      · show pxOk ((ls ++ [(nx, (pzSr (pzLot z / 16 % 9).toNat (pzLot z) []).2)]).map Prod.snd)
        rw [List.map_append]
        exact pxOk_app j2 (pxOk_one ⟨by show (pzSr (pzLot z / 16 % 9).toNat (pzLot z) []).2.length ≤ 30; omega, sb.2.1⟩)
      · have w := j4.new j3 1
        have ei : pxIds (ls ++ [(nx, (pzSr (pzLot z / 16 % 9).toNat (pzLot z) []).2)]) = pxIds ls ++ pxUp nx 1 := by
          unfold pxIds
          rw [List.map_append]
          rfl
        rw [ei]
        exact w
    have ih := pzSs_j m _ _ (nx + 1) sb.1.1 sb.1.2 (by rw [List.length_append, List.length_singleton]; omega) J'
    rw [e]
    exact ⟨ih.1, by rw [ih.2]; omega⟩
theorem ok_sample {z k : Int} (O : pzOk n α) (n6 : n + 1 ≤ 600) : pzOk (n + 1) (pz_sample z k α).2.2 := by
  unfold pz_sample
  by_cases a : ¬ (0 ≤ z ∧ z ≤ 65535 ∧ 1 ≤ k ∧ k ≤ 20)
  · rw [if_pos a]; exact O.up n6
  rw [if_neg a]
  by_cases b : 40 < (α.2.2.1.1.length : Int) + k
  · rw [if_pos b]; exact O.up n6
  rw [if_neg b]
  obtain ⟨o1, o2, o3, o4, o5, o6, o7, o8, o9, -⟩ := O
  obtain ⟨i1, i2, i3, i4, i5, i6, i7⟩ := id o3
  obtain ⟨⟨j1, j2, j3, j4⟩, nx⟩ := pzSs_j (mk := α.2.2.1.2.1) k.toNat z α.2.2.1.1 α.2.2.1.2.2.2 (by omega) (by omega) (by omega) ⟨i1, i2, i6, i7⟩
  have ln := pzSs_len k.toNat z α.2.2.1.1 α.2.2.1.2.2.2
  have nx' : α.2.2.1.2.2.2 ≤ (pzSs k.toNat z α.2.2.1.1 α.2.2.1.2.2.2).2 := by omega
  refine ⟨o1, o2, ⟨j1, j2, ?_, ?_, ?_, j3, j4⟩, o4, o5.push o3 nx' (by omega) (by omega), pxPush_len o6, ?_, by omega, ?_, trivial⟩
  · show 0 ≤ (α.2.2.1.1.length : Int) + k; omega
  · show (α.2.2.1.1.length : Int) + k ≤ ((pzSs k.toNat z α.2.2.1.1 α.2.2.1.2.2.2).1.length : Int); omega
  · show _ → 1 ≤ (α.2.2.1.1.length : Int) + k; omega
  · show (pzSs k.toNat z α.2.2.1.1 α.2.2.1.2.2.2).2 ≤ 2400 * (n + 1); omega
  · show 0 ≤ α.2.2.2.2.2.1 + 1 ∧ α.2.2.2.2.2.1 + 1 ≤ n + 1; omega
theorem s_runK {nB call : Int} {b : Nat} {s : List Int} {L : List (Int × List Int)} {T : pxTx} {S : pxSto} {rep : Bool} {D : List (Int × pxSn)} (PR : pxPr h b s L) (A : pxAux h rep) (I : pxIX h T) (Y : pxIY h S) (IV : pxInv T) (IS : pxInvS S) (HI : pxHI h D) (B : pxSSX h 538) (nb : T.2.2.2 + 2400 ≤ nB) (nb2 : nB ≤ 2000000) (c0 : -2147483648 ≤ call) (c1 : call ≤ 2147483647) (Dk : pxDok D T.2.2.2) :
    pxInv (pxRunL s L call 61 0 0 0 T S false D).2.2.1 ∧ pxInvS (pxRunL s L call 61 0 0 0 T S false D).2.2.2.1 ∧ (pxRunL s L call 61 0 0 0 T S false D).2.2.1.2.2.2 ≤ nB ∧ pxDok (pxRunL s L call 61 0 0 0 T S false D).2.2.2.2 (pxRunL s L call 61 0 0 0 T S false D).2.2.1.2.2.2 ∧ (pxRunL s L call 61 0 0 0 T S false D).2.2.2.2.length ≤ 40 := by
  have F1 : pxF (fun k f => k = 559 ∧ (f = 15 ∨ f = 16)) h (jw_setI (jw_setI h 559 15 (pxJ 0)) 559 16 (pxJ 0)) := (pxF.setI (by omega)).trans (pxF.setI (by omega))
  have A1 := A.fr F1 (fun k f z => by omega)
  have F2 : pxF (fun k f => k = 536 ∧ f = 5) (jw_setI (jw_setI h 559 15 (pxJ 0)) 559 16 (pxJ 0)) (jw_setI (jw_setI (jw_setI h 559 15 (pxJ 0)) 559 16 (pxJ 0)) 536 5 (pxJ 0)) := pxF.setI ⟨rfl, rfl⟩
  have F12 : pxF (fun k f => (k = 559 ∧ (f = 15 ∨ f = 16)) ∨ (k = 536 ∧ f = 5)) h (jw_setI (jw_setI (jw_setI h 559 15 (pxJ 0)) 559 16 (pxJ 0)) 536 5 (pxJ 0)) := (F1.mono (fun k f z => Or.inl z)).trans (F2.mono (fun k f z => Or.inr z))
  have m15 : pxM (jw_setI (jw_setI (jw_setI h 559 15 (pxJ 0)) 559 16 (pxJ 0)) 536 5 (pxJ 0)) 559 15 = 0 := by
    rw [pxM_ne (by omega), pxM_ne (by omega)]; exact pxM_eq (by omega) (by omega)
  have m16 : pxM (jw_setI (jw_setI (jw_setI h 559 15 (pxJ 0)) 559 16 (pxJ 0)) 536 5 (pxJ 0)) 559 16 = 0 := by
    rw [pxM_ne (by omega)]; exact pxM_eq (by omega) (by omega)
  have RS : pxRS nB (jw_setI (jw_setI (jw_setI h 559 15 (pxJ 0)) 559 16 (pxJ 0)) 536 5 (pxJ 0)) b s L T S false 0 D := ⟨PR.fb F12 (fun k f z => by omega), ⟨A1.rep0, pxIT.fr I F12 (fun k f _ _ => by omega), pxIS.fr Y F12 (fun k f _ _ => by omega), IV, IS, m15, by omega, by omega, by omega⟩, HI.fr F12 (fun k f z => by omega), B.fr F12 (fun k f _ _ => by omega), m16⟩
  obtain ⟨h', e, E, -⟩ := s_runL (call := call) c0 c1 61 jw_FU _ 0 0 0 T S false D (by omega) (by unfold jw_FU; omega) RS (by omega) (by omega)
  have Dk' := s_runD (call := call) c0 c1 61 _ 0 0 0 T S false D RS (by omega) (by omega) Dk
  obtain ⟨-, -, -, -, ⟨B', S', -, -, -, -, d40, -⟩, -, -, IV', IS', nx⟩ := E
  exact ⟨IV', IS', nx, Dk', d40⟩
theorem ok_runs {b : Nat} {s : List Int} (A : pwA h α) (O : pzOk n α) (n6 : n + 1 ≤ 600) (PR : pxPr h b s (pxOrds s 61 0).2) : pzOk (n + 1) (pzRun s α).2.2 := by
  obtain ⟨C, Tp, Sc, I, Y, D, e13, e14, PS, ⟨rep, aux⟩, ssx, bx⟩ := A
  obtain ⟨o1, o2, o3, o4, o5, o6, o7, o8, o9, -⟩ := O
  obtain ⟨r1, r2, r3, r4, r5⟩ := s_runK (nB := 2400 * n + 2400) (call := α.2.2.2.2.2.1 + 1) PR aux I Y o3 o4 D ssx (by omega) (by omega) (by omega) (by omega) o5
  refine ⟨o1, o2, r1, r2, r4, r5, ?_, by omega, ?_, trivial⟩
  · show (pzRunR s α).2.2.1.2.2.2 ≤ 2400 * (n + 1)
    have r3' : (pzRunR s α).2.2.1.2.2.2 ≤ 2400 * n + 2400 := r3
    omega
  · show 0 ≤ α.2.2.2.2.2.1 + 1 ∧ α.2.2.2.2.2.1 + 1 ≤ n + 1; omega
theorem ok_run (A : pwA h α) (O : pzOk n α) (n6 : n + 1 ≤ 600) : pzOk (n + 1) (pz_run α).2.2 := by
  obtain ⟨h1, e, F, G, q⟩ := s_X6_readOrders A.2.2.2.2.2.2.2.2.1 (A.ta O.1)
  unfold pz_run
  by_cases c : (pxOrds α.1 61 0).1 = -1
  · rw [if_pos c]
    exact ok_runs (A.qp F G.1) O n6 (c_prog (by omega) G c q)
  · rw [if_neg c]; exact O.up n6
theorem ok_play {k : Int} (A : pwA h α) (O : pzOk n α) (n6 : n + 1 ≤ 600) : pzOk (n + 1) (pz_play k α).2.2 := by
  unfold pz_play
  by_cases a : ¬ (0 ≤ k ∧ k < 4)
  · rw [if_pos a]; exact O.up n6
  rw [if_neg a]
  have c : 0 ≤ k ∧ k < 4 := by omega
  cases e : α.2.1 k with
  | none => exact O.up n6
  | some s =>
    obtain ⟨T, ok⟩ := pyOk4 O c.1 c.2 e
    obtain ⟨h1, er, F, G, q⟩ := s_X6_readOrders A.2.2.2.2.2.2.2.2.1 (A.tas c.1 c.2 e T)
    exact ok_runs (A.qp F G.1) O n6 (c_prog (by omega) G ok q)
end
