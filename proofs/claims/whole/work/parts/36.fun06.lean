/-! X12_unmark -/
noncomputable def g_X12_unmark_b32 (k2 : jw_H → Nat → Int32 → Int32 → Option (Unit × jw_H)) (h : jw_H) (x0 : Nat) (x1 : Int32) (x2 : Int32) (t0 : Option Nat) (t1 : Int32) (t2 : Int32) : Option (Unit × jw_H) :=
 (jw_si h 20 t0 t1 t2).bind fun h1 =>
 k2 h1 x0 x1 (x2 + (1 : Int32))

noncomputable def g_X12_unmark_b2 (k2 : jw_H → Nat → Int32 → Int32 → Option (Unit × jw_H)) (h : jw_H) (x0 : Nat) (x1 : Int32) (x2 : Int32) : Option (Unit × jw_H) :=
 if (5 : Int32) ≤ x2 then (some ((), h))
 else ((jw_gR h 12 (some x0) 10).bind fun v2 =>
 (jw_gR h 12 (some x0) 10).bind fun v3 =>
 (jw_ai h 20 v3 x2).bind fun v4 =>
 if v4 = x1 then (g_X12_unmark_b32 k2 h x0 x1 x2 v2 x2 (-1 : Int32))
 else ((jw_gR h 12 (some x0) 10).bind fun v6 =>
 (jw_ai h 20 v6 x2).bind fun v7 =>
 g_X12_unmark_b32 k2 h x0 x1 x2 v2 x2 v7))

noncomputable def f_X12_unmark_b2 (n : Nat) : jw_H → Nat → Int32 → Int32 → Option (Unit × jw_H) :=
 Nat.rec (fun _ _ _ _ => none) (fun _ k2 => g_X12_unmark_b2 k2) n

noncomputable def f_X12_unmark (h : jw_H) (x0 : Nat) (x1 : Int32) : Option (Unit × jw_H) :=
 f_X12_unmark_b2  jw_FU h x0 x1 (0 : Int32)

set_option maxRecDepth 100000 in
set_option maxHeartbeats 4000000 in
theorem l_X12_unmark_b32 {hi : jw_H} {k2 : jw_H → Nat → Int32 → Int32 → Option (Unit × jw_H)} (hk2 : ∀ (h : jw_H) (x0 : Nat) (x1 : Int32) (x2 : Int32) (r : Unit) (h' : jw_H), k2 h x0 x1 x2 = some (r, h') → jw_E 0 uX12_unmark hi 2 [some (.ref x0), some (.int x1), some (.int x2)] [] h (.inl none) h') {h : jw_H} {x0 : Nat} {x1 : Int32} {x2 : Int32} {t0 : Option Nat} {t1 : Int32} {t2 : Int32} {r : Unit} {h' : jw_H} (hq : g_X12_unmark_b32 k2 h x0 x1 x2 t0 t1 t2 = some (r, h')) : jw_E 0 uX12_unmark hi 32 [some (.ref x0), some (.int x1), some (.int x2)] [.int t2, .int t1, va_rf t0] h (.inl none) h' := by
  unfold g_X12_unmark_b32 at hq
  obtain ⟨h1, eh1, hq⟩ := Option.bind_eq_some_iff.mp hq
  refine jw_iast (o := t0) dX12_unmark_32 eh1 ?_
  refine jw_iinc (L' := [some (.ref x0), some (.int x1), some (.int (x2 + (1 : Int32)))]) dX12_unmark_33 rfl (v := (1 : Int32)) (by decide) (Nat.le_of_ble_eq_true rfl) rfl ?_
  refine jw_goto (tgt := 2) dX12_unmark_36 (by decide) ?_
  exact hk2 _ _ _ _ _ _ hq

set_option maxRecDepth 100000 in
set_option maxHeartbeats 4000000 in
theorem l_X12_unmark_b2g {hi : jw_H} {k2 : jw_H → Nat → Int32 → Int32 → Option (Unit × jw_H)} (hk2 : ∀ (h : jw_H) (x0 : Nat) (x1 : Int32) (x2 : Int32) (r : Unit) (h' : jw_H), k2 h x0 x1 x2 = some (r, h') → jw_E 0 uX12_unmark hi 2 [some (.ref x0), some (.int x1), some (.int x2)] [] h (.inl none) h') {h : jw_H} {x0 : Nat} {x1 : Int32} {x2 : Int32} {r : Unit} {h' : jw_H} (hq : g_X12_unmark_b2 k2 h x0 x1 x2 = some (r, h')) : jw_E 0 uX12_unmark hi 2 [some (.ref x0), some (.int x1), some (.int x2)] [] h (.inl none) h' := by
  unfold g_X12_unmark_b2 at hq
  refine jw_iload_n dX12_unmark_2 rfl ?_
  refine jw_iconst dX12_unmark_3 (v := (5 : Int32)) (by decide) ?_
  rcases jw_if hq with ⟨c1, hq⟩ | ⟨c1, hq⟩
  · refine jw_icmp_ge_t (tgt := 39) dX12_unmark_4 (by decide) c1 ?_
    cases hq
    exact jw_vret dX12_unmark_39 rfl
  · refine jw_icmp_ge_f (tgt := 39) dX12_unmark_4 (by decide) c1 ?_
    refine jw_aload_n dX12_unmark_7 (o := (some x0)) rfl ?_
    obtain ⟨v2, ev2, hq⟩ := Option.bind_eq_some_iff.mp hq
    refine jw_getR (o := (some x0)) dX12_unmark_8 ev2 fl_X12_35 rfl ?_
    refine jw_iload_n dX12_unmark_11 rfl ?_
    refine jw_aload_n dX12_unmark_12 (o := (some x0)) rfl ?_
    obtain ⟨v3, ev3, hq⟩ := Option.bind_eq_some_iff.mp hq
    refine jw_getR (o := (some x0)) dX12_unmark_13 ev3 fl_X12_35 rfl ?_
    refine jw_iload_n dX12_unmark_16 rfl ?_
    obtain ⟨v4, ev4, hq⟩ := Option.bind_eq_some_iff.mp hq
    refine jw_iald (o := v3) dX12_unmark_17 ev4 ?_
    refine jw_iload_n dX12_unmark_18 rfl ?_
    rcases jw_if hq with ⟨c5, hq⟩ | ⟨c5, hq⟩
    · refine jw_icmp_ne_f (tgt := 26) dX12_unmark_19 (by decide) c5 ?_
      refine jw_iconst dX12_unmark_22 (v := (-1 : Int32)) (by decide) ?_
      refine jw_goto (tgt := 32) dX12_unmark_23 (by decide) ?_
      exact l_X12_unmark_b32 hk2 hq
    · refine jw_icmp_ne_t (tgt := 26) dX12_unmark_19 (by decide) c5 ?_
      refine jw_aload_n dX12_unmark_26 (o := (some x0)) rfl ?_
      obtain ⟨v6, ev6, hq⟩ := Option.bind_eq_some_iff.mp hq
      refine jw_getR (o := (some x0)) dX12_unmark_27 ev6 fl_X12_35 rfl ?_
      refine jw_iload_n dX12_unmark_30 rfl ?_
      obtain ⟨v7, ev7, hq⟩ := Option.bind_eq_some_iff.mp hq
      refine jw_iald (o := v6) dX12_unmark_31 ev7 ?_
      exact l_X12_unmark_b32 hk2 hq

theorem l_X12_unmark_b2 {hi : jw_H} : ∀ (n : Nat) (h : jw_H) (x0 : Nat) (x1 : Int32) (x2 : Int32) (r : Unit) (h' : jw_H), f_X12_unmark_b2  n h x0 x1 x2 = some (r, h') → jw_E 0 uX12_unmark hi 2 [some (.ref x0), some (.int x1), some (.int x2)] [] h (.inl none) h' := by
  intro n
  induction n with
  | zero => intro h x0 x1 x2 r h' hq; exact nomatch hq
  | succ n ih => intro h x0 x1 x2 r h' hq; exact l_X12_unmark_b2g ih hq

set_option maxRecDepth 100000 in
set_option maxHeartbeats 4000000 in
theorem l_X12_unmark {hi : jw_H} {h : jw_H} {x0 : Nat} {x1 : Int32} {r : Unit} {h' : jw_H} (hq : f_X12_unmark  h x0 x1 = some (r, h')) : jw_E 0 uX12_unmark hi 0 [some (.ref x0), some (.int x1), none] [] h (.inl none) h' := by
  unfold f_X12_unmark at hq
  refine jw_iconst dX12_unmark_0 (v := (0 : Int32)) (by decide) ?_
  refine jw_istore_n (L' := [some (.ref x0), some (.int x1), some (.int (0 : Int32))]) dX12_unmark_1 (Nat.le_of_ble_eq_true rfl) rfl ?_
  exact l_X12_unmark_b2  jw_FU _ _ _ _ _ _ hq

theorem c_X12_unmark {h : jw_H} {x0 : Nat} {x1 : Int32} {r : Unit} {h' : jw_H} (hq : f_X12_unmark h x0 x1 = some (r, h')) : jw_Con (Cond.code yX12_unmark cX12_unmark 3 none) yX12_unmark 0 [.ref x0, .int x1] h (.inl none) h' :=
  jw_con false (plainFor_of_name (by decide +kernel)) (fun z => nomatch z) (by simp [jw_ent, jw_sl0_nil, jw_sl0_int, jw_sl0_long, jw_sl0_ref, jw_sl0_rf, jw_sl0_scr, List.replicate]) (by simp [jw_sl0_nil, jw_sl0_int, jw_sl0_long, jw_sl0_ref, jw_sl0_rf, jw_sl0_scr]) (l_X12_unmark hq)


/-! X12_goes -/
noncomputable def f_X12_goes (h : jw_H) (x0 : Nat) (x1 : Int32) : Option (Unit × jw_H) :=
 (jw_gR h 12 (some x0) 7).bind fun v1 =>
 (jw_ai h 20 v1 (x1 - (1 : Int32))).bind fun v2 =>
 (jw_rc h 12 (some x0)).bind fun a3 =>
 jw_b2 (f_X12_unmark h a3 v2) fun w5 h4 =>
 (jw_rc h4 12 (some x0)).bind fun a6 =>
 jw_b2 (f_X12_close h4 a6 x1) fun w8 h7 =>
 some ((), h7)

set_option maxRecDepth 100000 in
set_option maxHeartbeats 4000000 in
theorem l_X12_goes {hi : jw_H} {h : jw_H} {x0 : Nat} {x1 : Int32} {r : Unit} {h' : jw_H} (hq : f_X12_goes  h x0 x1 = some (r, h')) : jw_E 2 uX12_goes hi 0 [some (.ref x0), some (.int x1)] [] h (.inl none) h' := by
  unfold f_X12_goes at hq
  refine jw_aload_n dX12_goes_0 (o := (some x0)) rfl ?_
  refine jw_aload_n dX12_goes_1 (o := (some x0)) rfl ?_
  obtain ⟨v1, ev1, hq⟩ := Option.bind_eq_some_iff.mp hq
  refine jw_getR (o := (some x0)) dX12_goes_2 ev1 fl_X12_26 rfl ?_
  refine jw_iload_n dX12_goes_5 rfl ?_
  refine jw_iconst dX12_goes_6 (v := (1 : Int32)) (by decide) ?_
  refine jw_isub dX12_goes_7 ?_
  obtain ⟨v2, ev2, hq⟩ := Option.bind_eq_some_iff.mp hq
  refine jw_iald (o := v1) dX12_goes_8 ev2 ?_
  obtain ⟨a3, ea3, hq⟩ := Option.bind_eq_some_iff.mp hq
  obtain ⟨eoa3, eta3⟩ := jw_rc_spec ea3
  obtain ⟨w5, h4, ew5, hq⟩ := jw_b2_spec hq
  refine jw_callV (As := [.int v2]) (S := []) (a := a3) (v := none) dX12_goes_9 mt_X12_unmark in_X12_unmark se_X12_unmark lk_X12_137 (c_X12_unmark ew5) eta3 (by decide) rfl rfl (by decide) (Nat.le_of_ble_eq_true rfl) (by cases eoa3; rfl) ?_
  refine jw_aload_n dX12_goes_12 (o := (some x0)) rfl ?_
  refine jw_iload_n dX12_goes_13 rfl ?_
  obtain ⟨a6, ea6, hq⟩ := Option.bind_eq_some_iff.mp hq
  obtain ⟨eoa6, eta6⟩ := jw_rc_spec ea6
  obtain ⟨w8, h7, ew8, hq⟩ := jw_b2_spec hq
  refine jw_callV (As := [.int x1]) (S := []) (a := a6) (v := none) dX12_goes_14 mt_X12_close in_X12_close se_X12_close lk_X12_140 (c_X12_close ew8) eta6 (by decide) rfl rfl (by decide) (Nat.le_of_ble_eq_true rfl) (by cases eoa6; rfl) ?_
  cases hq
  exact jw_vret dX12_goes_17 rfl

theorem c_X12_goes {h : jw_H} {x0 : Nat} {x1 : Int32} {r : Unit} {h' : jw_H} (hq : f_X12_goes h x0 x1 = some (r, h')) : jw_Con (Cond.code yX12_goes cX12_goes 2 none) yX12_goes 2 [.ref x0, .int x1] h (.inl none) h' :=
  jw_con false (plainFor_of_name (by decide +kernel)) (fun z => nomatch z) (by simp [jw_ent, jw_sl0_nil, jw_sl0_int, jw_sl0_long, jw_sl0_ref, jw_sl0_rf, jw_sl0_scr, List.replicate]) (by simp [jw_sl0_nil, jw_sl0_int, jw_sl0_long, jw_sl0_ref, jw_sl0_rf, jw_sl0_scr]) (l_X12_goes hq)


/-! X12_lineWith -/
noncomputable def g_X12_lineWith_b2 (k2 : jw_H → Nat → Int32 → Int32 → Option (Int32 × jw_H)) (h : jw_H) (x0 : Nat) (x1 : Int32) (x2 : Int32) : Option (Int32 × jw_H) :=
 (jw_gI h 12 (some x0) 12).bind fun v1 =>
 if v1 ≤ x2 then (some ((0 : Int32), h))
 else ((jw_gR h 12 (some x0) 7).bind fun v3 =>
 (jw_ai h 20 v3 x2).bind fun v4 =>
 if v4 = x1 then (some ((x2 + (1 : Int32)), h))
 else (k2 h x0 x1 (x2 + (1 : Int32))))

noncomputable def f_X12_lineWith_b2 (n : Nat) : jw_H → Nat → Int32 → Int32 → Option (Int32 × jw_H) :=
 Nat.rec (fun _ _ _ _ => none) (fun _ k2 => g_X12_lineWith_b2 k2) n

noncomputable def f_X12_lineWith (h : jw_H) (x0 : Nat) (x1 : Int32) : Option (Int32 × jw_H) :=
 f_X12_lineWith_b2  jw_FU h x0 x1 (0 : Int32)

set_option maxRecDepth 100000 in
set_option maxHeartbeats 4000000 in
theorem l_X12_lineWith_b2g {hi : jw_H} {k2 : jw_H → Nat → Int32 → Int32 → Option (Int32 × jw_H)} (hk2 : ∀ (h : jw_H) (x0 : Nat) (x1 : Int32) (x2 : Int32) (r : Int32) (h' : jw_H), k2 h x0 x1 x2 = some (r, h') → jw_E 0 uX12_lineWith hi 2 [some (.ref x0), some (.int x1), some (.int x2)] [] h (.inl (some (.int r))) h') {h : jw_H} {x0 : Nat} {x1 : Int32} {x2 : Int32} {r : Int32} {h' : jw_H} (hq : g_X12_lineWith_b2 k2 h x0 x1 x2 = some (r, h')) : jw_E 0 uX12_lineWith hi 2 [some (.ref x0), some (.int x1), some (.int x2)] [] h (.inl (some (.int r))) h' := by
  unfold g_X12_lineWith_b2 at hq
  refine jw_iload_n dX12_lineWith_2 rfl ?_
  refine jw_aload_n dX12_lineWith_3 (o := (some x0)) rfl ?_
  obtain ⟨v1, ev1, hq⟩ := Option.bind_eq_some_iff.mp hq
  refine jw_getI (o := (some x0)) dX12_lineWith_4 ev1 fl_X12_124 rfl ?_
  rcases jw_if hq with ⟨c2, hq⟩ | ⟨c2, hq⟩
  · refine jw_icmp_ge_t (tgt := 30) dX12_lineWith_7 (by decide) c2 ?_
    refine jw_iconst dX12_lineWith_30 (v := (0 : Int32)) (by decide) ?_
    cases hq
    exact jw_iret (ty := .int) dX12_lineWith_31 rfl rfl
  · refine jw_icmp_ge_f (tgt := 30) dX12_lineWith_7 (by decide) c2 ?_
    refine jw_aload_n dX12_lineWith_10 (o := (some x0)) rfl ?_
    obtain ⟨v3, ev3, hq⟩ := Option.bind_eq_some_iff.mp hq
    refine jw_getR (o := (some x0)) dX12_lineWith_11 ev3 fl_X12_26 rfl ?_
    refine jw_iload_n dX12_lineWith_14 rfl ?_
    obtain ⟨v4, ev4, hq⟩ := Option.bind_eq_some_iff.mp hq
    refine jw_iald (o := v3) dX12_lineWith_15 ev4 ?_
    refine jw_iload_n dX12_lineWith_16 rfl ?_
    rcases jw_if hq with ⟨c5, hq⟩ | ⟨c5, hq⟩
    · refine jw_icmp_ne_f (tgt := 24) dX12_lineWith_17 (by decide) c5 ?_
      refine jw_iload_n dX12_lineWith_20 rfl ?_
      refine jw_iconst dX12_lineWith_21 (v := (1 : Int32)) (by decide) ?_
      refine jw_iadd dX12_lineWith_22 ?_
      cases hq
      exact jw_iret (ty := .int) dX12_lineWith_23 rfl rfl
    · refine jw_icmp_ne_t (tgt := 24) dX12_lineWith_17 (by decide) c5 ?_
      refine jw_iinc (L' := [some (.ref x0), some (.int x1), some (.int (x2 + (1 : Int32)))]) dX12_lineWith_24 rfl (v := (1 : Int32)) (by decide) (Nat.le_of_ble_eq_true rfl) rfl ?_
      refine jw_goto (tgt := 2) dX12_lineWith_27 (by decide) ?_
      exact hk2 _ _ _ _ _ _ hq

theorem l_X12_lineWith_b2 {hi : jw_H} : ∀ (n : Nat) (h : jw_H) (x0 : Nat) (x1 : Int32) (x2 : Int32) (r : Int32) (h' : jw_H), f_X12_lineWith_b2  n h x0 x1 x2 = some (r, h') → jw_E 0 uX12_lineWith hi 2 [some (.ref x0), some (.int x1), some (.int x2)] [] h (.inl (some (.int r))) h' := by
  intro n
  induction n with
  | zero => intro h x0 x1 x2 r h' hq; exact nomatch hq
  | succ n ih => intro h x0 x1 x2 r h' hq; exact l_X12_lineWith_b2g ih hq

set_option maxRecDepth 100000 in
set_option maxHeartbeats 4000000 in
theorem l_X12_lineWith {hi : jw_H} {h : jw_H} {x0 : Nat} {x1 : Int32} {r : Int32} {h' : jw_H} (hq : f_X12_lineWith  h x0 x1 = some (r, h')) : jw_E 0 uX12_lineWith hi 0 [some (.ref x0), some (.int x1), none] [] h (.inl (some (.int r))) h' := by
  unfold f_X12_lineWith at hq
  refine jw_iconst dX12_lineWith_0 (v := (0 : Int32)) (by decide) ?_
  refine jw_istore_n (L' := [some (.ref x0), some (.int x1), some (.int (0 : Int32))]) dX12_lineWith_1 (Nat.le_of_ble_eq_true rfl) rfl ?_
  exact l_X12_lineWith_b2  jw_FU _ _ _ _ _ _ hq

theorem c_X12_lineWith {h : jw_H} {x0 : Nat} {x1 : Int32} {r : Int32} {h' : jw_H} (hq : f_X12_lineWith h x0 x1 = some (r, h')) : jw_Con (Cond.code yX12_lineWith cX12_lineWith 3 (some .int)) yX12_lineWith 0 [.ref x0, .int x1] h (.inl (some (.int r))) h' :=
  jw_con false (plainFor_of_name (by decide +kernel)) (fun z => nomatch z) (by simp [jw_ent, jw_sl0_nil, jw_sl0_int, jw_sl0_long, jw_sl0_ref, jw_sl0_rf, jw_sl0_scr, List.replicate]) (by simp [jw_sl0_nil, jw_sl0_int, jw_sl0_long, jw_sl0_ref, jw_sl0_rf, jw_sl0_scr]) (l_X12_lineWith hq)


/-! X12_loadTape -/
noncomputable def g_X12_loadTape_b10 (k10 : jw_H → Nat → Int32 → Option (Unit × jw_H)) (h : jw_H) (x0 : Nat) (x1 : Int32) : Option (Unit × jw_H) :=
 (jw_gI h 12 (some x0) 2).bind fun v1 =>
 if v1 ≤ x1 then (some ((), h))
 else ((jw_gR h 12 (some x0) 21).bind fun v3 =>
 (jw_gR h 12 (some x0) 1).bind fun v4 =>
 (jw_ai h 20 v4 x1).bind fun v5 =>
 (jw_si h 20 v3 x1 v5).bind fun h6 =>
 k10 h6 x0 (x1 + (1 : Int32)))

noncomputable def f_X12_loadTape_b10 (n : Nat) : jw_H → Nat → Int32 → Option (Unit × jw_H) :=
 Nat.rec (fun _ _ _ => none) (fun _ k10 => g_X12_loadTape_b10 k10) n

noncomputable def f_X12_loadTape (h : jw_H) (x0 : Nat) : Option (Unit × jw_H) :=
 (jw_gI h 12 (some x0) 2).bind fun v1 =>
 (jw_pI h 12 (some x0) 22 v1).bind fun h2 =>
 f_X12_loadTape_b10  jw_FU h2 x0 (0 : Int32)

set_option maxRecDepth 100000 in
set_option maxHeartbeats 4000000 in
theorem l_X12_loadTape_b10g {hi : jw_H} {k10 : jw_H → Nat → Int32 → Option (Unit × jw_H)} (hk10 : ∀ (h : jw_H) (x0 : Nat) (x1 : Int32) (r : Unit) (h' : jw_H), k10 h x0 x1 = some (r, h') → jw_E 0 uX12_loadTape hi 10 [some (.ref x0), some (.int x1)] [] h (.inl none) h') {h : jw_H} {x0 : Nat} {x1 : Int32} {r : Unit} {h' : jw_H} (hq : g_X12_loadTape_b10 k10 h x0 x1 = some (r, h')) : jw_E 0 uX12_loadTape hi 10 [some (.ref x0), some (.int x1)] [] h (.inl none) h' := by
  unfold g_X12_loadTape_b10 at hq
  refine jw_iload_n dX12_loadTape_10 rfl ?_
  refine jw_aload_n dX12_loadTape_11 (o := (some x0)) rfl ?_
  obtain ⟨v1, ev1, hq⟩ := Option.bind_eq_some_iff.mp hq
  refine jw_getI (o := (some x0)) dX12_loadTape_12 ev1 fl_X12_143 rfl ?_
  rcases jw_if hq with ⟨c2, hq⟩ | ⟨c2, hq⟩
  · refine jw_icmp_ge_t (tgt := 36) dX12_loadTape_15 (by decide) c2 ?_
    cases hq
    exact jw_vret dX12_loadTape_36 rfl
  · refine jw_icmp_ge_f (tgt := 36) dX12_loadTape_15 (by decide) c2 ?_
    refine jw_aload_n dX12_loadTape_18 (o := (some x0)) rfl ?_
    obtain ⟨v3, ev3, hq⟩ := Option.bind_eq_some_iff.mp hq
    refine jw_getR (o := (some x0)) dX12_loadTape_19 ev3 fl_X12_44 rfl ?_
    refine jw_iload_n dX12_loadTape_22 rfl ?_
    refine jw_aload_n dX12_loadTape_23 (o := (some x0)) rfl ?_
    obtain ⟨v4, ev4, hq⟩ := Option.bind_eq_some_iff.mp hq
    refine jw_getR (o := (some x0)) dX12_loadTape_24 ev4 fl_X12_7 rfl ?_
    refine jw_iload_n dX12_loadTape_27 rfl ?_
    obtain ⟨v5, ev5, hq⟩ := Option.bind_eq_some_iff.mp hq
    refine jw_iald (o := v4) dX12_loadTape_28 ev5 ?_
    obtain ⟨h6, eh6, hq⟩ := Option.bind_eq_some_iff.mp hq
    refine jw_iast (o := v3) dX12_loadTape_29 eh6 ?_
    refine jw_iinc (L' := [some (.ref x0), some (.int (x1 + (1 : Int32)))]) dX12_loadTape_30 rfl (v := (1 : Int32)) (by decide) (Nat.le_of_ble_eq_true rfl) rfl ?_
    refine jw_goto (tgt := 10) dX12_loadTape_33 (by decide) ?_
    exact hk10 _ _ _ _ _ hq

theorem l_X12_loadTape_b10 {hi : jw_H} : ∀ (n : Nat) (h : jw_H) (x0 : Nat) (x1 : Int32) (r : Unit) (h' : jw_H), f_X12_loadTape_b10  n h x0 x1 = some (r, h') → jw_E 0 uX12_loadTape hi 10 [some (.ref x0), some (.int x1)] [] h (.inl none) h' := by
  intro n
  induction n with
  | zero => intro h x0 x1 r h' hq; exact nomatch hq
  | succ n ih => intro h x0 x1 r h' hq; exact l_X12_loadTape_b10g ih hq

set_option maxRecDepth 100000 in
set_option maxHeartbeats 4000000 in
theorem l_X12_loadTape {hi : jw_H} {h : jw_H} {x0 : Nat} {r : Unit} {h' : jw_H} (hq : f_X12_loadTape  h x0 = some (r, h')) : jw_E 0 uX12_loadTape hi 0 [some (.ref x0), none] [] h (.inl none) h' := by
  unfold f_X12_loadTape at hq
  refine jw_aload_n dX12_loadTape_0 (o := (some x0)) rfl ?_
  refine jw_aload_n dX12_loadTape_1 (o := (some x0)) rfl ?_
  obtain ⟨v1, ev1, hq⟩ := Option.bind_eq_some_iff.mp hq
  refine jw_getI (o := (some x0)) dX12_loadTape_2 ev1 fl_X12_143 rfl ?_
  obtain ⟨h2, eh2, hq⟩ := Option.bind_eq_some_iff.mp hq
  refine jw_putI (o := (some x0)) dX12_loadTape_5 eh2 fl_X12_146 rfl rfl ?_
  refine jw_iconst dX12_loadTape_8 (v := (0 : Int32)) (by decide) ?_
  refine jw_istore_n (L' := [some (.ref x0), some (.int (0 : Int32))]) dX12_loadTape_9 (Nat.le_of_ble_eq_true rfl) rfl ?_
  exact l_X12_loadTape_b10  jw_FU _ _ _ _ _ hq

theorem c_X12_loadTape {h : jw_H} {x0 : Nat} {r : Unit} {h' : jw_H} (hq : f_X12_loadTape h x0 = some (r, h')) : jw_Con (Cond.code yX12_loadTape cX12_loadTape 2 none) yX12_loadTape 0 [.ref x0] h (.inl none) h' :=
  jw_con false (plainFor_of_name (by decide +kernel)) (fun z => nomatch z) (by simp [jw_ent, jw_sl0_nil, jw_sl0_int, jw_sl0_long, jw_sl0_ref, jw_sl0_rf, jw_sl0_scr, List.replicate]) (by simp [jw_sl0_nil, jw_sl0_int, jw_sl0_long, jw_sl0_ref, jw_sl0_rf, jw_sl0_scr]) (l_X12_loadTape hq)


/-! X12_loadScript -/
noncomputable def g_X12_loadScript_b12 (k12 : jw_H → Nat → Int32 → Int32 → Option (Unit × jw_H)) (h : jw_H) (x0 : Nat) (x1 : Int32) (x2 : Int32) : Option (Unit × jw_H) :=
 (jw_gI h 12 (some x0) 22).bind fun v1 =>
 if v1 ≤ x2 then (some ((), h))
 else ((jw_gR h 12 (some x0) 21).bind fun v3 =>
 (jw_gR h 12 (some x0) 3).bind fun v4 =>
 (jw_ai h 20 v4 (((60 : Int32) * x1) + x2)).bind fun v5 =>
 (jw_si h 20 v3 x2 v5).bind fun h6 =>
 k12 h6 x0 x1 (x2 + (1 : Int32)))

noncomputable def f_X12_loadScript_b12 (n : Nat) : jw_H → Nat → Int32 → Int32 → Option (Unit × jw_H) :=
 Nat.rec (fun _ _ _ _ => none) (fun _ k12 => g_X12_loadScript_b12 k12) n

noncomputable def f_X12_loadScript (h : jw_H) (x0 : Nat) (x1 : Int32) : Option (Unit × jw_H) :=
 (jw_gR h 12 (some x0) 4).bind fun v1 =>
 (jw_ai h 20 v1 x1).bind fun v2 =>
 (jw_pI h 12 (some x0) 22 v2).bind fun h3 =>
 f_X12_loadScript_b12  jw_FU h3 x0 x1 (0 : Int32)

set_option maxRecDepth 100000 in
set_option maxHeartbeats 4000000 in
theorem l_X12_loadScript_b12g {hi : jw_H} {k12 : jw_H → Nat → Int32 → Int32 → Option (Unit × jw_H)} (hk12 : ∀ (h : jw_H) (x0 : Nat) (x1 : Int32) (x2 : Int32) (r : Unit) (h' : jw_H), k12 h x0 x1 x2 = some (r, h') → jw_E 0 uX12_loadScript hi 12 [some (.ref x0), some (.int x1), some (.int x2)] [] h (.inl none) h') {h : jw_H} {x0 : Nat} {x1 : Int32} {x2 : Int32} {r : Unit} {h' : jw_H} (hq : g_X12_loadScript_b12 k12 h x0 x1 x2 = some (r, h')) : jw_E 0 uX12_loadScript hi 12 [some (.ref x0), some (.int x1), some (.int x2)] [] h (.inl none) h' := by
  unfold g_X12_loadScript_b12 at hq
  refine jw_iload_n dX12_loadScript_12 rfl ?_
  refine jw_aload_n dX12_loadScript_13 (o := (some x0)) rfl ?_
  obtain ⟨v1, ev1, hq⟩ := Option.bind_eq_some_iff.mp hq
  refine jw_getI (o := (some x0)) dX12_loadScript_14 ev1 fl_X12_146 rfl ?_
  rcases jw_if hq with ⟨c2, hq⟩ | ⟨c2, hq⟩
  · refine jw_icmp_ge_t (tgt := 43) dX12_loadScript_17 (by decide) c2 ?_
    cases hq
    exact jw_vret dX12_loadScript_43 rfl
  · refine jw_icmp_ge_f (tgt := 43) dX12_loadScript_17 (by decide) c2 ?_
    refine jw_aload_n dX12_loadScript_20 (o := (some x0)) rfl ?_
    obtain ⟨v3, ev3, hq⟩ := Option.bind_eq_some_iff.mp hq
    refine jw_getR (o := (some x0)) dX12_loadScript_21 ev3 fl_X12_44 rfl ?_
    refine jw_iload_n dX12_loadScript_24 rfl ?_
    refine jw_aload_n dX12_loadScript_25 (o := (some x0)) rfl ?_
    obtain ⟨v4, ev4, hq⟩ := Option.bind_eq_some_iff.mp hq
    refine jw_getR (o := (some x0)) dX12_loadScript_26 ev4 fl_X12_13 rfl ?_
    refine jw_bipush dX12_loadScript_29 (v := (60 : Int32)) (by decide) ?_
    refine jw_iload_n dX12_loadScript_31 rfl ?_
    refine jw_imul dX12_loadScript_32 ?_
    refine jw_iload_n dX12_loadScript_33 rfl ?_
    refine jw_iadd dX12_loadScript_34 ?_
    obtain ⟨v5, ev5, hq⟩ := Option.bind_eq_some_iff.mp hq
    refine jw_iald (o := v4) dX12_loadScript_35 ev5 ?_
    obtain ⟨h6, eh6, hq⟩ := Option.bind_eq_some_iff.mp hq
    refine jw_iast (o := v3) dX12_loadScript_36 eh6 ?_
    refine jw_iinc (L' := [some (.ref x0), some (.int x1), some (.int (x2 + (1 : Int32)))]) dX12_loadScript_37 rfl (v := (1 : Int32)) (by decide) (Nat.le_of_ble_eq_true rfl) rfl ?_
    refine jw_goto (tgt := 12) dX12_loadScript_40 (by decide) ?_
    exact hk12 _ _ _ _ _ _ hq

theorem l_X12_loadScript_b12 {hi : jw_H} : ∀ (n : Nat) (h : jw_H) (x0 : Nat) (x1 : Int32) (x2 : Int32) (r : Unit) (h' : jw_H), f_X12_loadScript_b12  n h x0 x1 x2 = some (r, h') → jw_E 0 uX12_loadScript hi 12 [some (.ref x0), some (.int x1), some (.int x2)] [] h (.inl none) h' := by
  intro n
  induction n with
  | zero => intro h x0 x1 x2 r h' hq; exact nomatch hq
  | succ n ih => intro h x0 x1 x2 r h' hq; exact l_X12_loadScript_b12g ih hq

set_option maxRecDepth 100000 in
set_option maxHeartbeats 4000000 in
theorem l_X12_loadScript {hi : jw_H} {h : jw_H} {x0 : Nat} {x1 : Int32} {r : Unit} {h' : jw_H} (hq : f_X12_loadScript  h x0 x1 = some (r, h')) : jw_E 0 uX12_loadScript hi 0 [some (.ref x0), some (.int x1), none] [] h (.inl none) h' := by
  unfold f_X12_loadScript at hq
  refine jw_aload_n dX12_loadScript_0 (o := (some x0)) rfl ?_
  refine jw_aload_n dX12_loadScript_1 (o := (some x0)) rfl ?_
  obtain ⟨v1, ev1, hq⟩ := Option.bind_eq_some_iff.mp hq
  refine jw_getR (o := (some x0)) dX12_loadScript_2 ev1 fl_X12_16 rfl ?_
  refine jw_iload_n dX12_loadScript_5 rfl ?_
  obtain ⟨v2, ev2, hq⟩ := Option.bind_eq_some_iff.mp hq
  refine jw_iald (o := v1) dX12_loadScript_6 ev2 ?_
  obtain ⟨h3, eh3, hq⟩ := Option.bind_eq_some_iff.mp hq
  refine jw_putI (o := (some x0)) dX12_loadScript_7 eh3 fl_X12_146 rfl rfl ?_
  refine jw_iconst dX12_loadScript_10 (v := (0 : Int32)) (by decide) ?_
  refine jw_istore_n (L' := [some (.ref x0), some (.int x1), some (.int (0 : Int32))]) dX12_loadScript_11 (Nat.le_of_ble_eq_true rfl) rfl ?_
  exact l_X12_loadScript_b12  jw_FU _ _ _ _ _ _ hq

theorem c_X12_loadScript {h : jw_H} {x0 : Nat} {x1 : Int32} {r : Unit} {h' : jw_H} (hq : f_X12_loadScript h x0 x1 = some (r, h')) : jw_Con (Cond.code yX12_loadScript cX12_loadScript 3 none) yX12_loadScript 0 [.ref x0, .int x1] h (.inl none) h' :=
  jw_con false (plainFor_of_name (by decide +kernel)) (fun z => nomatch z) (by simp [jw_ent, jw_sl0_nil, jw_sl0_int, jw_sl0_long, jw_sl0_ref, jw_sl0_rf, jw_sl0_scr, List.replicate]) (by simp [jw_sl0_nil, jw_sl0_int, jw_sl0_long, jw_sl0_ref, jw_sl0_rf, jw_sl0_scr]) (l_X12_loadScript hq)


/-! X12_c -/
noncomputable def g_X12_c_b24 (h : jw_H) (t0 : Int32) : Option (Int32 × jw_H) :=
 some (t0, h)

noncomputable def f_X12_c (h : jw_H) (x0 : Nat) : Option (Int32 × jw_H) :=
 (jw_gI h 12 (some x0) 23).bind fun v1 =>
 (jw_gI h 12 (some x0) 22).bind fun v2 =>
 if v2 ≤ v1 then (g_X12_c_b24  h (0 : Int32))
 else ((jw_gR h 12 (some x0) 21).bind fun v4 =>
 (jw_gI h 12 (some x0) 23).bind fun v5 =>
 (jw_ai h 20 v4 v5).bind fun v6 =>
 g_X12_c_b24  h v6)

set_option maxRecDepth 100000 in
set_option maxHeartbeats 4000000 in
theorem l_X12_c_b24 {hi : jw_H} {h : jw_H} {t0 : Int32} {r : Int32} {h' : jw_H} (hq : g_X12_c_b24  h t0 = some (r, h')) : jw_E 0 uX12_c hi 24 [none] [.int t0] h (.inl (some (.int r))) h' := by
  unfold g_X12_c_b24 at hq
  cases hq
  exact jw_iret (ty := .int) dX12_c_24 rfl rfl

set_option maxRecDepth 100000 in
set_option maxHeartbeats 4000000 in
theorem l_X12_c {hi : jw_H} {h : jw_H} {x0 : Nat} {r : Int32} {h' : jw_H} (hq : f_X12_c  h x0 = some (r, h')) : jw_E 0 uX12_c hi 0 [some (.ref x0)] [] h (.inl (some (.int r))) h' := by
  unfold f_X12_c at hq
  refine jw_aload_n dX12_c_0 (o := (some x0)) rfl ?_
  obtain ⟨v1, ev1, hq⟩ := Option.bind_eq_some_iff.mp hq
  refine jw_getI (o := (some x0)) dX12_c_1 ev1 fl_X12_149 rfl ?_
  refine jw_aload_n dX12_c_4 (o := (some x0)) rfl ?_
  obtain ⟨v2, ev2, hq⟩ := Option.bind_eq_some_iff.mp hq
  refine jw_getI (o := (some x0)) dX12_c_5 ev2 fl_X12_146 rfl ?_
  rcases jw_if hq with ⟨c3, hq⟩ | ⟨c3, hq⟩
  · refine jw_icmp_ge_t (tgt := 23) dX12_c_8 (by decide) c3 ?_
    refine jw_iconst dX12_c_23 (v := (0 : Int32)) (by decide) ?_
    refine jw_forget [false] (L' := [none]) rfl ?_
    exact l_X12_c_b24  hq
  · refine jw_icmp_ge_f (tgt := 23) dX12_c_8 (by decide) c3 ?_
    refine jw_aload_n dX12_c_11 (o := (some x0)) rfl ?_
    obtain ⟨v4, ev4, hq⟩ := Option.bind_eq_some_iff.mp hq
    refine jw_getR (o := (some x0)) dX12_c_12 ev4 fl_X12_44 rfl ?_
    refine jw_aload_n dX12_c_15 (o := (some x0)) rfl ?_
    obtain ⟨v5, ev5, hq⟩ := Option.bind_eq_some_iff.mp hq
    refine jw_getI (o := (some x0)) dX12_c_16 ev5 fl_X12_149 rfl ?_
    obtain ⟨v6, ev6, hq⟩ := Option.bind_eq_some_iff.mp hq
    refine jw_iald (o := v4) dX12_c_19 ev6 ?_
    refine jw_goto (tgt := 24) dX12_c_20 (by decide) ?_
    refine jw_forget [false] (L' := [none]) rfl ?_
    exact l_X12_c_b24  hq

theorem c_X12_c {h : jw_H} {x0 : Nat} {r : Int32} {h' : jw_H} (hq : f_X12_c h x0 = some (r, h')) : jw_Con (Cond.code yX12_c cX12_c 1 (some .int)) yX12_c 0 [.ref x0] h (.inl (some (.int r))) h' :=
  jw_con false (plainFor_of_name (by decide +kernel)) (fun z => nomatch z) (by simp [jw_ent, jw_sl0_nil, jw_sl0_int, jw_sl0_long, jw_sl0_ref, jw_sl0_rf, jw_sl0_scr, List.replicate]) (by simp [jw_sl0_nil, jw_sl0_int, jw_sl0_long, jw_sl0_ref, jw_sl0_rf, jw_sl0_scr]) (l_X12_c hq)


/-! X12_isDigit -/
noncomputable def g_X12_isDigit_b17 (h : jw_H) (t0 : Int32) : Option (Int32 × jw_H) :=
 (jw_rb t0).bind fun v1 =>
 some (t0, h)

noncomputable def g_X12_isDigit_b16 (h : jw_H)  : Option (Int32 × jw_H) :=
 g_X12_isDigit_b17  h (0 : Int32)

noncomputable def f_X12_isDigit (h : jw_H) (x0 : Int32) : Option (Int32 × jw_H) :=
 if x0 < (48 : Int32) then (g_X12_isDigit_b16  h )
 else (if (57 : Int32) < x0 then (g_X12_isDigit_b16  h )
 else (g_X12_isDigit_b17  h (1 : Int32)))

set_option maxRecDepth 100000 in
set_option maxHeartbeats 4000000 in
theorem l_X12_isDigit_b17 {hi : jw_H} {h : jw_H} {t0 : Int32} {r : Int32} {h' : jw_H} (hq : g_X12_isDigit_b17  h t0 = some (r, h')) : jw_E 0 uX12_isDigit hi 17 [none] [.int t0] h (.inl (some (.int r))) h' := by
  unfold g_X12_isDigit_b17 at hq
  obtain ⟨v1, ev1, hq⟩ := Option.bind_eq_some_iff.mp hq
  cases hq
  exact jw_iret (ty := .boolean) dX12_isDigit_17 rfl (jw_rb_spec ev1)

set_option maxRecDepth 100000 in
set_option maxHeartbeats 4000000 in
theorem l_X12_isDigit_b16 {hi : jw_H} {h : jw_H}  {r : Int32} {h' : jw_H} (hq : g_X12_isDigit_b16  h  = some (r, h')) : jw_E 0 uX12_isDigit hi 16 [none] [] h (.inl (some (.int r))) h' := by
  unfold g_X12_isDigit_b16 at hq
  refine jw_iconst dX12_isDigit_16 (v := (0 : Int32)) (by decide) ?_
  exact l_X12_isDigit_b17  hq

set_option maxRecDepth 100000 in
set_option maxHeartbeats 4000000 in
theorem l_X12_isDigit {hi : jw_H} {h : jw_H} {x0 : Int32} {r : Int32} {h' : jw_H} (hq : f_X12_isDigit  h x0 = some (r, h')) : jw_E 0 uX12_isDigit hi 0 [some (.int x0)] [] h (.inl (some (.int r))) h' := by
  unfold f_X12_isDigit at hq
  refine jw_iload_n dX12_isDigit_0 rfl ?_
  refine jw_bipush dX12_isDigit_1 (v := (48 : Int32)) (by decide) ?_
  rcases jw_if hq with ⟨c1, hq⟩ | ⟨c1, hq⟩
  · refine jw_icmp_lt_t (tgt := 16) dX12_isDigit_3 (by decide) c1 ?_
    refine jw_forget [false] (L' := [none]) rfl ?_
    exact l_X12_isDigit_b16  hq
  · refine jw_icmp_lt_f (tgt := 16) dX12_isDigit_3 (by decide) c1 ?_
    refine jw_iload_n dX12_isDigit_6 rfl ?_
    refine jw_bipush dX12_isDigit_7 (v := (57 : Int32)) (by decide) ?_
    rcases jw_if hq with ⟨c2, hq⟩ | ⟨c2, hq⟩
    · refine jw_icmp_gt_t (tgt := 16) dX12_isDigit_9 (by decide) c2 ?_
      refine jw_forget [false] (L' := [none]) rfl ?_
      exact l_X12_isDigit_b16  hq
    · refine jw_icmp_gt_f (tgt := 16) dX12_isDigit_9 (by decide) c2 ?_
      refine jw_iconst dX12_isDigit_12 (v := (1 : Int32)) (by decide) ?_
      refine jw_goto (tgt := 17) dX12_isDigit_13 (by decide) ?_
      refine jw_forget [false] (L' := [none]) rfl ?_
      exact l_X12_isDigit_b17  hq

theorem c_X12_isDigit {h : jw_H} {x0 : Int32} {r : Int32} {h' : jw_H} (hq : f_X12_isDigit h x0 = some (r, h')) : jw_Con (Cond.code yX12_isDigit cX12_isDigit 1 (some .boolean)) yX12_isDigit 0 [.int x0] h (.inl (some (.int r))) h' :=
  jw_con false (plainFor_of_name (by decide +kernel)) (fun z => nomatch z) (by simp [jw_ent, jw_sl0_nil, jw_sl0_int, jw_sl0_long, jw_sl0_ref, jw_sl0_rf, jw_sl0_scr, List.replicate]) (by simp [jw_sl0_nil, jw_sl0_int, jw_sl0_long, jw_sl0_ref, jw_sl0_rf, jw_sl0_scr]) (l_X12_isDigit hq)


/-! X12_isChar -/
noncomputable def g_X12_isChar_b30 (h : jw_H) (t0 : Int32) : Option (Int32 × jw_H) :=
 (jw_rb t0).bind fun v1 =>
 some (t0, h)

noncomputable def g_X12_isChar_b25 (h : jw_H)  : Option (Int32 × jw_H) :=
 g_X12_isChar_b30  h (1 : Int32)

noncomputable def g_X12_isChar_b12 (h : jw_H) (x0 : Int32) : Option (Int32 × jw_H) :=
 jw_b2 (f_X12_isDigit h x0) fun w2 h1 =>
 if w2 = 0 then (if x0 = (32 : Int32) then (g_X12_isChar_b25  h1 )
 else (g_X12_isChar_b30  h1 (0 : Int32)))
 else (g_X12_isChar_b25  h1 )

noncomputable def f_X12_isChar (h : jw_H) (x0 : Int32) : Option (Int32 × jw_H) :=
 if x0 < (97 : Int32) then (g_X12_isChar_b12  h x0)
 else (if x0 ≤ (122 : Int32) then (g_X12_isChar_b25  h )
 else (g_X12_isChar_b12  h x0))

set_option maxRecDepth 100000 in
set_option maxHeartbeats 4000000 in
theorem l_X12_isChar_b30 {hi : jw_H} {h : jw_H} {t0 : Int32} {r : Int32} {h' : jw_H} (hq : g_X12_isChar_b30  h t0 = some (r, h')) : jw_E 1 uX12_isChar hi 30 [none] [.int t0] h (.inl (some (.int r))) h' := by
  unfold g_X12_isChar_b30 at hq
  obtain ⟨v1, ev1, hq⟩ := Option.bind_eq_some_iff.mp hq
  cases hq
  exact jw_iret (ty := .boolean) dX12_isChar_30 rfl (jw_rb_spec ev1)

set_option maxRecDepth 100000 in
set_option maxHeartbeats 4000000 in
theorem l_X12_isChar_b25 {hi : jw_H} {h : jw_H}  {r : Int32} {h' : jw_H} (hq : g_X12_isChar_b25  h  = some (r, h')) : jw_E 1 uX12_isChar hi 25 [none] [] h (.inl (some (.int r))) h' := by
  unfold g_X12_isChar_b25 at hq
  refine jw_iconst dX12_isChar_25 (v := (1 : Int32)) (by decide) ?_
  refine jw_goto (tgt := 30) dX12_isChar_26 (by decide) ?_
  exact l_X12_isChar_b30  hq

set_option maxRecDepth 100000 in
set_option maxHeartbeats 4000000 in
theorem l_X12_isChar_b12 {hi : jw_H} {h : jw_H} {x0 : Int32} {r : Int32} {h' : jw_H} (hq : g_X12_isChar_b12  h x0 = some (r, h')) : jw_E 1 uX12_isChar hi 12 [some (.int x0)] [] h (.inl (some (.int r))) h' := by
  unfold g_X12_isChar_b12 at hq
  refine jw_iload_n dX12_isChar_12 rfl ?_
  obtain ⟨w2, h1, ew2, hq⟩ := jw_b2_spec hq
  refine jw_callS (As := [.int x0]) (S := []) (v := some (.int w2)) dX12_isChar_13 mt_X12_isDigit st_X12_isDigit lk_X12_152 (c_X12_isDigit ew2) rfl (by decide) (Nat.le_of_ble_eq_true rfl) rfl ?_
  rcases jw_if hq with ⟨c3, hq⟩ | ⟨c3, hq⟩
  · refine jw_if_ne_f (tgt := 25) dX12_isChar_16 (by decide) c3 ?_
    refine jw_iload_n dX12_isChar_19 rfl ?_
    refine jw_bipush dX12_isChar_20 (v := (32 : Int32)) (by decide) ?_
    rcases jw_if hq with ⟨c4, hq⟩ | ⟨c4, hq⟩
    · refine jw_icmp_ne_f (tgt := 29) dX12_isChar_22 (by decide) c4 ?_
      refine jw_forget [false] (L' := [none]) rfl ?_
      exact l_X12_isChar_b25  hq
    · refine jw_icmp_ne_t (tgt := 29) dX12_isChar_22 (by decide) c4 ?_
      refine jw_iconst dX12_isChar_29 (v := (0 : Int32)) (by decide) ?_
      refine jw_forget [false] (L' := [none]) rfl ?_
      exact l_X12_isChar_b30  hq
  · refine jw_if_ne_t (tgt := 25) dX12_isChar_16 (by decide) c3 ?_
    refine jw_forget [false] (L' := [none]) rfl ?_
    exact l_X12_isChar_b25  hq

set_option maxRecDepth 100000 in
set_option maxHeartbeats 4000000 in
theorem l_X12_isChar {hi : jw_H} {h : jw_H} {x0 : Int32} {r : Int32} {h' : jw_H} (hq : f_X12_isChar  h x0 = some (r, h')) : jw_E 1 uX12_isChar hi 0 [some (.int x0)] [] h (.inl (some (.int r))) h' := by
  unfold f_X12_isChar at hq
  refine jw_iload_n dX12_isChar_0 rfl ?_
  refine jw_bipush dX12_isChar_1 (v := (97 : Int32)) (by decide) ?_
  rcases jw_if hq with ⟨c1, hq⟩ | ⟨c1, hq⟩
  · refine jw_icmp_lt_t (tgt := 12) dX12_isChar_3 (by decide) c1 ?_
    exact l_X12_isChar_b12  hq
  · refine jw_icmp_lt_f (tgt := 12) dX12_isChar_3 (by decide) c1 ?_
    refine jw_iload_n dX12_isChar_6 rfl ?_
    refine jw_bipush dX12_isChar_7 (v := (122 : Int32)) (by decide) ?_
    rcases jw_if hq with ⟨c2, hq⟩ | ⟨c2, hq⟩
    · refine jw_icmp_le_t (tgt := 25) dX12_isChar_9 (by decide) c2 ?_
      refine jw_forget [false] (L' := [none]) rfl ?_
      exact l_X12_isChar_b25  hq
    · refine jw_icmp_le_f (tgt := 25) dX12_isChar_9 (by decide) c2 ?_
      exact l_X12_isChar_b12  hq

theorem c_X12_isChar {h : jw_H} {x0 : Int32} {r : Int32} {h' : jw_H} (hq : f_X12_isChar h x0 = some (r, h')) : jw_Con (Cond.code yX12_isChar cX12_isChar 1 (some .boolean)) yX12_isChar 1 [.int x0] h (.inl (some (.int r))) h' :=
  jw_con false (plainFor_of_name (by decide +kernel)) (fun z => nomatch z) (by simp [jw_ent, jw_sl0_nil, jw_sl0_int, jw_sl0_long, jw_sl0_ref, jw_sl0_rf, jw_sl0_scr, List.replicate]) (by simp [jw_sl0_nil, jw_sl0_int, jw_sl0_long, jw_sl0_ref, jw_sl0_rf, jw_sl0_scr]) (l_X12_isChar hq)


/-! X12_isMark -/
noncomputable def g_X12_isMark_b17 (h : jw_H) (t0 : Int32) : Option (Int32 × jw_H) :=
 (jw_rb t0).bind fun v1 =>
 some (t0, h)

noncomputable def g_X12_isMark_b16 (h : jw_H)  : Option (Int32 × jw_H) :=
 g_X12_isMark_b17  h (0 : Int32)

noncomputable def f_X12_isMark (h : jw_H) (x0 : Int32) : Option (Int32 × jw_H) :=
 if x0 < (97 : Int32) then (g_X12_isMark_b16  h )
 else (if (101 : Int32) < x0 then (g_X12_isMark_b16  h )
 else (g_X12_isMark_b17  h (1 : Int32)))

set_option maxRecDepth 100000 in
set_option maxHeartbeats 4000000 in
theorem l_X12_isMark_b17 {hi : jw_H} {h : jw_H} {t0 : Int32} {r : Int32} {h' : jw_H} (hq : g_X12_isMark_b17  h t0 = some (r, h')) : jw_E 0 uX12_isMark hi 17 [none] [.int t0] h (.inl (some (.int r))) h' := by
  unfold g_X12_isMark_b17 at hq
  obtain ⟨v1, ev1, hq⟩ := Option.bind_eq_some_iff.mp hq
  cases hq
  exact jw_iret (ty := .boolean) dX12_isMark_17 rfl (jw_rb_spec ev1)

set_option maxRecDepth 100000 in
set_option maxHeartbeats 4000000 in
theorem l_X12_isMark_b16 {hi : jw_H} {h : jw_H}  {r : Int32} {h' : jw_H} (hq : g_X12_isMark_b16  h  = some (r, h')) : jw_E 0 uX12_isMark hi 16 [none] [] h (.inl (some (.int r))) h' := by
  unfold g_X12_isMark_b16 at hq
  refine jw_iconst dX12_isMark_16 (v := (0 : Int32)) (by decide) ?_
  exact l_X12_isMark_b17  hq

set_option maxRecDepth 100000 in
set_option maxHeartbeats 4000000 in
theorem l_X12_isMark {hi : jw_H} {h : jw_H} {x0 : Int32} {r : Int32} {h' : jw_H} (hq : f_X12_isMark  h x0 = some (r, h')) : jw_E 0 uX12_isMark hi 0 [some (.int x0)] [] h (.inl (some (.int r))) h' := by
  unfold f_X12_isMark at hq
  refine jw_iload_n dX12_isMark_0 rfl ?_
  refine jw_bipush dX12_isMark_1 (v := (97 : Int32)) (by decide) ?_
  rcases jw_if hq with ⟨c1, hq⟩ | ⟨c1, hq⟩
  · refine jw_icmp_lt_t (tgt := 16) dX12_isMark_3 (by decide) c1 ?_
    refine jw_forget [false] (L' := [none]) rfl ?_
    exact l_X12_isMark_b16  hq
  · refine jw_icmp_lt_f (tgt := 16) dX12_isMark_3 (by decide) c1 ?_
    refine jw_iload_n dX12_isMark_6 rfl ?_
    refine jw_bipush dX12_isMark_7 (v := (101 : Int32)) (by decide) ?_
    rcases jw_if hq with ⟨c2, hq⟩ | ⟨c2, hq⟩
    · refine jw_icmp_gt_t (tgt := 16) dX12_isMark_9 (by decide) c2 ?_
      refine jw_forget [false] (L' := [none]) rfl ?_
      exact l_X12_isMark_b16  hq
    · refine jw_icmp_gt_f (tgt := 16) dX12_isMark_9 (by decide) c2 ?_
      refine jw_iconst dX12_isMark_12 (v := (1 : Int32)) (by decide) ?_
      refine jw_goto (tgt := 17) dX12_isMark_13 (by decide) ?_
      refine jw_forget [false] (L' := [none]) rfl ?_
      exact l_X12_isMark_b17  hq

theorem c_X12_isMark {h : jw_H} {x0 : Int32} {r : Int32} {h' : jw_H} (hq : f_X12_isMark h x0 = some (r, h')) : jw_Con (Cond.code yX12_isMark cX12_isMark 1 (some .boolean)) yX12_isMark 0 [.int x0] h (.inl (some (.int r))) h' :=
  jw_con false (plainFor_of_name (by decide +kernel)) (fun z => nomatch z) (by simp [jw_ent, jw_sl0_nil, jw_sl0_int, jw_sl0_long, jw_sl0_ref, jw_sl0_rf, jw_sl0_scr, List.replicate]) (by simp [jw_sl0_nil, jw_sl0_int, jw_sl0_long, jw_sl0_ref, jw_sl0_rf, jw_sl0_scr]) (l_X12_isMark hq)


/-! X12_isLabel -/
noncomputable def g_X12_isLabel_b17 (h : jw_H) (t0 : Int32) : Option (Int32 × jw_H) :=
 (jw_rb t0).bind fun v1 =>
 some (t0, h)

noncomputable def g_X12_isLabel_b16 (h : jw_H)  : Option (Int32 × jw_H) :=
 g_X12_isLabel_b17  h (0 : Int32)

noncomputable def f_X12_isLabel (h : jw_H) (x0 : Int32) : Option (Int32 × jw_H) :=
 if x0 < (65 : Int32) then (g_X12_isLabel_b16  h )
 else (if (90 : Int32) < x0 then (g_X12_isLabel_b16  h )
 else (g_X12_isLabel_b17  h (1 : Int32)))

set_option maxRecDepth 100000 in
set_option maxHeartbeats 4000000 in
theorem l_X12_isLabel_b17 {hi : jw_H} {h : jw_H} {t0 : Int32} {r : Int32} {h' : jw_H} (hq : g_X12_isLabel_b17  h t0 = some (r, h')) : jw_E 0 uX12_isLabel hi 17 [none] [.int t0] h (.inl (some (.int r))) h' := by
  unfold g_X12_isLabel_b17 at hq
  obtain ⟨v1, ev1, hq⟩ := Option.bind_eq_some_iff.mp hq
  cases hq
  exact jw_iret (ty := .boolean) dX12_isLabel_17 rfl (jw_rb_spec ev1)

set_option maxRecDepth 100000 in
set_option maxHeartbeats 4000000 in
theorem l_X12_isLabel_b16 {hi : jw_H} {h : jw_H}  {r : Int32} {h' : jw_H} (hq : g_X12_isLabel_b16  h  = some (r, h')) : jw_E 0 uX12_isLabel hi 16 [none] [] h (.inl (some (.int r))) h' := by
  unfold g_X12_isLabel_b16 at hq
  refine jw_iconst dX12_isLabel_16 (v := (0 : Int32)) (by decide) ?_
  exact l_X12_isLabel_b17  hq

set_option maxRecDepth 100000 in
set_option maxHeartbeats 4000000 in
theorem l_X12_isLabel {hi : jw_H} {h : jw_H} {x0 : Int32} {r : Int32} {h' : jw_H} (hq : f_X12_isLabel  h x0 = some (r, h')) : jw_E 0 uX12_isLabel hi 0 [some (.int x0)] [] h (.inl (some (.int r))) h' := by
  unfold f_X12_isLabel at hq
  refine jw_iload_n dX12_isLabel_0 rfl ?_
  refine jw_bipush dX12_isLabel_1 (v := (65 : Int32)) (by decide) ?_
  rcases jw_if hq with ⟨c1, hq⟩ | ⟨c1, hq⟩
  · refine jw_icmp_lt_t (tgt := 16) dX12_isLabel_3 (by decide) c1 ?_
    refine jw_forget [false] (L' := [none]) rfl ?_
    exact l_X12_isLabel_b16  hq
  · refine jw_icmp_lt_f (tgt := 16) dX12_isLabel_3 (by decide) c1 ?_
    refine jw_iload_n dX12_isLabel_6 rfl ?_
    refine jw_bipush dX12_isLabel_7 (v := (90 : Int32)) (by decide) ?_
    rcases jw_if hq with ⟨c2, hq⟩ | ⟨c2, hq⟩
    · refine jw_icmp_gt_t (tgt := 16) dX12_isLabel_9 (by decide) c2 ?_
      refine jw_forget [false] (L' := [none]) rfl ?_
      exact l_X12_isLabel_b16  hq
    · refine jw_icmp_gt_f (tgt := 16) dX12_isLabel_9 (by decide) c2 ?_
      refine jw_iconst dX12_isLabel_12 (v := (1 : Int32)) (by decide) ?_
      refine jw_goto (tgt := 17) dX12_isLabel_13 (by decide) ?_
      refine jw_forget [false] (L' := [none]) rfl ?_
      exact l_X12_isLabel_b17  hq

theorem c_X12_isLabel {h : jw_H} {x0 : Int32} {r : Int32} {h' : jw_H} (hq : f_X12_isLabel h x0 = some (r, h')) : jw_Con (Cond.code yX12_isLabel cX12_isLabel 1 (some .boolean)) yX12_isLabel 0 [.int x0] h (.inl (some (.int r))) h' :=
  jw_con false (plainFor_of_name (by decide +kernel)) (fun z => nomatch z) (by simp [jw_ent, jw_sl0_nil, jw_sl0_int, jw_sl0_long, jw_sl0_ref, jw_sl0_rf, jw_sl0_scr, List.replicate]) (by simp [jw_sl0_nil, jw_sl0_int, jw_sl0_long, jw_sl0_ref, jw_sl0_rf, jw_sl0_scr]) (l_X12_isLabel hq)


/-! X12_fail -/
noncomputable def g_X12_fail_b19 (h : jw_H) (t0 : Nat) (t1 : Int32) : Option (Unit × jw_H) :=
 (jw_pI h 12 (some t0) 24 t1).bind fun h1 =>
 some ((), h1)

noncomputable def f_X12_fail (h : jw_H) (x0 : Nat) : Option (Unit × jw_H) :=
 (jw_gI h 12 (some x0) 24).bind fun v1 =>
 if 0 ≤ v1 then ((jw_gI h 12 (some x0) 24).bind fun v3 =>
 g_X12_fail_b19  h x0 v3)
 else ((jw_gI h 12 (some x0) 23).bind fun v4 =>
 g_X12_fail_b19  h x0 v4)

set_option maxRecDepth 100000 in
set_option maxHeartbeats 4000000 in
theorem l_X12_fail_b19 {hi : jw_H} {h : jw_H} {t0 : Nat} {t1 : Int32} {r : Unit} {h' : jw_H} (hq : g_X12_fail_b19  h t0 t1 = some (r, h')) : jw_E 0 uX12_fail hi 19 [none] [.int t1, .ref t0] h (.inl none) h' := by
  unfold g_X12_fail_b19 at hq
  obtain ⟨h1, eh1, hq⟩ := Option.bind_eq_some_iff.mp hq
  refine jw_putI (o := (some t0)) dX12_fail_19 eh1 fl_X12_156 rfl rfl ?_
  cases hq
  exact jw_vret dX12_fail_22 rfl

set_option maxRecDepth 100000 in
set_option maxHeartbeats 4000000 in
theorem l_X12_fail {hi : jw_H} {h : jw_H} {x0 : Nat} {r : Unit} {h' : jw_H} (hq : f_X12_fail  h x0 = some (r, h')) : jw_E 0 uX12_fail hi 0 [some (.ref x0)] [] h (.inl none) h' := by
  unfold f_X12_fail at hq
  refine jw_aload_n dX12_fail_0 (o := (some x0)) rfl ?_
  refine jw_aload_n dX12_fail_1 (o := (some x0)) rfl ?_
  obtain ⟨v1, ev1, hq⟩ := Option.bind_eq_some_iff.mp hq
  refine jw_getI (o := (some x0)) dX12_fail_2 ev1 fl_X12_156 rfl ?_
  rcases jw_if hq with ⟨c2, hq⟩ | ⟨c2, hq⟩
  · refine jw_if_ge_t (tgt := 15) dX12_fail_5 (by decide) c2 ?_
    refine jw_aload_n dX12_fail_15 (o := (some x0)) rfl ?_
    obtain ⟨v3, ev3, hq⟩ := Option.bind_eq_some_iff.mp hq
    refine jw_getI (o := (some x0)) dX12_fail_16 ev3 fl_X12_156 rfl ?_
    refine jw_forget [false] (L' := [none]) rfl ?_
    exact l_X12_fail_b19  hq
  · refine jw_if_ge_f (tgt := 15) dX12_fail_5 (by decide) c2 ?_
    refine jw_aload_n dX12_fail_8 (o := (some x0)) rfl ?_
    obtain ⟨v4, ev4, hq⟩ := Option.bind_eq_some_iff.mp hq
    refine jw_getI (o := (some x0)) dX12_fail_9 ev4 fl_X12_149 rfl ?_
    refine jw_goto (tgt := 19) dX12_fail_12 (by decide) ?_
    refine jw_forget [false] (L' := [none]) rfl ?_
    exact l_X12_fail_b19  hq

theorem c_X12_fail {h : jw_H} {x0 : Nat} {r : Unit} {h' : jw_H} (hq : f_X12_fail h x0 = some (r, h')) : jw_Con (Cond.code yX12_fail cX12_fail 1 none) yX12_fail 0 [.ref x0] h (.inl none) h' :=
  jw_con false (plainFor_of_name (by decide +kernel)) (fun z => nomatch z) (by simp [jw_ent, jw_sl0_nil, jw_sl0_int, jw_sl0_long, jw_sl0_ref, jw_sl0_rf, jw_sl0_scr, List.replicate]) (by simp [jw_sl0_nil, jw_sl0_int, jw_sl0_long, jw_sl0_ref, jw_sl0_rf, jw_sl0_scr]) (l_X12_fail hq)


/-! X12_takeIf -/
noncomputable def g_X12_takeIf_b24 (h : jw_H) (x0 : Nat) : Option (Unit × jw_H) :=
 (jw_rc h 12 (some x0)).bind fun a1 =>
 jw_b2 (f_X12_fail h a1) fun w3 h2 =>
 some ((), h2)

noncomputable def f_X12_takeIf (h : jw_H) (x0 : Nat) (x1 : Int32) : Option (Unit × jw_H) :=
 (jw_gI h 12 (some x0) 24).bind fun v1 =>
 if 0 ≤ v1 then (g_X12_takeIf_b24  h x0)
 else (if x1 = 0 then (g_X12_takeIf_b24  h x0)
 else ((jw_gI h 12 (some x0) 23).bind fun v4 =>
 (jw_pI h 12 (some x0) 23 (v4 + (1 : Int32))).bind fun h5 =>
 some ((), h5)))

set_option maxRecDepth 100000 in
set_option maxHeartbeats 4000000 in
theorem l_X12_takeIf_b24 {hi : jw_H} {h : jw_H} {x0 : Nat} {r : Unit} {h' : jw_H} (hq : g_X12_takeIf_b24  h x0 = some (r, h')) : jw_E 1 uX12_takeIf hi 24 [some (.ref x0), none] [] h (.inl none) h' := by
  unfold g_X12_takeIf_b24 at hq
  refine jw_aload_n dX12_takeIf_24 (o := (some x0)) rfl ?_
  obtain ⟨a1, ea1, hq⟩ := Option.bind_eq_some_iff.mp hq
  obtain ⟨eoa1, eta1⟩ := jw_rc_spec ea1
  obtain ⟨w3, h2, ew3, hq⟩ := jw_b2_spec hq
  refine jw_callV (As := []) (S := []) (a := a1) (v := none) dX12_takeIf_25 mt_X12_fail in_X12_fail se_X12_fail lk_X12_159 (c_X12_fail ew3) eta1 (by decide) rfl rfl (by decide) (Nat.le_of_ble_eq_true rfl) (by cases eoa1; rfl) ?_
  cases hq
  exact jw_vret dX12_takeIf_28 rfl

set_option maxRecDepth 100000 in
set_option maxHeartbeats 4000000 in
theorem l_X12_takeIf {hi : jw_H} {h : jw_H} {x0 : Nat} {x1 : Int32} {r : Unit} {h' : jw_H} (hq : f_X12_takeIf  h x0 x1 = some (r, h')) : jw_E 1 uX12_takeIf hi 0 [some (.ref x0), some (.int x1)] [] h (.inl none) h' := by
  unfold f_X12_takeIf at hq
  refine jw_aload_n dX12_takeIf_0 (o := (some x0)) rfl ?_
  obtain ⟨v1, ev1, hq⟩ := Option.bind_eq_some_iff.mp hq
  refine jw_getI (o := (some x0)) dX12_takeIf_1 ev1 fl_X12_156 rfl ?_
  rcases jw_if hq with ⟨c2, hq⟩ | ⟨c2, hq⟩
  · refine jw_if_ge_t (tgt := 24) dX12_takeIf_4 (by decide) c2 ?_
    refine jw_forget [true, false] (L' := [some (.ref x0), none]) rfl ?_
    exact l_X12_takeIf_b24  hq
  · refine jw_if_ge_f (tgt := 24) dX12_takeIf_4 (by decide) c2 ?_
    refine jw_iload_n dX12_takeIf_7 rfl ?_
    rcases jw_if hq with ⟨c3, hq⟩ | ⟨c3, hq⟩
    · refine jw_if_eq_t (tgt := 24) dX12_takeIf_8 (by decide) c3 ?_
      refine jw_forget [true, false] (L' := [some (.ref x0), none]) rfl ?_
      exact l_X12_takeIf_b24  hq
    · refine jw_if_eq_f (tgt := 24) dX12_takeIf_8 (by decide) c3 ?_
      refine jw_aload_n dX12_takeIf_11 (o := (some x0)) rfl ?_
      refine jw_dup dX12_takeIf_12 rfl ?_
      obtain ⟨v4, ev4, hq⟩ := Option.bind_eq_some_iff.mp hq
      refine jw_getI (o := (some x0)) dX12_takeIf_13 ev4 fl_X12_149 rfl ?_
      refine jw_iconst dX12_takeIf_16 (v := (1 : Int32)) (by decide) ?_
      refine jw_iadd dX12_takeIf_17 ?_
      obtain ⟨h5, eh5, hq⟩ := Option.bind_eq_some_iff.mp hq
      refine jw_putI (o := (some x0)) dX12_takeIf_18 eh5 fl_X12_149 rfl rfl ?_
      refine jw_goto (tgt := 28) dX12_takeIf_21 (by decide) ?_
      cases hq
      exact jw_vret dX12_takeIf_28 rfl

theorem c_X12_takeIf {h : jw_H} {x0 : Nat} {x1 : Int32} {r : Unit} {h' : jw_H} (hq : f_X12_takeIf h x0 x1 = some (r, h')) : jw_Con (Cond.code yX12_takeIf cX12_takeIf 2 none) yX12_takeIf 1 [.ref x0, .int x1] h (.inl none) h' :=
  jw_con false (plainFor_of_name (by decide +kernel)) (fun z => nomatch z) (by simp [jw_ent, jw_sl0_nil, jw_sl0_int, jw_sl0_long, jw_sl0_ref, jw_sl0_rf, jw_sl0_scr, List.replicate]) (by simp [jw_sl0_nil, jw_sl0_int, jw_sl0_long, jw_sl0_ref, jw_sl0_rf, jw_sl0_scr]) (l_X12_takeIf hq)


/-! X12_take -/
noncomputable def g_X12_take_b14 (h : jw_H) (t0 : Nat) (t1 : Int32) : Option (Unit × jw_H) :=
 (jw_rc h 12 (some t0)).bind fun a1 =>
 jw_b2 (f_X12_takeIf h a1 t1) fun w3 h2 =>
 some ((), h2)

noncomputable def f_X12_take (h : jw_H) (x0 : Nat) (x1 : Int32) : Option (Unit × jw_H) :=
 (jw_rc h 12 (some x0)).bind fun a1 =>
 jw_b2 (f_X12_c h a1) fun w3 h2 =>
 if w3 = x1 then (g_X12_take_b14  h2 x0 (1 : Int32))
 else (g_X12_take_b14  h2 x0 (0 : Int32))

set_option maxRecDepth 100000 in
set_option maxHeartbeats 4000000 in
theorem l_X12_take_b14 {hi : jw_H} {h : jw_H} {t0 : Nat} {t1 : Int32} {r : Unit} {h' : jw_H} (hq : g_X12_take_b14  h t0 t1 = some (r, h')) : jw_E 2 uX12_take hi 14 [none, none] [.int t1, .ref t0] h (.inl none) h' := by
  unfold g_X12_take_b14 at hq
  obtain ⟨a1, ea1, hq⟩ := Option.bind_eq_some_iff.mp hq
  obtain ⟨eoa1, eta1⟩ := jw_rc_spec ea1
  obtain ⟨w3, h2, ew3, hq⟩ := jw_b2_spec hq
  refine jw_callV (As := [.int t1]) (S := []) (a := a1) (v := none) dX12_take_14 mt_X12_takeIf in_X12_takeIf se_X12_takeIf lk_X12_166 (c_X12_takeIf ew3) eta1 (by decide) rfl rfl (by decide) (Nat.le_of_ble_eq_true rfl) (by cases eoa1; rfl) ?_
  cases hq
  exact jw_vret dX12_take_17 rfl

set_option maxRecDepth 100000 in
set_option maxHeartbeats 4000000 in
theorem l_X12_take {hi : jw_H} {h : jw_H} {x0 : Nat} {x1 : Int32} {r : Unit} {h' : jw_H} (hq : f_X12_take  h x0 x1 = some (r, h')) : jw_E 2 uX12_take hi 0 [some (.ref x0), some (.int x1)] [] h (.inl none) h' := by
  unfold f_X12_take at hq
  refine jw_aload_n dX12_take_0 (o := (some x0)) rfl ?_
  refine jw_aload_n dX12_take_1 (o := (some x0)) rfl ?_
  obtain ⟨a1, ea1, hq⟩ := Option.bind_eq_some_iff.mp hq
  obtain ⟨eoa1, eta1⟩ := jw_rc_spec ea1
  obtain ⟨w3, h2, ew3, hq⟩ := jw_b2_spec hq
  refine jw_callV (As := []) (S := [.ref x0]) (a := a1) (v := some (.int w3)) dX12_take_2 mt_X12_c in_X12_c se_X12_c lk_X12_162 (c_X12_c ew3) eta1 (by decide) rfl rfl (by decide) (Nat.le_of_ble_eq_true rfl) (by cases eoa1; rfl) ?_
  refine jw_iload_n dX12_take_5 rfl ?_
  rcases jw_if hq with ⟨c4, hq⟩ | ⟨c4, hq⟩
  · refine jw_icmp_ne_f (tgt := 13) dX12_take_6 (by decide) c4 ?_
    refine jw_iconst dX12_take_9 (v := (1 : Int32)) (by decide) ?_
    refine jw_goto (tgt := 14) dX12_take_10 (by decide) ?_
    refine jw_forget [false, false] (L' := [none, none]) rfl ?_
    exact l_X12_take_b14  hq
  · refine jw_icmp_ne_t (tgt := 13) dX12_take_6 (by decide) c4 ?_
    refine jw_iconst dX12_take_13 (v := (0 : Int32)) (by decide) ?_
    refine jw_forget [false, false] (L' := [none, none]) rfl ?_
    exact l_X12_take_b14  hq

theorem c_X12_take {h : jw_H} {x0 : Nat} {x1 : Int32} {r : Unit} {h' : jw_H} (hq : f_X12_take h x0 x1 = some (r, h')) : jw_Con (Cond.code yX12_take cX12_take 2 none) yX12_take 2 [.ref x0, .int x1] h (.inl none) h' :=
  jw_con false (plainFor_of_name (by decide +kernel)) (fun z => nomatch z) (by simp [jw_ent, jw_sl0_nil, jw_sl0_int, jw_sl0_long, jw_sl0_ref, jw_sl0_rf, jw_sl0_scr, List.replicate]) (by simp [jw_sl0_nil, jw_sl0_int, jw_sl0_long, jw_sl0_ref, jw_sl0_rf, jw_sl0_scr]) (l_X12_take hq)


/-! X12_number -/
noncomputable def f_X12_number (h : jw_H) (x0 : Nat) : Option (Unit × jw_H) :=
 (jw_rc h 12 (some x0)).bind fun a1 =>
 jw_b2 (f_X12_c h a1) fun w3 h2 =>
 jw_b2 (f_X12_isDigit h2 w3) fun w5 h4 =>
 (jw_rc h4 12 (some x0)).bind fun a6 =>
 jw_b2 (f_X12_takeIf h4 a6 w5) fun w8 h7 =>
 (jw_gI h7 12 (some x0) 24).bind fun v9 =>
 if 0 ≤ v9 then (some ((), h7))
 else ((jw_rc h7 12 (some x0)).bind fun a11 =>
 jw_b2 (f_X12_c h7 a11) fun w13 h12 =>
 jw_b2 (f_X12_isDigit h12 w13) fun w15 h14 =>
 if w15 = 0 then (some ((), h14))
 else ((jw_gI h14 12 (some x0) 23).bind fun v17 =>
 (jw_pI h14 12 (some x0) 23 (v17 + (1 : Int32))).bind fun h18 =>
 some ((), h18)))

set_option maxRecDepth 100000 in
set_option maxHeartbeats 4000000 in
theorem l_X12_number {hi : jw_H} {h : jw_H} {x0 : Nat} {r : Unit} {h' : jw_H} (hq : f_X12_number  h x0 = some (r, h')) : jw_E 2 uX12_number hi 0 [some (.ref x0)] [] h (.inl none) h' := by
  unfold f_X12_number at hq
  refine jw_aload_n dX12_number_0 (o := (some x0)) rfl ?_
  refine jw_aload_n dX12_number_1 (o := (some x0)) rfl ?_
  obtain ⟨a1, ea1, hq⟩ := Option.bind_eq_some_iff.mp hq
  obtain ⟨eoa1, eta1⟩ := jw_rc_spec ea1
  obtain ⟨w3, h2, ew3, hq⟩ := jw_b2_spec hq
  refine jw_callV (As := []) (S := [.ref x0]) (a := a1) (v := some (.int w3)) dX12_number_2 mt_X12_c in_X12_c se_X12_c lk_X12_162 (c_X12_c ew3) eta1 (by decide) rfl rfl (by decide) (Nat.le_of_ble_eq_true rfl) (by cases eoa1; rfl) ?_
  obtain ⟨w5, h4, ew5, hq⟩ := jw_b2_spec hq
  refine jw_callS (As := [.int w3]) (S := [.ref x0]) (v := some (.int w5)) dX12_number_5 mt_X12_isDigit st_X12_isDigit lk_X12_152 (c_X12_isDigit ew5) rfl (by decide) (Nat.le_of_ble_eq_true rfl) rfl ?_
  obtain ⟨a6, ea6, hq⟩ := Option.bind_eq_some_iff.mp hq
  obtain ⟨eoa6, eta6⟩ := jw_rc_spec ea6
  obtain ⟨w8, h7, ew8, hq⟩ := jw_b2_spec hq
  refine jw_callV (As := [.int w5]) (S := []) (a := a6) (v := none) dX12_number_8 mt_X12_takeIf in_X12_takeIf se_X12_takeIf lk_X12_166 (c_X12_takeIf ew8) eta6 (by decide) rfl rfl (by decide) (Nat.le_of_ble_eq_true rfl) (by cases eoa6; rfl) ?_
  refine jw_aload_n dX12_number_11 (o := (some x0)) rfl ?_
  obtain ⟨v9, ev9, hq⟩ := Option.bind_eq_some_iff.mp hq
  refine jw_getI (o := (some x0)) dX12_number_12 ev9 fl_X12_156 rfl ?_
  rcases jw_if hq with ⟨c10, hq⟩ | ⟨c10, hq⟩
  · refine jw_if_ge_t (tgt := 38) dX12_number_15 (by decide) c10 ?_
    cases hq
    exact jw_vret dX12_number_38 rfl
  · refine jw_if_ge_f (tgt := 38) dX12_number_15 (by decide) c10 ?_
    refine jw_aload_n dX12_number_18 (o := (some x0)) rfl ?_
    obtain ⟨a11, ea11, hq⟩ := Option.bind_eq_some_iff.mp hq
    obtain ⟨eoa11, eta11⟩ := jw_rc_spec ea11
    obtain ⟨w13, h12, ew13, hq⟩ := jw_b2_spec hq
    refine jw_callV (As := []) (S := []) (a := a11) (v := some (.int w13)) dX12_number_19 mt_X12_c in_X12_c se_X12_c lk_X12_162 (c_X12_c ew13) eta11 (by decide) rfl rfl (by decide) (Nat.le_of_ble_eq_true rfl) (by cases eoa11; rfl) ?_
    obtain ⟨w15, h14, ew15, hq⟩ := jw_b2_spec hq
    refine jw_callS (As := [.int w13]) (S := []) (v := some (.int w15)) dX12_number_22 mt_X12_isDigit st_X12_isDigit lk_X12_152 (c_X12_isDigit ew15) rfl (by decide) (Nat.le_of_ble_eq_true rfl) rfl ?_
    rcases jw_if hq with ⟨c16, hq⟩ | ⟨c16, hq⟩
    · refine jw_if_eq_t (tgt := 38) dX12_number_25 (by decide) c16 ?_
      cases hq
      exact jw_vret dX12_number_38 rfl
    · refine jw_if_eq_f (tgt := 38) dX12_number_25 (by decide) c16 ?_
      refine jw_aload_n dX12_number_28 (o := (some x0)) rfl ?_
      refine jw_dup dX12_number_29 rfl ?_
      obtain ⟨v17, ev17, hq⟩ := Option.bind_eq_some_iff.mp hq
      refine jw_getI (o := (some x0)) dX12_number_30 ev17 fl_X12_149 rfl ?_
      refine jw_iconst dX12_number_33 (v := (1 : Int32)) (by decide) ?_
      refine jw_iadd dX12_number_34 ?_
      obtain ⟨h18, eh18, hq⟩ := Option.bind_eq_some_iff.mp hq
      refine jw_putI (o := (some x0)) dX12_number_35 eh18 fl_X12_149 rfl rfl ?_
      cases hq
      exact jw_vret dX12_number_38 rfl

theorem c_X12_number {h : jw_H} {x0 : Nat} {r : Unit} {h' : jw_H} (hq : f_X12_number h x0 = some (r, h')) : jw_Con (Cond.code yX12_number cX12_number 1 none) yX12_number 2 [.ref x0] h (.inl none) h' :=
  jw_con false (plainFor_of_name (by decide +kernel)) (fun z => nomatch z) (by simp [jw_ent, jw_sl0_nil, jw_sl0_int, jw_sl0_long, jw_sl0_ref, jw_sl0_rf, jw_sl0_scr, List.replicate]) (by simp [jw_sl0_nil, jw_sl0_int, jw_sl0_long, jw_sl0_ref, jw_sl0_rf, jw_sl0_scr]) (l_X12_number hq)


/-! X12_plain -/
noncomputable def g_X12_plain_b23 (h : jw_H) (x0 : Nat) (t0 : Nat) (t1 : Int32) : Option (Unit × jw_H) :=
 (jw_rc h 12 (some t0)).bind fun a1 =>
 jw_b2 (f_X12_takeIf h a1 t1) fun w3 h2 =>
 (jw_gI h2 12 (some x0) 26).bind fun v4 =>
 (jw_pI h2 12 (some x0) 26 (v4 + (1 : Int32))).bind fun h5 =>
 some ((), h5)

noncomputable def g_X12_plain_b118 (h : jw_H) (x0 : Nat) : Option (Unit × jw_H) :=
 (jw_rc h 12 (some x0)).bind fun a1 =>
 jw_b2 (f_X12_take h a1 (93 : Int32)) fun w3 h2 =>
 some ((), h2)

noncomputable def g_X12_plain_b88 (k88 : jw_H → Nat → Option (Unit × jw_H)) (h : jw_H) (x0 : Nat) : Option (Unit × jw_H) :=
 (jw_gI h 12 (some x0) 24).bind fun v1 =>
 if 0 ≤ v1 then (g_X12_plain_b118  h x0)
 else ((jw_rc h 12 (some x0)).bind fun a3 =>
 jw_b2 (f_X12_c h a3) fun w5 h4 =>
 jw_b2 (f_X12_isChar h4 w5) fun w7 h6 =>
 if w7 = 0 then (g_X12_plain_b118  h6 x0)
 else ((jw_gI h6 12 (some x0) 23).bind fun v9 =>
 (jw_pI h6 12 (some x0) 23 (v9 + (1 : Int32))).bind fun h10 =>
 k88 h10 x0))

noncomputable def f_X12_plain_b88 (n : Nat) : jw_H → Nat → Option (Unit × jw_H) :=
 Nat.rec (fun _ _ => none) (fun _ k88 => g_X12_plain_b88 k88) n

noncomputable def g_X12_plain_b77 (h : jw_H) (x0 : Nat) : Option (Unit × jw_H) :=
 (jw_rc h 12 (some x0)).bind fun a1 =>
 jw_b2 (f_X12_c h a1) fun w3 h2 =>
 jw_b2 (f_X12_isChar h2 w3) fun w5 h4 =>
 (jw_rc h4 12 (some x0)).bind fun a6 =>
 jw_b2 (f_X12_takeIf h4 a6 w5) fun w8 h7 =>
 f_X12_plain_b88  jw_FU h7 x0

noncomputable def g_X12_plain_b152 (h : jw_H) (t0 : Nat) (t1 : Int32) : Option (Unit × jw_H) :=
 (jw_rc h 12 (some t0)).bind fun a1 =>
 jw_b2 (f_X12_takeIf h a1 t1) fun w3 h2 =>
 some ((), h2)

noncomputable def g_X12_plain_b147 (h : jw_H) (t0 : Nat) : Option (Unit × jw_H) :=
 g_X12_plain_b152  h t0 (1 : Int32)

noncomputable def f_X12_plain (h : jw_H) (x0 : Nat) : Option (Unit × jw_H) :=
 (jw_rc h 12 (some x0)).bind fun a1 =>
 jw_b2 (f_X12_c h a1) fun w3 h2 =>
 if w3 = (42 : Int32) then ((jw_gI h2 12 (some x0) 26).bind fun v27 =>
 if (2 : Int32) ≤ v27 then (g_X12_plain_b23  h2 x0 x0 (0 : Int32))
 else (g_X12_plain_b23  h2 x0 x0 (1 : Int32)))
 else ((jw_rc h2 12 (some x0)).bind fun a5 =>
 jw_b2 (f_X12_c h2 a5) fun w7 h6 =>
 if w7 = (91 : Int32) then ((jw_gI h6 12 (some x0) 23).bind fun v19 =>
 (jw_pI h6 12 (some x0) 23 (v19 + (1 : Int32))).bind fun h20 =>
 (jw_rc h20 12 (some x0)).bind fun a21 =>
 jw_b2 (f_X12_c h20 a21) fun w23 h22 =>
 if w23 = (94 : Int32) then ((jw_gI h22 12 (some x0) 23).bind fun v25 =>
 (jw_pI h22 12 (some x0) 23 (v25 + (1 : Int32))).bind fun h26 =>
 g_X12_plain_b77  h26 x0)
 else (g_X12_plain_b77  h22 x0))
 else ((jw_rc h6 12 (some x0)).bind fun a9 =>
 jw_b2 (f_X12_c h6 a9) fun w11 h10 =>
 jw_b2 (f_X12_isChar h10 w11) fun w13 h12 =>
 if w13 = 0 then ((jw_rc h12 12 (some x0)).bind fun a15 =>
 jw_b2 (f_X12_c h12 a15) fun w17 h16 =>
 if w17 = (46 : Int32) then (g_X12_plain_b147  h16 x0)
 else (g_X12_plain_b152  h16 x0 (0 : Int32)))
 else (g_X12_plain_b147  h12 x0)))

set_option maxRecDepth 100000 in
set_option maxHeartbeats 4000000 in
theorem l_X12_plain_b23 {hi : jw_H} {h : jw_H} {x0 : Nat} {t0 : Nat} {t1 : Int32} {r : Unit} {h' : jw_H} (hq : g_X12_plain_b23  h x0 t0 t1 = some (r, h')) : jw_E 3 uX12_plain hi 23 [some (.ref x0)] [.int t1, .ref t0] h (.inl none) h' := by
  unfold g_X12_plain_b23 at hq
  obtain ⟨a1, ea1, hq⟩ := Option.bind_eq_some_iff.mp hq
  obtain ⟨eoa1, eta1⟩ := jw_rc_spec ea1
  obtain ⟨w3, h2, ew3, hq⟩ := jw_b2_spec hq
  refine jw_callV (As := [.int t1]) (S := []) (a := a1) (v := none) dX12_plain_23 mt_X12_takeIf in_X12_takeIf se_X12_takeIf lk_X12_166 (c_X12_takeIf ew3) eta1 (by decide) rfl rfl (by decide) (Nat.le_of_ble_eq_true rfl) (by cases eoa1; rfl) ?_
  refine jw_aload_n dX12_plain_26 (o := (some x0)) rfl ?_
  refine jw_dup dX12_plain_27 rfl ?_
  obtain ⟨v4, ev4, hq⟩ := Option.bind_eq_some_iff.mp hq
  refine jw_getI (o := (some x0)) dX12_plain_28 ev4 fl_X12_170 rfl ?_
  refine jw_iconst dX12_plain_31 (v := (1 : Int32)) (by decide) ?_
  refine jw_iadd dX12_plain_32 ?_
  obtain ⟨h5, eh5, hq⟩ := Option.bind_eq_some_iff.mp hq
  refine jw_putI (o := (some x0)) dX12_plain_33 eh5 fl_X12_170 rfl rfl ?_
  refine jw_goto (tgt := 155) dX12_plain_36 (by decide) ?_
  cases hq
  exact jw_vret dX12_plain_155 rfl

set_option maxRecDepth 100000 in
set_option maxHeartbeats 4000000 in
theorem l_X12_plain_b118 {hi : jw_H} {h : jw_H} {x0 : Nat} {r : Unit} {h' : jw_H} (hq : g_X12_plain_b118  h x0 = some (r, h')) : jw_E 3 uX12_plain hi 118 [some (.ref x0)] [] h (.inl none) h' := by
  unfold g_X12_plain_b118 at hq
  refine jw_aload_n dX12_plain_118 (o := (some x0)) rfl ?_
  refine jw_bipush dX12_plain_119 (v := (93 : Int32)) (by decide) ?_
  obtain ⟨a1, ea1, hq⟩ := Option.bind_eq_some_iff.mp hq
  obtain ⟨eoa1, eta1⟩ := jw_rc_spec ea1
  obtain ⟨w3, h2, ew3, hq⟩ := jw_b2_spec hq
  refine jw_callV (As := [.int (93 : Int32)]) (S := []) (a := a1) (v := none) dX12_plain_121 mt_X12_take in_X12_take se_X12_take lk_X12_176 (c_X12_take ew3) eta1 (by decide) rfl rfl (by decide) (Nat.le_of_ble_eq_true rfl) (by cases eoa1; rfl) ?_
  refine jw_goto (tgt := 155) dX12_plain_124 (by decide) ?_
  cases hq
  exact jw_vret dX12_plain_155 rfl

set_option maxRecDepth 100000 in
set_option maxHeartbeats 4000000 in
theorem l_X12_plain_b88g {hi : jw_H} {k88 : jw_H → Nat → Option (Unit × jw_H)} (hk88 : ∀ (h : jw_H) (x0 : Nat) (r : Unit) (h' : jw_H), k88 h x0 = some (r, h') → jw_E 3 uX12_plain hi 88 [some (.ref x0)] [] h (.inl none) h') {h : jw_H} {x0 : Nat} {r : Unit} {h' : jw_H} (hq : g_X12_plain_b88 k88 h x0 = some (r, h')) : jw_E 3 uX12_plain hi 88 [some (.ref x0)] [] h (.inl none) h' := by
  unfold g_X12_plain_b88 at hq
  refine jw_aload_n dX12_plain_88 (o := (some x0)) rfl ?_
  obtain ⟨v1, ev1, hq⟩ := Option.bind_eq_some_iff.mp hq
  refine jw_getI (o := (some x0)) dX12_plain_89 ev1 fl_X12_156 rfl ?_
  rcases jw_if hq with ⟨c2, hq⟩ | ⟨c2, hq⟩
  · refine jw_if_ge_t (tgt := 118) dX12_plain_92 (by decide) c2 ?_
    exact l_X12_plain_b118  hq
  · refine jw_if_ge_f (tgt := 118) dX12_plain_92 (by decide) c2 ?_
    refine jw_aload_n dX12_plain_95 (o := (some x0)) rfl ?_
    obtain ⟨a3, ea3, hq⟩ := Option.bind_eq_some_iff.mp hq
    obtain ⟨eoa3, eta3⟩ := jw_rc_spec ea3
    obtain ⟨w5, h4, ew5, hq⟩ := jw_b2_spec hq
    refine jw_callV (As := []) (S := []) (a := a3) (v := some (.int w5)) dX12_plain_96 mt_X12_c in_X12_c se_X12_c lk_X12_162 (c_X12_c ew5) eta3 (by decide) rfl rfl (by decide) (Nat.le_of_ble_eq_true rfl) (by cases eoa3; rfl) ?_
    obtain ⟨w7, h6, ew7, hq⟩ := jw_b2_spec hq
    refine jw_callS (As := [.int w5]) (S := []) (v := some (.int w7)) dX12_plain_99 mt_X12_isChar st_X12_isChar lk_X12_173 (c_X12_isChar ew7) rfl (by decide) (Nat.le_of_ble_eq_true rfl) rfl ?_
    rcases jw_if hq with ⟨c8, hq⟩ | ⟨c8, hq⟩
    · refine jw_if_eq_t (tgt := 118) dX12_plain_102 (by decide) c8 ?_
      exact l_X12_plain_b118  hq
    · refine jw_if_eq_f (tgt := 118) dX12_plain_102 (by decide) c8 ?_
      refine jw_aload_n dX12_plain_105 (o := (some x0)) rfl ?_
      refine jw_dup dX12_plain_106 rfl ?_
      obtain ⟨v9, ev9, hq⟩ := Option.bind_eq_some_iff.mp hq
      refine jw_getI (o := (some x0)) dX12_plain_107 ev9 fl_X12_149 rfl ?_
      refine jw_iconst dX12_plain_110 (v := (1 : Int32)) (by decide) ?_
      refine jw_iadd dX12_plain_111 ?_
      obtain ⟨h10, eh10, hq⟩ := Option.bind_eq_some_iff.mp hq
      refine jw_putI (o := (some x0)) dX12_plain_112 eh10 fl_X12_149 rfl rfl ?_
      refine jw_goto (tgt := 88) dX12_plain_115 (by decide) ?_
      exact hk88 _ _ _ _ hq

theorem l_X12_plain_b88 {hi : jw_H} : ∀ (n : Nat) (h : jw_H) (x0 : Nat) (r : Unit) (h' : jw_H), f_X12_plain_b88  n h x0 = some (r, h') → jw_E 3 uX12_plain hi 88 [some (.ref x0)] [] h (.inl none) h' := by
  intro n
  induction n with
  | zero => intro h x0 r h' hq; exact nomatch hq
  | succ n ih => intro h x0 r h' hq; exact l_X12_plain_b88g ih hq

set_option maxRecDepth 100000 in
set_option maxHeartbeats 4000000 in
theorem l_X12_plain_b77 {hi : jw_H} {h : jw_H} {x0 : Nat} {r : Unit} {h' : jw_H} (hq : g_X12_plain_b77  h x0 = some (r, h')) : jw_E 3 uX12_plain hi 77 [some (.ref x0)] [] h (.inl none) h' := by
  unfold g_X12_plain_b77 at hq
  refine jw_aload_n dX12_plain_77 (o := (some x0)) rfl ?_
  refine jw_aload_n dX12_plain_78 (o := (some x0)) rfl ?_
  obtain ⟨a1, ea1, hq⟩ := Option.bind_eq_some_iff.mp hq
  obtain ⟨eoa1, eta1⟩ := jw_rc_spec ea1
  obtain ⟨w3, h2, ew3, hq⟩ := jw_b2_spec hq
  refine jw_callV (As := []) (S := [.ref x0]) (a := a1) (v := some (.int w3)) dX12_plain_79 mt_X12_c in_X12_c se_X12_c lk_X12_162 (c_X12_c ew3) eta1 (by decide) rfl rfl (by decide) (Nat.le_of_ble_eq_true rfl) (by cases eoa1; rfl) ?_
  obtain ⟨w5, h4, ew5, hq⟩ := jw_b2_spec hq
  refine jw_callS (As := [.int w3]) (S := [.ref x0]) (v := some (.int w5)) dX12_plain_82 mt_X12_isChar st_X12_isChar lk_X12_173 (c_X12_isChar ew5) rfl (by decide) (Nat.le_of_ble_eq_true rfl) rfl ?_
  obtain ⟨a6, ea6, hq⟩ := Option.bind_eq_some_iff.mp hq
  obtain ⟨eoa6, eta6⟩ := jw_rc_spec ea6
  obtain ⟨w8, h7, ew8, hq⟩ := jw_b2_spec hq
  refine jw_callV (As := [.int w5]) (S := []) (a := a6) (v := none) dX12_plain_85 mt_X12_takeIf in_X12_takeIf se_X12_takeIf lk_X12_166 (c_X12_takeIf ew8) eta6 (by decide) rfl rfl (by decide) (Nat.le_of_ble_eq_true rfl) (by cases eoa6; rfl) ?_
  exact l_X12_plain_b88  jw_FU _ _ _ _ hq

set_option maxRecDepth 100000 in
set_option maxHeartbeats 4000000 in
theorem l_X12_plain_b152 {hi : jw_H} {h : jw_H} {t0 : Nat} {t1 : Int32} {r : Unit} {h' : jw_H} (hq : g_X12_plain_b152  h t0 t1 = some (r, h')) : jw_E 3 uX12_plain hi 152 [none] [.int t1, .ref t0] h (.inl none) h' := by
  unfold g_X12_plain_b152 at hq
  obtain ⟨a1, ea1, hq⟩ := Option.bind_eq_some_iff.mp hq
  obtain ⟨eoa1, eta1⟩ := jw_rc_spec ea1
  obtain ⟨w3, h2, ew3, hq⟩ := jw_b2_spec hq
  refine jw_callV (As := [.int t1]) (S := []) (a := a1) (v := none) dX12_plain_152 mt_X12_takeIf in_X12_takeIf se_X12_takeIf lk_X12_166 (c_X12_takeIf ew3) eta1 (by decide) rfl rfl (by decide) (Nat.le_of_ble_eq_true rfl) (by cases eoa1; rfl) ?_
  cases hq
  exact jw_vret dX12_plain_155 rfl

set_option maxRecDepth 100000 in
set_option maxHeartbeats 4000000 in
theorem l_X12_plain_b147 {hi : jw_H} {h : jw_H} {t0 : Nat} {r : Unit} {h' : jw_H} (hq : g_X12_plain_b147  h t0 = some (r, h')) : jw_E 3 uX12_plain hi 147 [none] [.ref t0] h (.inl none) h' := by
  unfold g_X12_plain_b147 at hq
  refine jw_iconst dX12_plain_147 (v := (1 : Int32)) (by decide) ?_
  refine jw_goto (tgt := 152) dX12_plain_148 (by decide) ?_
  exact l_X12_plain_b152  hq

set_option maxRecDepth 100000 in
set_option maxHeartbeats 4000000 in
theorem l_X12_plain {hi : jw_H} {h : jw_H} {x0 : Nat} {r : Unit} {h' : jw_H} (hq : f_X12_plain  h x0 = some (r, h')) : jw_E 3 uX12_plain hi 0 [some (.ref x0)] [] h (.inl none) h' := by
  unfold f_X12_plain at hq
  refine jw_aload_n dX12_plain_0 (o := (some x0)) rfl ?_
  obtain ⟨a1, ea1, hq⟩ := Option.bind_eq_some_iff.mp hq
  obtain ⟨eoa1, eta1⟩ := jw_rc_spec ea1
  obtain ⟨w3, h2, ew3, hq⟩ := jw_b2_spec hq
  refine jw_callV (As := []) (S := []) (a := a1) (v := some (.int w3)) dX12_plain_1 mt_X12_c in_X12_c se_X12_c lk_X12_162 (c_X12_c ew3) eta1 (by decide) rfl rfl (by decide) (Nat.le_of_ble_eq_true rfl) (by cases eoa1; rfl) ?_
  refine jw_bipush dX12_plain_4 (v := (42 : Int32)) (by decide) ?_
  rcases jw_if hq with ⟨c4, hq⟩ | ⟨c4, hq⟩
  · refine jw_icmp_ne_f (tgt := 39) dX12_plain_6 (by decide) c4 ?_
    refine jw_aload_n dX12_plain_9 (o := (some x0)) rfl ?_
    refine jw_aload_n dX12_plain_10 (o := (some x0)) rfl ?_
    obtain ⟨v27, ev27, hq⟩ := Option.bind_eq_some_iff.mp hq
    refine jw_getI (o := (some x0)) dX12_plain_11 ev27 fl_X12_170 rfl ?_
    refine jw_iconst dX12_plain_14 (v := (2 : Int32)) (by decide) ?_
    rcases jw_if hq with ⟨c28, hq⟩ | ⟨c28, hq⟩
    · refine jw_icmp_ge_t (tgt := 22) dX12_plain_15 (by decide) c28 ?_
      refine jw_iconst dX12_plain_22 (v := (0 : Int32)) (by decide) ?_
      exact l_X12_plain_b23  hq
    · refine jw_icmp_ge_f (tgt := 22) dX12_plain_15 (by decide) c28 ?_
      refine jw_iconst dX12_plain_18 (v := (1 : Int32)) (by decide) ?_
      refine jw_goto (tgt := 23) dX12_plain_19 (by decide) ?_
      exact l_X12_plain_b23  hq
  · refine jw_icmp_ne_t (tgt := 39) dX12_plain_6 (by decide) c4 ?_
    refine jw_aload_n dX12_plain_39 (o := (some x0)) rfl ?_
    obtain ⟨a5, ea5, hq⟩ := Option.bind_eq_some_iff.mp hq
    obtain ⟨eoa5, eta5⟩ := jw_rc_spec ea5
    obtain ⟨w7, h6, ew7, hq⟩ := jw_b2_spec hq
    refine jw_callV (As := []) (S := []) (a := a5) (v := some (.int w7)) dX12_plain_40 mt_X12_c in_X12_c se_X12_c lk_X12_162 (c_X12_c ew7) eta5 (by decide) rfl rfl (by decide) (Nat.le_of_ble_eq_true rfl) (by cases eoa5; rfl) ?_
    refine jw_bipush dX12_plain_43 (v := (91 : Int32)) (by decide) ?_
    rcases jw_if hq with ⟨c8, hq⟩ | ⟨c8, hq⟩
    · refine jw_icmp_ne_f (tgt := 127) dX12_plain_45 (by decide) c8 ?_
      refine jw_aload_n dX12_plain_48 (o := (some x0)) rfl ?_
      refine jw_dup dX12_plain_49 rfl ?_
      obtain ⟨v19, ev19, hq⟩ := Option.bind_eq_some_iff.mp hq
      refine jw_getI (o := (some x0)) dX12_plain_50 ev19 fl_X12_149 rfl ?_
      refine jw_iconst dX12_plain_53 (v := (1 : Int32)) (by decide) ?_
      refine jw_iadd dX12_plain_54 ?_
      obtain ⟨h20, eh20, hq⟩ := Option.bind_eq_some_iff.mp hq
      refine jw_putI (o := (some x0)) dX12_plain_55 eh20 fl_X12_149 rfl rfl ?_
      refine jw_aload_n dX12_plain_58 (o := (some x0)) rfl ?_
      obtain ⟨a21, ea21, hq⟩ := Option.bind_eq_some_iff.mp hq
      obtain ⟨eoa21, eta21⟩ := jw_rc_spec ea21
      obtain ⟨w23, h22, ew23, hq⟩ := jw_b2_spec hq
      refine jw_callV (As := []) (S := []) (a := a21) (v := some (.int w23)) dX12_plain_59 mt_X12_c in_X12_c se_X12_c lk_X12_162 (c_X12_c ew23) eta21 (by decide) rfl rfl (by decide) (Nat.le_of_ble_eq_true rfl) (by cases eoa21; rfl) ?_
      refine jw_bipush dX12_plain_62 (v := (94 : Int32)) (by decide) ?_
      rcases jw_if hq with ⟨c24, hq⟩ | ⟨c24, hq⟩
      · refine jw_icmp_ne_f (tgt := 77) dX12_plain_64 (by decide) c24 ?_
        refine jw_aload_n dX12_plain_67 (o := (some x0)) rfl ?_
        refine jw_dup dX12_plain_68 rfl ?_
        obtain ⟨v25, ev25, hq⟩ := Option.bind_eq_some_iff.mp hq
        refine jw_getI (o := (some x0)) dX12_plain_69 ev25 fl_X12_149 rfl ?_
        refine jw_iconst dX12_plain_72 (v := (1 : Int32)) (by decide) ?_
        refine jw_iadd dX12_plain_73 ?_
        obtain ⟨h26, eh26, hq⟩ := Option.bind_eq_some_iff.mp hq
        refine jw_putI (o := (some x0)) dX12_plain_74 eh26 fl_X12_149 rfl rfl ?_
        exact l_X12_plain_b77  hq
      · refine jw_icmp_ne_t (tgt := 77) dX12_plain_64 (by decide) c24 ?_
        exact l_X12_plain_b77  hq
    · refine jw_icmp_ne_t (tgt := 127) dX12_plain_45 (by decide) c8 ?_
      refine jw_aload_n dX12_plain_127 (o := (some x0)) rfl ?_
      refine jw_aload_n dX12_plain_128 (o := (some x0)) rfl ?_
      obtain ⟨a9, ea9, hq⟩ := Option.bind_eq_some_iff.mp hq
      obtain ⟨eoa9, eta9⟩ := jw_rc_spec ea9
      obtain ⟨w11, h10, ew11, hq⟩ := jw_b2_spec hq
      refine jw_callV (As := []) (S := [.ref x0]) (a := a9) (v := some (.int w11)) dX12_plain_129 mt_X12_c in_X12_c se_X12_c lk_X12_162 (c_X12_c ew11) eta9 (by decide) rfl rfl (by decide) (Nat.le_of_ble_eq_true rfl) (by cases eoa9; rfl) ?_
      obtain ⟨w13, h12, ew13, hq⟩ := jw_b2_spec hq
      refine jw_callS (As := [.int w11]) (S := [.ref x0]) (v := some (.int w13)) dX12_plain_132 mt_X12_isChar st_X12_isChar lk_X12_173 (c_X12_isChar ew13) rfl (by decide) (Nat.le_of_ble_eq_true rfl) rfl ?_
      rcases jw_if hq with ⟨c14, hq⟩ | ⟨c14, hq⟩
      · refine jw_if_ne_f (tgt := 147) dX12_plain_135 (by decide) c14 ?_
        refine jw_aload_n dX12_plain_138 (o := (some x0)) rfl ?_
        obtain ⟨a15, ea15, hq⟩ := Option.bind_eq_some_iff.mp hq
        obtain ⟨eoa15, eta15⟩ := jw_rc_spec ea15
        obtain ⟨w17, h16, ew17, hq⟩ := jw_b2_spec hq
        refine jw_callV (As := []) (S := [.ref x0]) (a := a15) (v := some (.int w17)) dX12_plain_139 mt_X12_c in_X12_c se_X12_c lk_X12_162 (c_X12_c ew17) eta15 (by decide) rfl rfl (by decide) (Nat.le_of_ble_eq_true rfl) (by cases eoa15; rfl) ?_
        refine jw_bipush dX12_plain_142 (v := (46 : Int32)) (by decide) ?_
        rcases jw_if hq with ⟨c18, hq⟩ | ⟨c18, hq⟩
        · refine jw_icmp_ne_f (tgt := 151) dX12_plain_144 (by decide) c18 ?_
          refine jw_forget [false] (L' := [none]) rfl ?_
          exact l_X12_plain_b147  hq
        · refine jw_icmp_ne_t (tgt := 151) dX12_plain_144 (by decide) c18 ?_
          refine jw_iconst dX12_plain_151 (v := (0 : Int32)) (by decide) ?_
          refine jw_forget [false] (L' := [none]) rfl ?_
          exact l_X12_plain_b152  hq
      · refine jw_if_ne_t (tgt := 147) dX12_plain_135 (by decide) c14 ?_
        refine jw_forget [false] (L' := [none]) rfl ?_
        exact l_X12_plain_b147  hq

theorem c_X12_plain {h : jw_H} {x0 : Nat} {r : Unit} {h' : jw_H} (hq : f_X12_plain h x0 = some (r, h')) : jw_Con (Cond.code yX12_plain cX12_plain 1 none) yX12_plain 3 [.ref x0] h (.inl none) h' :=
  jw_con false (plainFor_of_name (by decide +kernel)) (fun z => nomatch z) (by simp [jw_ent, jw_sl0_nil, jw_sl0_int, jw_sl0_long, jw_sl0_ref, jw_sl0_rf, jw_sl0_scr, List.replicate]) (by simp [jw_sl0_nil, jw_sl0_int, jw_sl0_long, jw_sl0_ref, jw_sl0_rf, jw_sl0_scr]) (l_X12_plain hq)


/-! X12_group -/
noncomputable def g_X12_group_b58 (h : jw_H) (x0 : Nat) : Option (Unit × jw_H) :=
 (jw_rc h 12 (some x0)).bind fun a1 =>
 jw_b2 (f_X12_take h a1 (41 : Int32)) fun w3 h2 =>
 (jw_gI h2 12 (some x0) 25).bind fun v4 =>
 (jw_pI h2 12 (some x0) 25 (v4 + (1 : Int32))).bind fun h5 =>
 some ((), h5)

noncomputable def g_X12_group_b19 (k19 : jw_H → Nat → Int32 → Option (Unit × jw_H)) (h : jw_H) (x0 : Nat) (x1 : Int32) : Option (Unit × jw_H) :=
 (jw_gI h 12 (some x0) 24).bind fun v1 =>
 if 0 ≤ v1 then (g_X12_group_b58  h x0)
 else ((jw_rc h 12 (some x0)).bind fun a3 =>
 jw_b2 (f_X12_c h a3) fun w5 h4 =>
 if w5 = (41 : Int32) then (g_X12_group_b58  h4 x0)
 else (if x1 = (12 : Int32) then ((jw_rc h4 12 (some x0)).bind fun a11 =>
 jw_b2 (f_X12_fail h4 a11) fun w13 h12 =>
 k19 h12 x0 x1)
 else ((jw_rc h4 12 (some x0)).bind fun a8 =>
 jw_b2 (f_X12_plain h4 a8) fun w10 h9 =>
 k19 h9 x0 (x1 + (1 : Int32)))))

noncomputable def f_X12_group_b19 (n : Nat) : jw_H → Nat → Int32 → Option (Unit × jw_H) :=
 Nat.rec (fun _ _ _ => none) (fun _ k19 => g_X12_group_b19 k19) n

noncomputable def g_X12_group_b14 (h : jw_H) (x0 : Nat) (t0 : Nat) (t1 : Int32) : Option (Unit × jw_H) :=
 (jw_rc h 12 (some t0)).bind fun a1 =>
 jw_b2 (f_X12_takeIf h a1 t1) fun w3 h2 =>
 f_X12_group_b19  jw_FU h2 x0 (0 : Int32)

noncomputable def f_X12_group (h : jw_H) (x0 : Nat) : Option (Unit × jw_H) :=
 (jw_gI h 12 (some x0) 25).bind fun v1 =>
 if (2 : Int32) ≤ v1 then (g_X12_group_b14  h x0 x0 (0 : Int32))
 else (g_X12_group_b14  h x0 x0 (1 : Int32))

set_option maxRecDepth 100000 in
set_option maxHeartbeats 4000000 in
theorem l_X12_group_b58 {hi : jw_H} {h : jw_H} {x0 : Nat} {r : Unit} {h' : jw_H} (hq : g_X12_group_b58  h x0 = some (r, h')) : jw_E 4 uX12_group hi 58 [some (.ref x0), none] [] h (.inl none) h' := by
  unfold g_X12_group_b58 at hq
  refine jw_aload_n dX12_group_58 (o := (some x0)) rfl ?_
  refine jw_bipush dX12_group_59 (v := (41 : Int32)) (by decide) ?_
  obtain ⟨a1, ea1, hq⟩ := Option.bind_eq_some_iff.mp hq
  obtain ⟨eoa1, eta1⟩ := jw_rc_spec ea1
  obtain ⟨w3, h2, ew3, hq⟩ := jw_b2_spec hq
  refine jw_callV (As := [.int (41 : Int32)]) (S := []) (a := a1) (v := none) dX12_group_61 mt_X12_take in_X12_take se_X12_take lk_X12_176 (c_X12_take ew3) eta1 (by decide) rfl rfl (by decide) (Nat.le_of_ble_eq_true rfl) (by cases eoa1; rfl) ?_
  refine jw_aload_n dX12_group_64 (o := (some x0)) rfl ?_
  refine jw_dup dX12_group_65 rfl ?_
  obtain ⟨v4, ev4, hq⟩ := Option.bind_eq_some_iff.mp hq
  refine jw_getI (o := (some x0)) dX12_group_66 ev4 fl_X12_179 rfl ?_
  refine jw_iconst dX12_group_69 (v := (1 : Int32)) (by decide) ?_
  refine jw_iadd dX12_group_70 ?_
  obtain ⟨h5, eh5, hq⟩ := Option.bind_eq_some_iff.mp hq
  refine jw_putI (o := (some x0)) dX12_group_71 eh5 fl_X12_179 rfl rfl ?_
  cases hq
  exact jw_vret dX12_group_74 rfl

set_option maxRecDepth 100000 in
set_option maxHeartbeats 4000000 in
theorem l_X12_group_b19g {hi : jw_H} {k19 : jw_H → Nat → Int32 → Option (Unit × jw_H)} (hk19 : ∀ (h : jw_H) (x0 : Nat) (x1 : Int32) (r : Unit) (h' : jw_H), k19 h x0 x1 = some (r, h') → jw_E 4 uX12_group hi 19 [some (.ref x0), some (.int x1)] [] h (.inl none) h') {h : jw_H} {x0 : Nat} {x1 : Int32} {r : Unit} {h' : jw_H} (hq : g_X12_group_b19 k19 h x0 x1 = some (r, h')) : jw_E 4 uX12_group hi 19 [some (.ref x0), some (.int x1)] [] h (.inl none) h' := by
  unfold g_X12_group_b19 at hq
  refine jw_aload_n dX12_group_19 (o := (some x0)) rfl ?_
  obtain ⟨v1, ev1, hq⟩ := Option.bind_eq_some_iff.mp hq
  refine jw_getI (o := (some x0)) dX12_group_20 ev1 fl_X12_156 rfl ?_
  rcases jw_if hq with ⟨c2, hq⟩ | ⟨c2, hq⟩
  · refine jw_if_ge_t (tgt := 58) dX12_group_23 (by decide) c2 ?_
    refine jw_forget [true, false] (L' := [some (.ref x0), none]) rfl ?_
    exact l_X12_group_b58  hq
  · refine jw_if_ge_f (tgt := 58) dX12_group_23 (by decide) c2 ?_
    refine jw_aload_n dX12_group_26 (o := (some x0)) rfl ?_
    obtain ⟨a3, ea3, hq⟩ := Option.bind_eq_some_iff.mp hq
    obtain ⟨eoa3, eta3⟩ := jw_rc_spec ea3
    obtain ⟨w5, h4, ew5, hq⟩ := jw_b2_spec hq
    refine jw_callV (As := []) (S := []) (a := a3) (v := some (.int w5)) dX12_group_27 mt_X12_c in_X12_c se_X12_c lk_X12_162 (c_X12_c ew5) eta3 (by decide) rfl rfl (by decide) (Nat.le_of_ble_eq_true rfl) (by cases eoa3; rfl) ?_
    refine jw_bipush dX12_group_30 (v := (41 : Int32)) (by decide) ?_
    rcases jw_if hq with ⟨c6, hq⟩ | ⟨c6, hq⟩
    · refine jw_icmp_eq_t (tgt := 58) dX12_group_32 (by decide) c6 ?_
      refine jw_forget [true, false] (L' := [some (.ref x0), none]) rfl ?_
      exact l_X12_group_b58  hq
    · refine jw_icmp_eq_f (tgt := 58) dX12_group_32 (by decide) c6 ?_
      refine jw_iload_n dX12_group_35 rfl ?_
      refine jw_bipush dX12_group_36 (v := (12 : Int32)) (by decide) ?_
      rcases jw_if hq with ⟨c7, hq⟩ | ⟨c7, hq⟩
      · refine jw_icmp_ne_f (tgt := 48) dX12_group_38 (by decide) c7 ?_
        refine jw_aload_n dX12_group_41 (o := (some x0)) rfl ?_
        obtain ⟨a11, ea11, hq⟩ := Option.bind_eq_some_iff.mp hq
        obtain ⟨eoa11, eta11⟩ := jw_rc_spec ea11
        obtain ⟨w13, h12, ew13, hq⟩ := jw_b2_spec hq
        refine jw_callV (As := []) (S := []) (a := a11) (v := none) dX12_group_42 mt_X12_fail in_X12_fail se_X12_fail lk_X12_159 (c_X12_fail ew13) eta11 (by decide) rfl rfl (by decide) (Nat.le_of_ble_eq_true rfl) (by cases eoa11; rfl) ?_
        refine jw_goto (tgt := 19) dX12_group_45 (by decide) ?_
        exact hk19 _ _ _ _ _ hq
      · refine jw_icmp_ne_t (tgt := 48) dX12_group_38 (by decide) c7 ?_
        refine jw_aload_n dX12_group_48 (o := (some x0)) rfl ?_
        obtain ⟨a8, ea8, hq⟩ := Option.bind_eq_some_iff.mp hq
        obtain ⟨eoa8, eta8⟩ := jw_rc_spec ea8
        obtain ⟨w10, h9, ew10, hq⟩ := jw_b2_spec hq
        refine jw_callV (As := []) (S := []) (a := a8) (v := none) dX12_group_49 mt_X12_plain in_X12_plain se_X12_plain lk_X12_182 (c_X12_plain ew10) eta8 (by decide) rfl rfl (by decide) (Nat.le_of_ble_eq_true rfl) (by cases eoa8; rfl) ?_
        refine jw_iinc (L' := [some (.ref x0), some (.int (x1 + (1 : Int32)))]) dX12_group_52 rfl (v := (1 : Int32)) (by decide) (Nat.le_of_ble_eq_true rfl) rfl ?_
        refine jw_goto (tgt := 19) dX12_group_55 (by decide) ?_
        exact hk19 _ _ _ _ _ hq

theorem l_X12_group_b19 {hi : jw_H} : ∀ (n : Nat) (h : jw_H) (x0 : Nat) (x1 : Int32) (r : Unit) (h' : jw_H), f_X12_group_b19  n h x0 x1 = some (r, h') → jw_E 4 uX12_group hi 19 [some (.ref x0), some (.int x1)] [] h (.inl none) h' := by
  intro n
  induction n with
  | zero => intro h x0 x1 r h' hq; exact nomatch hq
  | succ n ih => intro h x0 x1 r h' hq; exact l_X12_group_b19g ih hq

set_option maxRecDepth 100000 in
set_option maxHeartbeats 4000000 in
theorem l_X12_group_b14 {hi : jw_H} {h : jw_H} {x0 : Nat} {t0 : Nat} {t1 : Int32} {r : Unit} {h' : jw_H} (hq : g_X12_group_b14  h x0 t0 t1 = some (r, h')) : jw_E 4 uX12_group hi 14 [some (.ref x0), none] [.int t1, .ref t0] h (.inl none) h' := by
  unfold g_X12_group_b14 at hq
  obtain ⟨a1, ea1, hq⟩ := Option.bind_eq_some_iff.mp hq
  obtain ⟨eoa1, eta1⟩ := jw_rc_spec ea1
  obtain ⟨w3, h2, ew3, hq⟩ := jw_b2_spec hq
  refine jw_callV (As := [.int t1]) (S := []) (a := a1) (v := none) dX12_group_14 mt_X12_takeIf in_X12_takeIf se_X12_takeIf lk_X12_166 (c_X12_takeIf ew3) eta1 (by decide) rfl rfl (by decide) (Nat.le_of_ble_eq_true rfl) (by cases eoa1; rfl) ?_
  refine jw_iconst dX12_group_17 (v := (0 : Int32)) (by decide) ?_
  refine jw_istore_n (L' := [some (.ref x0), some (.int (0 : Int32))]) dX12_group_18 (Nat.le_of_ble_eq_true rfl) rfl ?_
  exact l_X12_group_b19  jw_FU _ _ _ _ _ hq

set_option maxRecDepth 100000 in
set_option maxHeartbeats 4000000 in
theorem l_X12_group {hi : jw_H} {h : jw_H} {x0 : Nat} {r : Unit} {h' : jw_H} (hq : f_X12_group  h x0 = some (r, h')) : jw_E 4 uX12_group hi 0 [some (.ref x0), none] [] h (.inl none) h' := by
  unfold f_X12_group at hq
  refine jw_aload_n dX12_group_0 (o := (some x0)) rfl ?_
  refine jw_aload_n dX12_group_1 (o := (some x0)) rfl ?_
  obtain ⟨v1, ev1, hq⟩ := Option.bind_eq_some_iff.mp hq
  refine jw_getI (o := (some x0)) dX12_group_2 ev1 fl_X12_179 rfl ?_
  refine jw_iconst dX12_group_5 (v := (2 : Int32)) (by decide) ?_
  rcases jw_if hq with ⟨c2, hq⟩ | ⟨c2, hq⟩
  · refine jw_icmp_ge_t (tgt := 13) dX12_group_6 (by decide) c2 ?_
    refine jw_iconst dX12_group_13 (v := (0 : Int32)) (by decide) ?_
    exact l_X12_group_b14  hq
  · refine jw_icmp_ge_f (tgt := 13) dX12_group_6 (by decide) c2 ?_
    refine jw_iconst dX12_group_9 (v := (1 : Int32)) (by decide) ?_
    refine jw_goto (tgt := 14) dX12_group_10 (by decide) ?_
    exact l_X12_group_b14  hq

theorem c_X12_group {h : jw_H} {x0 : Nat} {r : Unit} {h' : jw_H} (hq : f_X12_group h x0 = some (r, h')) : jw_Con (Cond.code yX12_group cX12_group 2 none) yX12_group 4 [.ref x0] h (.inl none) h' :=
  jw_con false (plainFor_of_name (by decide +kernel)) (fun z => nomatch z) (by simp [jw_ent, jw_sl0_nil, jw_sl0_int, jw_sl0_long, jw_sl0_ref, jw_sl0_rf, jw_sl0_scr, List.replicate]) (by simp [jw_sl0_nil, jw_sl0_int, jw_sl0_long, jw_sl0_ref, jw_sl0_rf, jw_sl0_scr]) (l_X12_group hq)


/-! X12_item -/
noncomputable def g_X12_item_b70 (h : jw_H) (t0 : Nat) (t1 : Int32) : Option (Unit × jw_H) :=
 (jw_rc h 12 (some t0)).bind fun a1 =>
 jw_b2 (f_X12_takeIf h a1 t1) fun w3 h2 =>
 some ((), h2)

noncomputable def g_X12_item_b69 (h : jw_H) (t0 : Nat) : Option (Unit × jw_H) :=
 g_X12_item_b70  h t0 (0 : Int32)

noncomputable def g_X12_item_b38 (h : jw_H) (x0 : Nat) (t0 : Nat) (t1 : Int32) : Option (Unit × jw_H) :=
 (jw_rc h 12 (some t0)).bind fun a1 =>
 jw_b2 (f_X12_takeIf h a1 t1) fun w3 h2 =>
 (jw_rc h2 12 (some x0)).bind fun a4 =>
 jw_b2 (f_X12_c h2 a4) fun w6 h5 =>
 if w6 < (49 : Int32) then (g_X12_item_b69  h5 x0)
 else ((jw_rc h5 12 (some x0)).bind fun a8 =>
 jw_b2 (f_X12_c h5 a8) fun w10 h9 =>
 (jw_gI h9 12 (some x0) 25).bind fun v11 =>
 if ((48 : Int32) + v11) < w10 then (g_X12_item_b69  h9 x0)
 else (g_X12_item_b70  h9 x0 (1 : Int32)))

noncomputable def f_X12_item (h : jw_H) (x0 : Nat) : Option (Unit × jw_H) :=
 (jw_rc h 12 (some x0)).bind fun a1 =>
 jw_b2 (f_X12_c h a1) fun w3 h2 =>
 if w3 = (40 : Int32) then ((jw_rc h2 12 (some x0)).bind fun a14 =>
 jw_b2 (f_X12_group h2 a14) fun w16 h15 =>
 some ((), h15))
 else ((jw_rc h2 12 (some x0)).bind fun a5 =>
 jw_b2 (f_X12_c h2 a5) fun w7 h6 =>
 if w7 = (92 : Int32) then ((jw_gI h6 12 (some x0) 25).bind fun v12 =>
 if v12 ≤ 0 then (g_X12_item_b38  h6 x0 x0 (0 : Int32))
 else (g_X12_item_b38  h6 x0 x0 (1 : Int32)))
 else ((jw_rc h6 12 (some x0)).bind fun a9 =>
 jw_b2 (f_X12_plain h6 a9) fun w11 h10 =>
 some ((), h10)))

set_option maxRecDepth 100000 in
set_option maxHeartbeats 4000000 in
theorem l_X12_item_b70 {hi : jw_H} {h : jw_H} {t0 : Nat} {t1 : Int32} {r : Unit} {h' : jw_H} (hq : g_X12_item_b70  h t0 t1 = some (r, h')) : jw_E 5 uX12_item hi 70 [none] [.int t1, .ref t0] h (.inl none) h' := by
  unfold g_X12_item_b70 at hq
  obtain ⟨a1, ea1, hq⟩ := Option.bind_eq_some_iff.mp hq
  obtain ⟨eoa1, eta1⟩ := jw_rc_spec ea1
  obtain ⟨w3, h2, ew3, hq⟩ := jw_b2_spec hq
  refine jw_callV (As := [.int t1]) (S := []) (a := a1) (v := none) dX12_item_70 mt_X12_takeIf in_X12_takeIf se_X12_takeIf lk_X12_166 (c_X12_takeIf ew3) eta1 (by decide) rfl rfl (by decide) (Nat.le_of_ble_eq_true rfl) (by cases eoa1; rfl) ?_
  refine jw_goto (tgt := 80) dX12_item_73 (by decide) ?_
  cases hq
  exact jw_vret dX12_item_80 rfl

set_option maxRecDepth 100000 in
set_option maxHeartbeats 4000000 in
theorem l_X12_item_b69 {hi : jw_H} {h : jw_H} {t0 : Nat} {r : Unit} {h' : jw_H} (hq : g_X12_item_b69  h t0 = some (r, h')) : jw_E 5 uX12_item hi 69 [none] [.ref t0] h (.inl none) h' := by
  unfold g_X12_item_b69 at hq
  refine jw_iconst dX12_item_69 (v := (0 : Int32)) (by decide) ?_
  exact l_X12_item_b70  hq

set_option maxRecDepth 100000 in
set_option maxHeartbeats 4000000 in
theorem l_X12_item_b38 {hi : jw_H} {h : jw_H} {x0 : Nat} {t0 : Nat} {t1 : Int32} {r : Unit} {h' : jw_H} (hq : g_X12_item_b38  h x0 t0 t1 = some (r, h')) : jw_E 5 uX12_item hi 38 [some (.ref x0)] [.int t1, .ref t0] h (.inl none) h' := by
  unfold g_X12_item_b38 at hq
  obtain ⟨a1, ea1, hq⟩ := Option.bind_eq_some_iff.mp hq
  obtain ⟨eoa1, eta1⟩ := jw_rc_spec ea1
  obtain ⟨w3, h2, ew3, hq⟩ := jw_b2_spec hq
  refine jw_callV (As := [.int t1]) (S := []) (a := a1) (v := none) dX12_item_38 mt_X12_takeIf in_X12_takeIf se_X12_takeIf lk_X12_166 (c_X12_takeIf ew3) eta1 (by decide) rfl rfl (by decide) (Nat.le_of_ble_eq_true rfl) (by cases eoa1; rfl) ?_
  refine jw_aload_n dX12_item_41 (o := (some x0)) rfl ?_
  refine jw_aload_n dX12_item_42 (o := (some x0)) rfl ?_
  obtain ⟨a4, ea4, hq⟩ := Option.bind_eq_some_iff.mp hq
  obtain ⟨eoa4, eta4⟩ := jw_rc_spec ea4
  obtain ⟨w6, h5, ew6, hq⟩ := jw_b2_spec hq
  refine jw_callV (As := []) (S := [.ref x0]) (a := a4) (v := some (.int w6)) dX12_item_43 mt_X12_c in_X12_c se_X12_c lk_X12_162 (c_X12_c ew6) eta4 (by decide) rfl rfl (by decide) (Nat.le_of_ble_eq_true rfl) (by cases eoa4; rfl) ?_
  refine jw_bipush dX12_item_46 (v := (49 : Int32)) (by decide) ?_
  rcases jw_if hq with ⟨c7, hq⟩ | ⟨c7, hq⟩
  · refine jw_icmp_lt_t (tgt := 69) dX12_item_48 (by decide) c7 ?_
    refine jw_forget [false] (L' := [none]) rfl ?_
    exact l_X12_item_b69  hq
  · refine jw_icmp_lt_f (tgt := 69) dX12_item_48 (by decide) c7 ?_
    refine jw_aload_n dX12_item_51 (o := (some x0)) rfl ?_
    obtain ⟨a8, ea8, hq⟩ := Option.bind_eq_some_iff.mp hq
    obtain ⟨eoa8, eta8⟩ := jw_rc_spec ea8
    obtain ⟨w10, h9, ew10, hq⟩ := jw_b2_spec hq
    refine jw_callV (As := []) (S := [.ref x0]) (a := a8) (v := some (.int w10)) dX12_item_52 mt_X12_c in_X12_c se_X12_c lk_X12_162 (c_X12_c ew10) eta8 (by decide) rfl rfl (by decide) (Nat.le_of_ble_eq_true rfl) (by cases eoa8; rfl) ?_
    refine jw_bipush dX12_item_55 (v := (48 : Int32)) (by decide) ?_
    refine jw_aload_n dX12_item_57 (o := (some x0)) rfl ?_
    obtain ⟨v11, ev11, hq⟩ := Option.bind_eq_some_iff.mp hq
    refine jw_getI (o := (some x0)) dX12_item_58 ev11 fl_X12_179 rfl ?_
    refine jw_iadd dX12_item_61 ?_
    rcases jw_if hq with ⟨c12, hq⟩ | ⟨c12, hq⟩
    · refine jw_icmp_gt_t (tgt := 69) dX12_item_62 (by decide) c12 ?_
      refine jw_forget [false] (L' := [none]) rfl ?_
      exact l_X12_item_b69  hq
    · refine jw_icmp_gt_f (tgt := 69) dX12_item_62 (by decide) c12 ?_
      refine jw_iconst dX12_item_65 (v := (1 : Int32)) (by decide) ?_
      refine jw_goto (tgt := 70) dX12_item_66 (by decide) ?_
      refine jw_forget [false] (L' := [none]) rfl ?_
      exact l_X12_item_b70  hq

set_option maxRecDepth 100000 in
set_option maxHeartbeats 4000000 in
theorem l_X12_item {hi : jw_H} {h : jw_H} {x0 : Nat} {r : Unit} {h' : jw_H} (hq : f_X12_item  h x0 = some (r, h')) : jw_E 5 uX12_item hi 0 [some (.ref x0)] [] h (.inl none) h' := by
  unfold f_X12_item at hq
  refine jw_aload_n dX12_item_0 (o := (some x0)) rfl ?_
  obtain ⟨a1, ea1, hq⟩ := Option.bind_eq_some_iff.mp hq
  obtain ⟨eoa1, eta1⟩ := jw_rc_spec ea1
  obtain ⟨w3, h2, ew3, hq⟩ := jw_b2_spec hq
  refine jw_callV (As := []) (S := []) (a := a1) (v := some (.int w3)) dX12_item_1 mt_X12_c in_X12_c se_X12_c lk_X12_162 (c_X12_c ew3) eta1 (by decide) rfl rfl (by decide) (Nat.le_of_ble_eq_true rfl) (by cases eoa1; rfl) ?_
  refine jw_bipush dX12_item_4 (v := (40 : Int32)) (by decide) ?_
  rcases jw_if hq with ⟨c4, hq⟩ | ⟨c4, hq⟩
  · refine jw_icmp_ne_f (tgt := 16) dX12_item_6 (by decide) c4 ?_
    refine jw_aload_n dX12_item_9 (o := (some x0)) rfl ?_
    obtain ⟨a14, ea14, hq⟩ := Option.bind_eq_some_iff.mp hq
    obtain ⟨eoa14, eta14⟩ := jw_rc_spec ea14
    obtain ⟨w16, h15, ew16, hq⟩ := jw_b2_spec hq
    refine jw_callV (As := []) (S := []) (a := a14) (v := none) dX12_item_10 mt_X12_group in_X12_group se_X12_group lk_X12_185 (c_X12_group ew16) eta14 (by decide) rfl rfl (by decide) (Nat.le_of_ble_eq_true rfl) (by cases eoa14; rfl) ?_
    refine jw_goto (tgt := 80) dX12_item_13 (by decide) ?_
    cases hq
    exact jw_vret dX12_item_80 rfl
  · refine jw_icmp_ne_t (tgt := 16) dX12_item_6 (by decide) c4 ?_
    refine jw_aload_n dX12_item_16 (o := (some x0)) rfl ?_
    obtain ⟨a5, ea5, hq⟩ := Option.bind_eq_some_iff.mp hq
    obtain ⟨eoa5, eta5⟩ := jw_rc_spec ea5
    obtain ⟨w7, h6, ew7, hq⟩ := jw_b2_spec hq
    refine jw_callV (As := []) (S := []) (a := a5) (v := some (.int w7)) dX12_item_17 mt_X12_c in_X12_c se_X12_c lk_X12_162 (c_X12_c ew7) eta5 (by decide) rfl rfl (by decide) (Nat.le_of_ble_eq_true rfl) (by cases eoa5; rfl) ?_
    refine jw_bipush dX12_item_20 (v := (92 : Int32)) (by decide) ?_
    rcases jw_if hq with ⟨c8, hq⟩ | ⟨c8, hq⟩
    · refine jw_icmp_ne_f (tgt := 76) dX12_item_22 (by decide) c8 ?_
      refine jw_aload_n dX12_item_25 (o := (some x0)) rfl ?_
      refine jw_aload_n dX12_item_26 (o := (some x0)) rfl ?_
      obtain ⟨v12, ev12, hq⟩ := Option.bind_eq_some_iff.mp hq
      refine jw_getI (o := (some x0)) dX12_item_27 ev12 fl_X12_179 rfl ?_
      rcases jw_if hq with ⟨c13, hq⟩ | ⟨c13, hq⟩
      · refine jw_if_le_t (tgt := 37) dX12_item_30 (by decide) c13 ?_
        refine jw_iconst dX12_item_37 (v := (0 : Int32)) (by decide) ?_
        exact l_X12_item_b38  hq
      · refine jw_if_le_f (tgt := 37) dX12_item_30 (by decide) c13 ?_
        refine jw_iconst dX12_item_33 (v := (1 : Int32)) (by decide) ?_
        refine jw_goto (tgt := 38) dX12_item_34 (by decide) ?_
        exact l_X12_item_b38  hq
    · refine jw_icmp_ne_t (tgt := 76) dX12_item_22 (by decide) c8 ?_
      refine jw_aload_n dX12_item_76 (o := (some x0)) rfl ?_
      obtain ⟨a9, ea9, hq⟩ := Option.bind_eq_some_iff.mp hq
      obtain ⟨eoa9, eta9⟩ := jw_rc_spec ea9
      obtain ⟨w11, h10, ew11, hq⟩ := jw_b2_spec hq
      refine jw_callV (As := []) (S := []) (a := a9) (v := none) dX12_item_77 mt_X12_plain in_X12_plain se_X12_plain lk_X12_182 (c_X12_plain ew11) eta9 (by decide) rfl rfl (by decide) (Nat.le_of_ble_eq_true rfl) (by cases eoa9; rfl) ?_
      cases hq
      exact jw_vret dX12_item_80 rfl

theorem c_X12_item {h : jw_H} {x0 : Nat} {r : Unit} {h' : jw_H} (hq : f_X12_item h x0 = some (r, h')) : jw_Con (Cond.code yX12_item cX12_item 1 none) yX12_item 5 [.ref x0] h (.inl none) h' :=
  jw_con false (plainFor_of_name (by decide +kernel)) (fun z => nomatch z) (by simp [jw_ent, jw_sl0_nil, jw_sl0_int, jw_sl0_long, jw_sl0_ref, jw_sl0_rf, jw_sl0_scr, List.replicate]) (by simp [jw_sl0_nil, jw_sl0_int, jw_sl0_long, jw_sl0_ref, jw_sl0_rf, jw_sl0_scr]) (l_X12_item hq)


/-! X12_pattern -/
noncomputable def g_X12_pattern_b112 (k54 : jw_H → Nat → Int32 → Int32 → Int32 → Int32 → Option (Unit × jw_H)) (h : jw_H) (x0 : Nat) (x1 : Int32) (x2 : Int32) (x3 : Int32) : Option (Unit × jw_H) :=
 k54 h x0 x1 x2 x3 (0 : Int32)

noncomputable def g_X12_pattern_b143 (h : jw_H) (x0 : Nat) (x3 : Int32) : Option (Unit × jw_H) :=
 if x3 = 0 then ((jw_rc h 12 (some x0)).bind fun a2 =>
 jw_b2 (f_X12_fail h a2) fun w4 h3 =>
 some ((), h3))
 else (some ((), h))

noncomputable def g_X12_pattern_b54 (k54 : jw_H → Nat → Int32 → Int32 → Int32 → Int32 → Option (Unit × jw_H)) (h : jw_H) (x0 : Nat) (x1 : Int32) (x2 : Int32) (x3 : Int32) (x4 : Int32) : Option (Unit × jw_H) :=
 if x4 = 0 then (g_X12_pattern_b143  h x0 x3)
 else ((jw_gI h 12 (some x0) 24).bind fun v2 =>
 if 0 ≤ v2 then (g_X12_pattern_b143  h x0 x3)
 else ((jw_rc h 12 (some x0)).bind fun a4 =>
 jw_b2 (f_X12_c h a4) fun w6 h5 =>
 if w6 = (36 : Int32) then ((jw_gI h5 12 (some x0) 23).bind fun v22 =>
 (jw_pI h5 12 (some x0) 23 (v22 + (1 : Int32))).bind fun h23 =>
 k54 h23 x0 x1 x2 (1 : Int32) (0 : Int32))
 else ((jw_rc h5 12 (some x0)).bind fun a8 =>
 jw_b2 (f_X12_c h5 a8) fun w10 h9 =>
 if w10 = x1 then (g_X12_pattern_b112 k54 h9 x0 x1 x2 x3)
 else ((jw_gI h9 12 (some x0) 23).bind fun v12 =>
 (jw_gI h9 12 (some x0) 22).bind fun v13 =>
 if v12 = v13 then (g_X12_pattern_b112 k54 h9 x0 x1 x2 x3)
 else (if x2 = (12 : Int32) then ((jw_rc h9 12 (some x0)).bind fun a19 =>
 jw_b2 (f_X12_fail h9 a19) fun w21 h20 =>
 k54 h20 x0 x1 x2 x3 x4)
 else ((jw_rc h9 12 (some x0)).bind fun a16 =>
 jw_b2 (f_X12_item h9 a16) fun w18 h17 =>
 k54 h17 x0 x1 (x2 + (1 : Int32)) (1 : Int32) x4))))))

noncomputable def f_X12_pattern_b54 (n : Nat) : jw_H → Nat → Int32 → Int32 → Int32 → Int32 → Option (Unit × jw_H) :=
 Nat.rec (fun _ _ _ _ _ _ => none) (fun _ k54 => g_X12_pattern_b54 k54) n

noncomputable def g_X12_pattern_b26 (h : jw_H) (x0 : Nat) (x1 : Int32) (x2 : Int32) (x3 : Int32) (t0 : Int32) : Option (Unit × jw_H) :=
 if t0 = 0 then (f_X12_pattern_b54  jw_FU h x0 x1 x2 x3 t0)
 else ((jw_rc h 12 (some x0)).bind fun a2 =>
 jw_b2 (f_X12_c h a2) fun w4 h3 =>
 if w4 = (94 : Int32) then ((jw_gI h3 12 (some x0) 23).bind fun v6 =>
 (jw_pI h3 12 (some x0) 23 (v6 + (1 : Int32))).bind fun h7 =>
 f_X12_pattern_b54  jw_FU h7 x0 x1 x2 (1 : Int32) t0)
 else (f_X12_pattern_b54  jw_FU h3 x0 x1 x2 x3 t0))

noncomputable def f_X12_pattern (h : jw_H) (x0 : Nat) (x1 : Int32) : Option (Unit × jw_H) :=
 (jw_pI h 12 (some x0) 25 (0 : Int32)).bind fun h1 =>
 (jw_pI h1 12 (some x0) 26 (0 : Int32)).bind fun h2 =>
 (jw_gI h2 12 (some x0) 24).bind fun v3 =>
 if 0 ≤ v3 then (g_X12_pattern_b26  h2 x0 x1 (0 : Int32) (0 : Int32) (0 : Int32))
 else (g_X12_pattern_b26  h2 x0 x1 (0 : Int32) (0 : Int32) (1 : Int32))

set_option maxRecDepth 100000 in
set_option maxHeartbeats 4000000 in
theorem l_X12_pattern_b112 {hi : jw_H} {k54 : jw_H → Nat → Int32 → Int32 → Int32 → Int32 → Option (Unit × jw_H)} (hk54 : ∀ (h : jw_H) (x0 : Nat) (x1 : Int32) (x2 : Int32) (x3 : Int32) (x4 : Int32) (r : Unit) (h' : jw_H), k54 h x0 x1 x2 x3 x4 = some (r, h') → jw_E 6 uX12_pattern hi 54 [some (.ref x0), some (.int x1), some (.int x2), some (.int x3), some (.int x4)] [] h (.inl none) h') {h : jw_H} {x0 : Nat} {x1 : Int32} {x2 : Int32} {x3 : Int32} {r : Unit} {h' : jw_H} (hq : g_X12_pattern_b112 k54 h x0 x1 x2 x3 = some (r, h')) : jw_E 6 uX12_pattern hi 112 [some (.ref x0), some (.int x1), some (.int x2), some (.int x3), none] [] h (.inl none) h' := by
  unfold g_X12_pattern_b112 at hq
  refine jw_iconst dX12_pattern_112 (v := (0 : Int32)) (by decide) ?_
  refine jw_istore (L' := [some (.ref x0), some (.int x1), some (.int x2), some (.int x3), some (.int (0 : Int32))]) dX12_pattern_113 (Nat.le_of_ble_eq_true rfl) rfl ?_
  refine jw_goto (tgt := 54) dX12_pattern_115 (by decide) ?_
  exact hk54 _ _ _ _ _ _ _ _ hq

set_option maxRecDepth 100000 in
set_option maxHeartbeats 4000000 in
theorem l_X12_pattern_b143 {hi : jw_H} {h : jw_H} {x0 : Nat} {x3 : Int32} {r : Unit} {h' : jw_H} (hq : g_X12_pattern_b143  h x0 x3 = some (r, h')) : jw_E 6 uX12_pattern hi 143 [some (.ref x0), none, none, some (.int x3), none] [] h (.inl none) h' := by
  unfold g_X12_pattern_b143 at hq
  refine jw_iload_n dX12_pattern_143 rfl ?_
  rcases jw_if hq with ⟨c1, hq⟩ | ⟨c1, hq⟩
  · refine jw_if_ne_f (tgt := 151) dX12_pattern_144 (by decide) c1 ?_
    refine jw_aload_n dX12_pattern_147 (o := (some x0)) rfl ?_
    obtain ⟨a2, ea2, hq⟩ := Option.bind_eq_some_iff.mp hq
    obtain ⟨eoa2, eta2⟩ := jw_rc_spec ea2
    obtain ⟨w4, h3, ew4, hq⟩ := jw_b2_spec hq
    refine jw_callV (As := []) (S := []) (a := a2) (v := none) dX12_pattern_148 mt_X12_fail in_X12_fail se_X12_fail lk_X12_159 (c_X12_fail ew4) eta2 (by decide) rfl rfl (by decide) (Nat.le_of_ble_eq_true rfl) (by cases eoa2; rfl) ?_
    cases hq
    exact jw_vret dX12_pattern_151 rfl
  · refine jw_if_ne_t (tgt := 151) dX12_pattern_144 (by decide) c1 ?_
    cases hq
    exact jw_vret dX12_pattern_151 rfl

set_option maxRecDepth 100000 in
set_option maxHeartbeats 4000000 in
theorem l_X12_pattern_b54g {hi : jw_H} {k54 : jw_H → Nat → Int32 → Int32 → Int32 → Int32 → Option (Unit × jw_H)} (hk54 : ∀ (h : jw_H) (x0 : Nat) (x1 : Int32) (x2 : Int32) (x3 : Int32) (x4 : Int32) (r : Unit) (h' : jw_H), k54 h x0 x1 x2 x3 x4 = some (r, h') → jw_E 6 uX12_pattern hi 54 [some (.ref x0), some (.int x1), some (.int x2), some (.int x3), some (.int x4)] [] h (.inl none) h') {h : jw_H} {x0 : Nat} {x1 : Int32} {x2 : Int32} {x3 : Int32} {x4 : Int32} {r : Unit} {h' : jw_H} (hq : g_X12_pattern_b54 k54 h x0 x1 x2 x3 x4 = some (r, h')) : jw_E 6 uX12_pattern hi 54 [some (.ref x0), some (.int x1), some (.int x2), some (.int x3), some (.int x4)] [] h (.inl none) h' := by
  unfold g_X12_pattern_b54 at hq
  refine jw_iload dX12_pattern_54 rfl ?_
  rcases jw_if hq with ⟨c1, hq⟩ | ⟨c1, hq⟩
  · refine jw_if_eq_t (tgt := 143) dX12_pattern_56 (by decide) c1 ?_
    refine jw_forget [true, false, false, true, false] (L' := [some (.ref x0), none, none, some (.int x3), none]) rfl ?_
    exact l_X12_pattern_b143  hq
  · refine jw_if_eq_f (tgt := 143) dX12_pattern_56 (by decide) c1 ?_
    refine jw_aload_n dX12_pattern_59 (o := (some x0)) rfl ?_
    obtain ⟨v2, ev2, hq⟩ := Option.bind_eq_some_iff.mp hq
    refine jw_getI (o := (some x0)) dX12_pattern_60 ev2 fl_X12_156 rfl ?_
    rcases jw_if hq with ⟨c3, hq⟩ | ⟨c3, hq⟩
    · refine jw_if_ge_t (tgt := 143) dX12_pattern_63 (by decide) c3 ?_
      refine jw_forget [true, false, false, true, false] (L' := [some (.ref x0), none, none, some (.int x3), none]) rfl ?_
      exact l_X12_pattern_b143  hq
    · refine jw_if_ge_f (tgt := 143) dX12_pattern_63 (by decide) c3 ?_
      refine jw_aload_n dX12_pattern_66 (o := (some x0)) rfl ?_
      obtain ⟨a4, ea4, hq⟩ := Option.bind_eq_some_iff.mp hq
      obtain ⟨eoa4, eta4⟩ := jw_rc_spec ea4
      obtain ⟨w6, h5, ew6, hq⟩ := jw_b2_spec hq
      refine jw_callV (As := []) (S := []) (a := a4) (v := some (.int w6)) dX12_pattern_67 mt_X12_c in_X12_c se_X12_c lk_X12_162 (c_X12_c ew6) eta4 (by decide) rfl rfl (by decide) (Nat.le_of_ble_eq_true rfl) (by cases eoa4; rfl) ?_
      refine jw_bipush dX12_pattern_70 (v := (36 : Int32)) (by decide) ?_
      rcases jw_if hq with ⟨c7, hq⟩ | ⟨c7, hq⟩
      · refine jw_icmp_ne_f (tgt := 93) dX12_pattern_72 (by decide) c7 ?_
        refine jw_aload_n dX12_pattern_75 (o := (some x0)) rfl ?_
        refine jw_dup dX12_pattern_76 rfl ?_
        obtain ⟨v22, ev22, hq⟩ := Option.bind_eq_some_iff.mp hq
        refine jw_getI (o := (some x0)) dX12_pattern_77 ev22 fl_X12_149 rfl ?_
        refine jw_iconst dX12_pattern_80 (v := (1 : Int32)) (by decide) ?_
        refine jw_iadd dX12_pattern_81 ?_
        obtain ⟨h23, eh23, hq⟩ := Option.bind_eq_some_iff.mp hq
        refine jw_putI (o := (some x0)) dX12_pattern_82 eh23 fl_X12_149 rfl rfl ?_
        refine jw_iconst dX12_pattern_85 (v := (1 : Int32)) (by decide) ?_
        refine jw_istore_n (L' := [some (.ref x0), some (.int x1), some (.int x2), some (.int (1 : Int32)), some (.int x4)]) dX12_pattern_86 (Nat.le_of_ble_eq_true rfl) rfl ?_
        refine jw_iconst dX12_pattern_87 (v := (0 : Int32)) (by decide) ?_
        refine jw_istore (L' := [some (.ref x0), some (.int x1), some (.int x2), some (.int (1 : Int32)), some (.int (0 : Int32))]) dX12_pattern_88 (Nat.le_of_ble_eq_true rfl) rfl ?_
        refine jw_goto (tgt := 54) dX12_pattern_90 (by decide) ?_
        exact hk54 _ _ _ _ _ _ _ _ hq
      · refine jw_icmp_ne_t (tgt := 93) dX12_pattern_72 (by decide) c7 ?_
        refine jw_aload_n dX12_pattern_93 (o := (some x0)) rfl ?_
        obtain ⟨a8, ea8, hq⟩ := Option.bind_eq_some_iff.mp hq
        obtain ⟨eoa8, eta8⟩ := jw_rc_spec ea8
        obtain ⟨w10, h9, ew10, hq⟩ := jw_b2_spec hq
        refine jw_callV (As := []) (S := []) (a := a8) (v := some (.int w10)) dX12_pattern_94 mt_X12_c in_X12_c se_X12_c lk_X12_162 (c_X12_c ew10) eta8 (by decide) rfl rfl (by decide) (Nat.le_of_ble_eq_true rfl) (by cases eoa8; rfl) ?_
        refine jw_iload_n dX12_pattern_97 rfl ?_
        rcases jw_if hq with ⟨c11, hq⟩ | ⟨c11, hq⟩
        · refine jw_icmp_eq_t (tgt := 112) dX12_pattern_98 (by decide) c11 ?_
          refine jw_forget [true, true, true, true, false] (L' := [some (.ref x0), some (.int x1), some (.int x2), some (.int x3), none]) rfl ?_
          exact l_X12_pattern_b112 hk54 hq
        · refine jw_icmp_eq_f (tgt := 112) dX12_pattern_98 (by decide) c11 ?_
          refine jw_aload_n dX12_pattern_101 (o := (some x0)) rfl ?_
          obtain ⟨v12, ev12, hq⟩ := Option.bind_eq_some_iff.mp hq
          refine jw_getI (o := (some x0)) dX12_pattern_102 ev12 fl_X12_149 rfl ?_
          refine jw_aload_n dX12_pattern_105 (o := (some x0)) rfl ?_
          obtain ⟨v13, ev13, hq⟩ := Option.bind_eq_some_iff.mp hq
          refine jw_getI (o := (some x0)) dX12_pattern_106 ev13 fl_X12_146 rfl ?_
          rcases jw_if hq with ⟨c14, hq⟩ | ⟨c14, hq⟩
          · refine jw_icmp_ne_f (tgt := 118) dX12_pattern_109 (by decide) c14 ?_
            refine jw_forget [true, true, true, true, false] (L' := [some (.ref x0), some (.int x1), some (.int x2), some (.int x3), none]) rfl ?_
            exact l_X12_pattern_b112 hk54 hq
          · refine jw_icmp_ne_t (tgt := 118) dX12_pattern_109 (by decide) c14 ?_
            refine jw_iload_n dX12_pattern_118 rfl ?_
            refine jw_bipush dX12_pattern_119 (v := (12 : Int32)) (by decide) ?_
            rcases jw_if hq with ⟨c15, hq⟩ | ⟨c15, hq⟩
            · refine jw_icmp_ne_f (tgt := 131) dX12_pattern_121 (by decide) c15 ?_
              refine jw_aload_n dX12_pattern_124 (o := (some x0)) rfl ?_
              obtain ⟨a19, ea19, hq⟩ := Option.bind_eq_some_iff.mp hq
              obtain ⟨eoa19, eta19⟩ := jw_rc_spec ea19
              obtain ⟨w21, h20, ew21, hq⟩ := jw_b2_spec hq
              refine jw_callV (As := []) (S := []) (a := a19) (v := none) dX12_pattern_125 mt_X12_fail in_X12_fail se_X12_fail lk_X12_159 (c_X12_fail ew21) eta19 (by decide) rfl rfl (by decide) (Nat.le_of_ble_eq_true rfl) (by cases eoa19; rfl) ?_
              refine jw_goto (tgt := 54) dX12_pattern_128 (by decide) ?_
              exact hk54 _ _ _ _ _ _ _ _ hq
            · refine jw_icmp_ne_t (tgt := 131) dX12_pattern_121 (by decide) c15 ?_
              refine jw_aload_n dX12_pattern_131 (o := (some x0)) rfl ?_
              obtain ⟨a16, ea16, hq⟩ := Option.bind_eq_some_iff.mp hq
              obtain ⟨eoa16, eta16⟩ := jw_rc_spec ea16
              obtain ⟨w18, h17, ew18, hq⟩ := jw_b2_spec hq
              refine jw_callV (As := []) (S := []) (a := a16) (v := none) dX12_pattern_132 mt_X12_item in_X12_item se_X12_item lk_X12_188 (c_X12_item ew18) eta16 (by decide) rfl rfl (by decide) (Nat.le_of_ble_eq_true rfl) (by cases eoa16; rfl) ?_
              refine jw_iinc (L' := [some (.ref x0), some (.int x1), some (.int (x2 + (1 : Int32))), some (.int x3), some (.int x4)]) dX12_pattern_135 rfl (v := (1 : Int32)) (by decide) (Nat.le_of_ble_eq_true rfl) rfl ?_
              refine jw_iconst dX12_pattern_138 (v := (1 : Int32)) (by decide) ?_
              refine jw_istore_n (L' := [some (.ref x0), some (.int x1), some (.int (x2 + (1 : Int32))), some (.int (1 : Int32)), some (.int x4)]) dX12_pattern_139 (Nat.le_of_ble_eq_true rfl) rfl ?_
              refine jw_goto (tgt := 54) dX12_pattern_140 (by decide) ?_
              exact hk54 _ _ _ _ _ _ _ _ hq

theorem l_X12_pattern_b54 {hi : jw_H} : ∀ (n : Nat) (h : jw_H) (x0 : Nat) (x1 : Int32) (x2 : Int32) (x3 : Int32) (x4 : Int32) (r : Unit) (h' : jw_H), f_X12_pattern_b54  n h x0 x1 x2 x3 x4 = some (r, h') → jw_E 6 uX12_pattern hi 54 [some (.ref x0), some (.int x1), some (.int x2), some (.int x3), some (.int x4)] [] h (.inl none) h' := by
  intro n
  induction n with
  | zero => intro h x0 x1 x2 x3 x4 r h' hq; exact nomatch hq
  | succ n ih => intro h x0 x1 x2 x3 x4 r h' hq; exact l_X12_pattern_b54g ih hq

set_option maxRecDepth 100000 in
set_option maxHeartbeats 4000000 in
theorem l_X12_pattern_b26 {hi : jw_H} {h : jw_H} {x0 : Nat} {x1 : Int32} {x2 : Int32} {x3 : Int32} {t0 : Int32} {r : Unit} {h' : jw_H} (hq : g_X12_pattern_b26  h x0 x1 x2 x3 t0 = some (r, h')) : jw_E 6 uX12_pattern hi 26 [some (.ref x0), some (.int x1), some (.int x2), some (.int x3), none] [.int t0] h (.inl none) h' := by
  unfold g_X12_pattern_b26 at hq
  refine jw_istore (L' := [some (.ref x0), some (.int x1), some (.int x2), some (.int x3), some (.int t0)]) dX12_pattern_26 (Nat.le_of_ble_eq_true rfl) rfl ?_
  refine jw_iload dX12_pattern_28 rfl ?_
  rcases jw_if hq with ⟨c1, hq⟩ | ⟨c1, hq⟩
  · refine jw_if_eq_t (tgt := 54) dX12_pattern_30 (by decide) c1 ?_
    exact l_X12_pattern_b54  jw_FU _ _ _ _ _ _ _ _ hq
  · refine jw_if_eq_f (tgt := 54) dX12_pattern_30 (by decide) c1 ?_
    refine jw_aload_n dX12_pattern_33 (o := (some x0)) rfl ?_
    obtain ⟨a2, ea2, hq⟩ := Option.bind_eq_some_iff.mp hq
    obtain ⟨eoa2, eta2⟩ := jw_rc_spec ea2
    obtain ⟨w4, h3, ew4, hq⟩ := jw_b2_spec hq
    refine jw_callV (As := []) (S := []) (a := a2) (v := some (.int w4)) dX12_pattern_34 mt_X12_c in_X12_c se_X12_c lk_X12_162 (c_X12_c ew4) eta2 (by decide) rfl rfl (by decide) (Nat.le_of_ble_eq_true rfl) (by cases eoa2; rfl) ?_
    refine jw_bipush dX12_pattern_37 (v := (94 : Int32)) (by decide) ?_
    rcases jw_if hq with ⟨c5, hq⟩ | ⟨c5, hq⟩
    · refine jw_icmp_ne_f (tgt := 54) dX12_pattern_39 (by decide) c5 ?_
      refine jw_aload_n dX12_pattern_42 (o := (some x0)) rfl ?_
      refine jw_dup dX12_pattern_43 rfl ?_
      obtain ⟨v6, ev6, hq⟩ := Option.bind_eq_some_iff.mp hq
      refine jw_getI (o := (some x0)) dX12_pattern_44 ev6 fl_X12_149 rfl ?_
      refine jw_iconst dX12_pattern_47 (v := (1 : Int32)) (by decide) ?_
      refine jw_iadd dX12_pattern_48 ?_
      obtain ⟨h7, eh7, hq⟩ := Option.bind_eq_some_iff.mp hq
      refine jw_putI (o := (some x0)) dX12_pattern_49 eh7 fl_X12_149 rfl rfl ?_
      refine jw_iconst dX12_pattern_52 (v := (1 : Int32)) (by decide) ?_
      refine jw_istore_n (L' := [some (.ref x0), some (.int x1), some (.int x2), some (.int (1 : Int32)), some (.int t0)]) dX12_pattern_53 (Nat.le_of_ble_eq_true rfl) rfl ?_
      exact l_X12_pattern_b54  jw_FU _ _ _ _ _ _ _ _ hq
    · refine jw_icmp_ne_t (tgt := 54) dX12_pattern_39 (by decide) c5 ?_
      exact l_X12_pattern_b54  jw_FU _ _ _ _ _ _ _ _ hq

set_option maxRecDepth 100000 in
set_option maxHeartbeats 4000000 in
theorem l_X12_pattern {hi : jw_H} {h : jw_H} {x0 : Nat} {x1 : Int32} {r : Unit} {h' : jw_H} (hq : f_X12_pattern  h x0 x1 = some (r, h')) : jw_E 6 uX12_pattern hi 0 [some (.ref x0), some (.int x1), none, none, none] [] h (.inl none) h' := by
  unfold f_X12_pattern at hq
  refine jw_aload_n dX12_pattern_0 (o := (some x0)) rfl ?_
  refine jw_iconst dX12_pattern_1 (v := (0 : Int32)) (by decide) ?_
  obtain ⟨h1, eh1, hq⟩ := Option.bind_eq_some_iff.mp hq
  refine jw_putI (o := (some x0)) dX12_pattern_2 eh1 fl_X12_179 rfl rfl ?_
  refine jw_aload_n dX12_pattern_5 (o := (some x0)) rfl ?_
  refine jw_iconst dX12_pattern_6 (v := (0 : Int32)) (by decide) ?_
  obtain ⟨h2, eh2, hq⟩ := Option.bind_eq_some_iff.mp hq
  refine jw_putI (o := (some x0)) dX12_pattern_7 eh2 fl_X12_170 rfl rfl ?_
  refine jw_iconst dX12_pattern_10 (v := (0 : Int32)) (by decide) ?_
  refine jw_istore_n (L' := [some (.ref x0), some (.int x1), some (.int (0 : Int32)), none, none]) dX12_pattern_11 (Nat.le_of_ble_eq_true rfl) rfl ?_
  refine jw_iconst dX12_pattern_12 (v := (0 : Int32)) (by decide) ?_
  refine jw_istore_n (L' := [some (.ref x0), some (.int x1), some (.int (0 : Int32)), some (.int (0 : Int32)), none]) dX12_pattern_13 (Nat.le_of_ble_eq_true rfl) rfl ?_
  refine jw_aload_n dX12_pattern_14 (o := (some x0)) rfl ?_
  obtain ⟨v3, ev3, hq⟩ := Option.bind_eq_some_iff.mp hq
  refine jw_getI (o := (some x0)) dX12_pattern_15 ev3 fl_X12_156 rfl ?_
  rcases jw_if hq with ⟨c4, hq⟩ | ⟨c4, hq⟩
  · refine jw_if_ge_t (tgt := 25) dX12_pattern_18 (by decide) c4 ?_
    refine jw_iconst dX12_pattern_25 (v := (0 : Int32)) (by decide) ?_
    exact l_X12_pattern_b26  hq
  · refine jw_if_ge_f (tgt := 25) dX12_pattern_18 (by decide) c4 ?_
    refine jw_iconst dX12_pattern_21 (v := (1 : Int32)) (by decide) ?_
    refine jw_goto (tgt := 26) dX12_pattern_22 (by decide) ?_
    exact l_X12_pattern_b26  hq

theorem c_X12_pattern {h : jw_H} {x0 : Nat} {x1 : Int32} {r : Unit} {h' : jw_H} (hq : f_X12_pattern h x0 x1 = some (r, h')) : jw_Con (Cond.code yX12_pattern cX12_pattern 5 none) yX12_pattern 6 [.ref x0, .int x1] h (.inl none) h' :=
  jw_con false (plainFor_of_name (by decide +kernel)) (fun z => nomatch z) (by simp [jw_ent, jw_sl0_nil, jw_sl0_int, jw_sl0_long, jw_sl0_ref, jw_sl0_rf, jw_sl0_scr, List.replicate]) (by simp [jw_sl0_nil, jw_sl0_int, jw_sl0_long, jw_sl0_ref, jw_sl0_rf, jw_sl0_scr]) (l_X12_pattern hq)


/-! X12_beginsSpot -/
noncomputable def g_X12_beginsSpot_b42 (h : jw_H) (t0 : Int32) : Option (Int32 × jw_H) :=
 (jw_rb t0).bind fun v1 =>
 some (t0, h)

noncomputable def g_X12_beginsSpot_b37 (h : jw_H)  : Option (Int32 × jw_H) :=
 g_X12_beginsSpot_b42  h (1 : Int32)

noncomputable def f_X12_beginsSpot (h : jw_H) (x0 : Int32) : Option (Int32 × jw_H) :=
 jw_b2 (f_X12_isDigit h x0) fun w2 h1 =>
 if w2 = 0 then (if x0 = (46 : Int32) then (g_X12_beginsSpot_b37  h1 )
 else (if x0 = (36 : Int32) then (g_X12_beginsSpot_b37  h1 )
 else (if x0 = (39 : Int32) then (g_X12_beginsSpot_b37  h1 )
 else (if x0 = (47 : Int32) then (g_X12_beginsSpot_b37  h1 )
 else (if x0 = (63 : Int32) then (g_X12_beginsSpot_b37  h1 )
 else (g_X12_beginsSpot_b42  h1 (0 : Int32)))))))
 else (g_X12_beginsSpot_b37  h1 )

set_option maxRecDepth 100000 in
set_option maxHeartbeats 4000000 in
theorem l_X12_beginsSpot_b42 {hi : jw_H} {h : jw_H} {t0 : Int32} {r : Int32} {h' : jw_H} (hq : g_X12_beginsSpot_b42  h t0 = some (r, h')) : jw_E 1 uX12_beginsSpot hi 42 [none] [.int t0] h (.inl (some (.int r))) h' := by
  unfold g_X12_beginsSpot_b42 at hq
  obtain ⟨v1, ev1, hq⟩ := Option.bind_eq_some_iff.mp hq
  cases hq
  exact jw_iret (ty := .boolean) dX12_beginsSpot_42 rfl (jw_rb_spec ev1)

set_option maxRecDepth 100000 in
set_option maxHeartbeats 4000000 in
theorem l_X12_beginsSpot_b37 {hi : jw_H} {h : jw_H}  {r : Int32} {h' : jw_H} (hq : g_X12_beginsSpot_b37  h  = some (r, h')) : jw_E 1 uX12_beginsSpot hi 37 [none] [] h (.inl (some (.int r))) h' := by
  unfold g_X12_beginsSpot_b37 at hq
  refine jw_iconst dX12_beginsSpot_37 (v := (1 : Int32)) (by decide) ?_
  refine jw_goto (tgt := 42) dX12_beginsSpot_38 (by decide) ?_
  exact l_X12_beginsSpot_b42  hq

set_option maxRecDepth 100000 in
set_option maxHeartbeats 4000000 in
theorem l_X12_beginsSpot {hi : jw_H} {h : jw_H} {x0 : Int32} {r : Int32} {h' : jw_H} (hq : f_X12_beginsSpot  h x0 = some (r, h')) : jw_E 1 uX12_beginsSpot hi 0 [some (.int x0)] [] h (.inl (some (.int r))) h' := by
  unfold f_X12_beginsSpot at hq
  refine jw_iload_n dX12_beginsSpot_0 rfl ?_
  obtain ⟨w2, h1, ew2, hq⟩ := jw_b2_spec hq
  refine jw_callS (As := [.int x0]) (S := []) (v := some (.int w2)) dX12_beginsSpot_1 mt_X12_isDigit st_X12_isDigit lk_X12_152 (c_X12_isDigit ew2) rfl (by decide) (Nat.le_of_ble_eq_true rfl) rfl ?_
  rcases jw_if hq with ⟨c3, hq⟩ | ⟨c3, hq⟩
  · refine jw_if_ne_f (tgt := 37) dX12_beginsSpot_4 (by decide) c3 ?_
    refine jw_iload_n dX12_beginsSpot_7 rfl ?_
    refine jw_bipush dX12_beginsSpot_8 (v := (46 : Int32)) (by decide) ?_
    rcases jw_if hq with ⟨c4, hq⟩ | ⟨c4, hq⟩
    · refine jw_icmp_eq_t (tgt := 37) dX12_beginsSpot_10 (by decide) c4 ?_
      refine jw_forget [false] (L' := [none]) rfl ?_
      exact l_X12_beginsSpot_b37  hq
    · refine jw_icmp_eq_f (tgt := 37) dX12_beginsSpot_10 (by decide) c4 ?_
      refine jw_iload_n dX12_beginsSpot_13 rfl ?_
      refine jw_bipush dX12_beginsSpot_14 (v := (36 : Int32)) (by decide) ?_
      rcases jw_if hq with ⟨c5, hq⟩ | ⟨c5, hq⟩
      · refine jw_icmp_eq_t (tgt := 37) dX12_beginsSpot_16 (by decide) c5 ?_
        refine jw_forget [false] (L' := [none]) rfl ?_
        exact l_X12_beginsSpot_b37  hq
      · refine jw_icmp_eq_f (tgt := 37) dX12_beginsSpot_16 (by decide) c5 ?_
        refine jw_iload_n dX12_beginsSpot_19 rfl ?_
        refine jw_bipush dX12_beginsSpot_20 (v := (39 : Int32)) (by decide) ?_
        rcases jw_if hq with ⟨c6, hq⟩ | ⟨c6, hq⟩
        · refine jw_icmp_eq_t (tgt := 37) dX12_beginsSpot_22 (by decide) c6 ?_
          refine jw_forget [false] (L' := [none]) rfl ?_
          exact l_X12_beginsSpot_b37  hq
        · refine jw_icmp_eq_f (tgt := 37) dX12_beginsSpot_22 (by decide) c6 ?_
          refine jw_iload_n dX12_beginsSpot_25 rfl ?_
          refine jw_bipush dX12_beginsSpot_26 (v := (47 : Int32)) (by decide) ?_
          rcases jw_if hq with ⟨c7, hq⟩ | ⟨c7, hq⟩
          · refine jw_icmp_eq_t (tgt := 37) dX12_beginsSpot_28 (by decide) c7 ?_
            refine jw_forget [false] (L' := [none]) rfl ?_
            exact l_X12_beginsSpot_b37  hq
          · refine jw_icmp_eq_f (tgt := 37) dX12_beginsSpot_28 (by decide) c7 ?_
            refine jw_iload_n dX12_beginsSpot_31 rfl ?_
            refine jw_bipush dX12_beginsSpot_32 (v := (63 : Int32)) (by decide) ?_
            rcases jw_if hq with ⟨c8, hq⟩ | ⟨c8, hq⟩
            · refine jw_icmp_ne_f (tgt := 41) dX12_beginsSpot_34 (by decide) c8 ?_
              refine jw_forget [false] (L' := [none]) rfl ?_
              exact l_X12_beginsSpot_b37  hq
            · refine jw_icmp_ne_t (tgt := 41) dX12_beginsSpot_34 (by decide) c8 ?_
              refine jw_iconst dX12_beginsSpot_41 (v := (0 : Int32)) (by decide) ?_
              refine jw_forget [false] (L' := [none]) rfl ?_
              exact l_X12_beginsSpot_b42  hq
  · refine jw_if_ne_t (tgt := 37) dX12_beginsSpot_4 (by decide) c3 ?_
    refine jw_forget [false] (L' := [none]) rfl ?_
    exact l_X12_beginsSpot_b37  hq

theorem c_X12_beginsSpot {h : jw_H} {x0 : Int32} {r : Int32} {h' : jw_H} (hq : f_X12_beginsSpot h x0 = some (r, h')) : jw_Con (Cond.code yX12_beginsSpot cX12_beginsSpot 1 (some .boolean)) yX12_beginsSpot 1 [.int x0] h (.inl (some (.int r))) h' :=
  jw_con false (plainFor_of_name (by decide +kernel)) (fun z => nomatch z) (by simp [jw_ent, jw_sl0_nil, jw_sl0_int, jw_sl0_long, jw_sl0_ref, jw_sl0_rf, jw_sl0_scr, List.replicate]) (by simp [jw_sl0_nil, jw_sl0_int, jw_sl0_long, jw_sl0_ref, jw_sl0_rf, jw_sl0_scr]) (l_X12_beginsSpot hq)


/-! X12_spot -/
noncomputable def g_X12_spot_b61 (h : jw_H) (x0 : Nat) (x1 : Int32) : Option (Unit × jw_H) :=
 (jw_gI h 12 (some x0) 23).bind fun v1 =>
 (jw_pI h 12 (some x0) 23 (v1 + (1 : Int32))).bind fun h2 =>
 (jw_rc h2 12 (some x0)).bind fun a3 =>
 jw_b2 (f_X12_pattern h2 a3 x1) fun w5 h4 =>
 (jw_rc h4 12 (some x0)).bind fun a6 =>
 jw_b2 (f_X12_take h4 a6 x1) fun w8 h7 =>
 some ((), h7)

noncomputable def g_X12_spot_b102 (h : jw_H) (t0 : Nat) (t1 : Int32) : Option (Unit × jw_H) :=
 (jw_rc h 12 (some t0)).bind fun a1 =>
 jw_b2 (f_X12_takeIf h a1 t1) fun w3 h2 =>
 some ((), h2)

noncomputable def g_X12_spot_b97 (h : jw_H) (t0 : Nat) : Option (Unit × jw_H) :=
 g_X12_spot_b102  h t0 (1 : Int32)

noncomputable def f_X12_spot (h : jw_H) (x0 : Nat) : Option (Unit × jw_H) :=
 (jw_rc h 12 (some x0)).bind fun a1 =>
 jw_b2 (f_X12_c h a1) fun w3 h2 =>
 jw_b2 (f_X12_isDigit h2 w3) fun w5 h4 =>
 if w5 = 0 then (if w3 = (39 : Int32) then ((jw_gI h4 12 (some x0) 23).bind fun v12 =>
 (jw_pI h4 12 (some x0) 23 (v12 + (1 : Int32))).bind fun h13 =>
 (jw_rc h13 12 (some x0)).bind fun a14 =>
 jw_b2 (f_X12_c h13 a14) fun w16 h15 =>
 jw_b2 (f_X12_isMark h15 w16) fun w18 h17 =>
 (jw_rc h17 12 (some x0)).bind fun a19 =>
 jw_b2 (f_X12_takeIf h17 a19 w18) fun w21 h20 =>
 some ((), h20))
 else (if w3 = (47 : Int32) then (g_X12_spot_b61  h4 x0 w3)
 else (if w3 = (63 : Int32) then (g_X12_spot_b61  h4 x0 w3)
 else (if w3 = (46 : Int32) then (g_X12_spot_b97  h4 x0)
 else (if w3 = (36 : Int32) then (g_X12_spot_b97  h4 x0)
 else (g_X12_spot_b102  h4 x0 (0 : Int32)))))))
 else ((jw_rc h4 12 (some x0)).bind fun a22 =>
 jw_b2 (f_X12_number h4 a22) fun w24 h23 =>
 some ((), h23))

set_option maxRecDepth 100000 in
set_option maxHeartbeats 4000000 in
theorem l_X12_spot_b61 {hi : jw_H} {h : jw_H} {x0 : Nat} {x1 : Int32} {r : Unit} {h' : jw_H} (hq : g_X12_spot_b61  h x0 x1 = some (r, h')) : jw_E 7 uX12_spot hi 61 [some (.ref x0), some (.int x1)] [] h (.inl none) h' := by
  unfold g_X12_spot_b61 at hq
  refine jw_aload_n dX12_spot_61 (o := (some x0)) rfl ?_
  refine jw_dup dX12_spot_62 rfl ?_
  obtain ⟨v1, ev1, hq⟩ := Option.bind_eq_some_iff.mp hq
  refine jw_getI (o := (some x0)) dX12_spot_63 ev1 fl_X12_149 rfl ?_
  refine jw_iconst dX12_spot_66 (v := (1 : Int32)) (by decide) ?_
  refine jw_iadd dX12_spot_67 ?_
  obtain ⟨h2, eh2, hq⟩ := Option.bind_eq_some_iff.mp hq
  refine jw_putI (o := (some x0)) dX12_spot_68 eh2 fl_X12_149 rfl rfl ?_
  refine jw_aload_n dX12_spot_71 (o := (some x0)) rfl ?_
  refine jw_iload_n dX12_spot_72 rfl ?_
  obtain ⟨a3, ea3, hq⟩ := Option.bind_eq_some_iff.mp hq
  obtain ⟨eoa3, eta3⟩ := jw_rc_spec ea3
  obtain ⟨w5, h4, ew5, hq⟩ := jw_b2_spec hq
  refine jw_callV (As := [.int x1]) (S := []) (a := a3) (v := none) dX12_spot_73 mt_X12_pattern in_X12_pattern se_X12_pattern lk_X12_197 (c_X12_pattern ew5) eta3 (by decide) rfl rfl (by decide) (Nat.le_of_ble_eq_true rfl) (by cases eoa3; rfl) ?_
  refine jw_aload_n dX12_spot_76 (o := (some x0)) rfl ?_
  refine jw_iload_n dX12_spot_77 rfl ?_
  obtain ⟨a6, ea6, hq⟩ := Option.bind_eq_some_iff.mp hq
  obtain ⟨eoa6, eta6⟩ := jw_rc_spec ea6
  obtain ⟨w8, h7, ew8, hq⟩ := jw_b2_spec hq
  refine jw_callV (As := [.int x1]) (S := []) (a := a6) (v := none) dX12_spot_78 mt_X12_take in_X12_take se_X12_take lk_X12_176 (c_X12_take ew8) eta6 (by decide) rfl rfl (by decide) (Nat.le_of_ble_eq_true rfl) (by cases eoa6; rfl) ?_
  refine jw_goto (tgt := 105) dX12_spot_81 (by decide) ?_
  cases hq
  exact jw_vret dX12_spot_105 rfl

set_option maxRecDepth 100000 in
set_option maxHeartbeats 4000000 in
theorem l_X12_spot_b102 {hi : jw_H} {h : jw_H} {t0 : Nat} {t1 : Int32} {r : Unit} {h' : jw_H} (hq : g_X12_spot_b102  h t0 t1 = some (r, h')) : jw_E 7 uX12_spot hi 102 [none, none] [.int t1, .ref t0] h (.inl none) h' := by
  unfold g_X12_spot_b102 at hq
  obtain ⟨a1, ea1, hq⟩ := Option.bind_eq_some_iff.mp hq
  obtain ⟨eoa1, eta1⟩ := jw_rc_spec ea1
  obtain ⟨w3, h2, ew3, hq⟩ := jw_b2_spec hq
  refine jw_callV (As := [.int t1]) (S := []) (a := a1) (v := none) dX12_spot_102 mt_X12_takeIf in_X12_takeIf se_X12_takeIf lk_X12_166 (c_X12_takeIf ew3) eta1 (by decide) rfl rfl (by decide) (Nat.le_of_ble_eq_true rfl) (by cases eoa1; rfl) ?_
  cases hq
  exact jw_vret dX12_spot_105 rfl

set_option maxRecDepth 100000 in
set_option maxHeartbeats 4000000 in
theorem l_X12_spot_b97 {hi : jw_H} {h : jw_H} {t0 : Nat} {r : Unit} {h' : jw_H} (hq : g_X12_spot_b97  h t0 = some (r, h')) : jw_E 7 uX12_spot hi 97 [none, none] [.ref t0] h (.inl none) h' := by
  unfold g_X12_spot_b97 at hq
  refine jw_iconst dX12_spot_97 (v := (1 : Int32)) (by decide) ?_
  refine jw_goto (tgt := 102) dX12_spot_98 (by decide) ?_
  exact l_X12_spot_b102  hq

set_option maxRecDepth 100000 in
set_option maxHeartbeats 4000000 in
theorem l_X12_spot {hi : jw_H} {h : jw_H} {x0 : Nat} {r : Unit} {h' : jw_H} (hq : f_X12_spot  h x0 = some (r, h')) : jw_E 7 uX12_spot hi 0 [some (.ref x0), none] [] h (.inl none) h' := by
  unfold f_X12_spot at hq
  refine jw_aload_n dX12_spot_0 (o := (some x0)) rfl ?_
  obtain ⟨a1, ea1, hq⟩ := Option.bind_eq_some_iff.mp hq
  obtain ⟨eoa1, eta1⟩ := jw_rc_spec ea1
  obtain ⟨w3, h2, ew3, hq⟩ := jw_b2_spec hq
  refine jw_callV (As := []) (S := []) (a := a1) (v := some (.int w3)) dX12_spot_1 mt_X12_c in_X12_c se_X12_c lk_X12_162 (c_X12_c ew3) eta1 (by decide) rfl rfl (by decide) (Nat.le_of_ble_eq_true rfl) (by cases eoa1; rfl) ?_
  refine jw_istore_n (L' := [some (.ref x0), some (.int w3)]) dX12_spot_4 (Nat.le_of_ble_eq_true rfl) rfl ?_
  refine jw_iload_n dX12_spot_5 rfl ?_
  obtain ⟨w5, h4, ew5, hq⟩ := jw_b2_spec hq
  refine jw_callS (As := [.int w3]) (S := []) (v := some (.int w5)) dX12_spot_6 mt_X12_isDigit st_X12_isDigit lk_X12_152 (c_X12_isDigit ew5) rfl (by decide) (Nat.le_of_ble_eq_true rfl) rfl ?_
  rcases jw_if hq with ⟨c6, hq⟩ | ⟨c6, hq⟩
  · refine jw_if_eq_t (tgt := 19) dX12_spot_9 (by decide) c6 ?_
    refine jw_iload_n dX12_spot_19 rfl ?_
    refine jw_bipush dX12_spot_20 (v := (39 : Int32)) (by decide) ?_
    rcases jw_if hq with ⟨c7, hq⟩ | ⟨c7, hq⟩
    · refine jw_icmp_ne_f (tgt := 49) dX12_spot_22 (by decide) c7 ?_
      refine jw_aload_n dX12_spot_25 (o := (some x0)) rfl ?_
      refine jw_dup dX12_spot_26 rfl ?_
      obtain ⟨v12, ev12, hq⟩ := Option.bind_eq_some_iff.mp hq
      refine jw_getI (o := (some x0)) dX12_spot_27 ev12 fl_X12_149 rfl ?_
      refine jw_iconst dX12_spot_30 (v := (1 : Int32)) (by decide) ?_
      refine jw_iadd dX12_spot_31 ?_
      obtain ⟨h13, eh13, hq⟩ := Option.bind_eq_some_iff.mp hq
      refine jw_putI (o := (some x0)) dX12_spot_32 eh13 fl_X12_149 rfl rfl ?_
      refine jw_aload_n dX12_spot_35 (o := (some x0)) rfl ?_
      refine jw_aload_n dX12_spot_36 (o := (some x0)) rfl ?_
      obtain ⟨a14, ea14, hq⟩ := Option.bind_eq_some_iff.mp hq
      obtain ⟨eoa14, eta14⟩ := jw_rc_spec ea14
      obtain ⟨w16, h15, ew16, hq⟩ := jw_b2_spec hq
      refine jw_callV (As := []) (S := [.ref x0]) (a := a14) (v := some (.int w16)) dX12_spot_37 mt_X12_c in_X12_c se_X12_c lk_X12_162 (c_X12_c ew16) eta14 (by decide) rfl rfl (by decide) (Nat.le_of_ble_eq_true rfl) (by cases eoa14; rfl) ?_
      obtain ⟨w18, h17, ew18, hq⟩ := jw_b2_spec hq
      refine jw_callS (As := [.int w16]) (S := [.ref x0]) (v := some (.int w18)) dX12_spot_40 mt_X12_isMark st_X12_isMark lk_X12_194 (c_X12_isMark ew18) rfl (by decide) (Nat.le_of_ble_eq_true rfl) rfl ?_
      obtain ⟨a19, ea19, hq⟩ := Option.bind_eq_some_iff.mp hq
      obtain ⟨eoa19, eta19⟩ := jw_rc_spec ea19
      obtain ⟨w21, h20, ew21, hq⟩ := jw_b2_spec hq
      refine jw_callV (As := [.int w18]) (S := []) (a := a19) (v := none) dX12_spot_43 mt_X12_takeIf in_X12_takeIf se_X12_takeIf lk_X12_166 (c_X12_takeIf ew21) eta19 (by decide) rfl rfl (by decide) (Nat.le_of_ble_eq_true rfl) (by cases eoa19; rfl) ?_
      refine jw_goto (tgt := 105) dX12_spot_46 (by decide) ?_
      cases hq
      exact jw_vret dX12_spot_105 rfl
    · refine jw_icmp_ne_t (tgt := 49) dX12_spot_22 (by decide) c7 ?_
      refine jw_iload_n dX12_spot_49 rfl ?_
      refine jw_bipush dX12_spot_50 (v := (47 : Int32)) (by decide) ?_
      rcases jw_if hq with ⟨c8, hq⟩ | ⟨c8, hq⟩
      · refine jw_icmp_eq_t (tgt := 61) dX12_spot_52 (by decide) c8 ?_
        exact l_X12_spot_b61  hq
      · refine jw_icmp_eq_f (tgt := 61) dX12_spot_52 (by decide) c8 ?_
        refine jw_iload_n dX12_spot_55 rfl ?_
        refine jw_bipush dX12_spot_56 (v := (63 : Int32)) (by decide) ?_
        rcases jw_if hq with ⟨c9, hq⟩ | ⟨c9, hq⟩
        · refine jw_icmp_ne_f (tgt := 84) dX12_spot_58 (by decide) c9 ?_
          exact l_X12_spot_b61  hq
        · refine jw_icmp_ne_t (tgt := 84) dX12_spot_58 (by decide) c9 ?_
          refine jw_aload_n dX12_spot_84 (o := (some x0)) rfl ?_
          refine jw_iload_n dX12_spot_85 rfl ?_
          refine jw_bipush dX12_spot_86 (v := (46 : Int32)) (by decide) ?_
          rcases jw_if hq with ⟨c10, hq⟩ | ⟨c10, hq⟩
          · refine jw_icmp_eq_t (tgt := 97) dX12_spot_88 (by decide) c10 ?_
            refine jw_forget [false, false] (L' := [none, none]) rfl ?_
            exact l_X12_spot_b97  hq
          · refine jw_icmp_eq_f (tgt := 97) dX12_spot_88 (by decide) c10 ?_
            refine jw_iload_n dX12_spot_91 rfl ?_
            refine jw_bipush dX12_spot_92 (v := (36 : Int32)) (by decide) ?_
            rcases jw_if hq with ⟨c11, hq⟩ | ⟨c11, hq⟩
            · refine jw_icmp_ne_f (tgt := 101) dX12_spot_94 (by decide) c11 ?_
              refine jw_forget [false, false] (L' := [none, none]) rfl ?_
              exact l_X12_spot_b97  hq
            · refine jw_icmp_ne_t (tgt := 101) dX12_spot_94 (by decide) c11 ?_
              refine jw_iconst dX12_spot_101 (v := (0 : Int32)) (by decide) ?_
              refine jw_forget [false, false] (L' := [none, none]) rfl ?_
              exact l_X12_spot_b102  hq
  · refine jw_if_eq_f (tgt := 19) dX12_spot_9 (by decide) c6 ?_
    refine jw_aload_n dX12_spot_12 (o := (some x0)) rfl ?_
    obtain ⟨a22, ea22, hq⟩ := Option.bind_eq_some_iff.mp hq
    obtain ⟨eoa22, eta22⟩ := jw_rc_spec ea22
    obtain ⟨w24, h23, ew24, hq⟩ := jw_b2_spec hq
    refine jw_callV (As := []) (S := []) (a := a22) (v := none) dX12_spot_13 mt_X12_number in_X12_number se_X12_number lk_X12_191 (c_X12_number ew24) eta22 (by decide) rfl rfl (by decide) (Nat.le_of_ble_eq_true rfl) (by cases eoa22; rfl) ?_
    refine jw_goto (tgt := 105) dX12_spot_16 (by decide) ?_
    cases hq
    exact jw_vret dX12_spot_105 rfl

theorem c_X12_spot {h : jw_H} {x0 : Nat} {r : Unit} {h' : jw_H} (hq : f_X12_spot h x0 = some (r, h')) : jw_Con (Cond.code yX12_spot cX12_spot 2 none) yX12_spot 7 [.ref x0] h (.inl none) h' :=
  jw_con false (plainFor_of_name (by decide +kernel)) (fun z => nomatch z) (by simp [jw_ent, jw_sl0_nil, jw_sl0_int, jw_sl0_long, jw_sl0_ref, jw_sl0_rf, jw_sl0_scr, List.replicate]) (by simp [jw_sl0_nil, jw_sl0_int, jw_sl0_long, jw_sl0_ref, jw_sl0_rf, jw_sl0_scr]) (l_X12_spot hq)


/-! X12_address -/
noncomputable def g_X12_address_b29 (k4 : jw_H → Nat → Option (Unit × jw_H)) (h : jw_H) (x0 : Nat) : Option (Unit × jw_H) :=
 (jw_gI h 12 (some x0) 23).bind fun v1 =>
 (jw_pI h 12 (some x0) 23 (v1 + (1 : Int32))).bind fun h2 =>
 (jw_rc h2 12 (some x0)).bind fun a3 =>
 jw_b2 (f_X12_number h2 a3) fun w5 h4 =>
 k4 h4 x0

noncomputable def g_X12_address_b4 (k4 : jw_H → Nat → Option (Unit × jw_H)) (h : jw_H) (x0 : Nat) : Option (Unit × jw_H) :=
 (jw_gI h 12 (some x0) 24).bind fun v1 =>
 if 0 ≤ v1 then (some ((), h))
 else ((jw_rc h 12 (some x0)).bind fun a3 =>
 jw_b2 (f_X12_c h a3) fun w5 h4 =>
 if w5 = (43 : Int32) then (g_X12_address_b29 k4 h4 x0)
 else ((jw_rc h4 12 (some x0)).bind fun a7 =>
 jw_b2 (f_X12_c h4 a7) fun w9 h8 =>
 if w9 = (45 : Int32) then (g_X12_address_b29 k4 h8 x0)
 else (some ((), h8))))

noncomputable def f_X12_address_b4 (n : Nat) : jw_H → Nat → Option (Unit × jw_H) :=
 Nat.rec (fun _ _ => none) (fun _ k4 => g_X12_address_b4 k4) n

noncomputable def f_X12_address (h : jw_H) (x0 : Nat) : Option (Unit × jw_H) :=
 (jw_rc h 12 (some x0)).bind fun a1 =>
 jw_b2 (f_X12_spot h a1) fun w3 h2 =>
 f_X12_address_b4  jw_FU h2 x0

set_option maxRecDepth 100000 in
set_option maxHeartbeats 4000000 in
theorem l_X12_address_b29 {hi : jw_H} {k4 : jw_H → Nat → Option (Unit × jw_H)} (hk4 : ∀ (h : jw_H) (x0 : Nat) (r : Unit) (h' : jw_H), k4 h x0 = some (r, h') → jw_E 8 uX12_address hi 4 [some (.ref x0)] [] h (.inl none) h') {h : jw_H} {x0 : Nat} {r : Unit} {h' : jw_H} (hq : g_X12_address_b29 k4 h x0 = some (r, h')) : jw_E 8 uX12_address hi 29 [some (.ref x0)] [] h (.inl none) h' := by
  unfold g_X12_address_b29 at hq
  refine jw_aload_n dX12_address_29 (o := (some x0)) rfl ?_
  refine jw_dup dX12_address_30 rfl ?_
  obtain ⟨v1, ev1, hq⟩ := Option.bind_eq_some_iff.mp hq
  refine jw_getI (o := (some x0)) dX12_address_31 ev1 fl_X12_149 rfl ?_
  refine jw_iconst dX12_address_34 (v := (1 : Int32)) (by decide) ?_
  refine jw_iadd dX12_address_35 ?_
  obtain ⟨h2, eh2, hq⟩ := Option.bind_eq_some_iff.mp hq
  refine jw_putI (o := (some x0)) dX12_address_36 eh2 fl_X12_149 rfl rfl ?_
  refine jw_aload_n dX12_address_39 (o := (some x0)) rfl ?_
  obtain ⟨a3, ea3, hq⟩ := Option.bind_eq_some_iff.mp hq
  obtain ⟨eoa3, eta3⟩ := jw_rc_spec ea3
  obtain ⟨w5, h4, ew5, hq⟩ := jw_b2_spec hq
  refine jw_callV (As := []) (S := []) (a := a3) (v := none) dX12_address_40 mt_X12_number in_X12_number se_X12_number lk_X12_191 (c_X12_number ew5) eta3 (by decide) rfl rfl (by decide) (Nat.le_of_ble_eq_true rfl) (by cases eoa3; rfl) ?_
  refine jw_goto (tgt := 4) dX12_address_43 (by decide) ?_
  exact hk4 _ _ _ _ hq

set_option maxRecDepth 100000 in
set_option maxHeartbeats 4000000 in
theorem l_X12_address_b4g {hi : jw_H} {k4 : jw_H → Nat → Option (Unit × jw_H)} (hk4 : ∀ (h : jw_H) (x0 : Nat) (r : Unit) (h' : jw_H), k4 h x0 = some (r, h') → jw_E 8 uX12_address hi 4 [some (.ref x0)] [] h (.inl none) h') {h : jw_H} {x0 : Nat} {r : Unit} {h' : jw_H} (hq : g_X12_address_b4 k4 h x0 = some (r, h')) : jw_E 8 uX12_address hi 4 [some (.ref x0)] [] h (.inl none) h' := by
  unfold g_X12_address_b4 at hq
  refine jw_aload_n dX12_address_4 (o := (some x0)) rfl ?_
  obtain ⟨v1, ev1, hq⟩ := Option.bind_eq_some_iff.mp hq
  refine jw_getI (o := (some x0)) dX12_address_5 ev1 fl_X12_156 rfl ?_
  rcases jw_if hq with ⟨c2, hq⟩ | ⟨c2, hq⟩
  · refine jw_if_ge_t (tgt := 46) dX12_address_8 (by decide) c2 ?_
    cases hq
    exact jw_vret dX12_address_46 rfl
  · refine jw_if_ge_f (tgt := 46) dX12_address_8 (by decide) c2 ?_
    refine jw_aload_n dX12_address_11 (o := (some x0)) rfl ?_
    obtain ⟨a3, ea3, hq⟩ := Option.bind_eq_some_iff.mp hq
    obtain ⟨eoa3, eta3⟩ := jw_rc_spec ea3
    obtain ⟨w5, h4, ew5, hq⟩ := jw_b2_spec hq
    refine jw_callV (As := []) (S := []) (a := a3) (v := some (.int w5)) dX12_address_12 mt_X12_c in_X12_c se_X12_c lk_X12_162 (c_X12_c ew5) eta3 (by decide) rfl rfl (by decide) (Nat.le_of_ble_eq_true rfl) (by cases eoa3; rfl) ?_
    refine jw_bipush dX12_address_15 (v := (43 : Int32)) (by decide) ?_
    rcases jw_if hq with ⟨c6, hq⟩ | ⟨c6, hq⟩
    · refine jw_icmp_eq_t (tgt := 29) dX12_address_17 (by decide) c6 ?_
      exact l_X12_address_b29 hk4 hq
    · refine jw_icmp_eq_f (tgt := 29) dX12_address_17 (by decide) c6 ?_
      refine jw_aload_n dX12_address_20 (o := (some x0)) rfl ?_
      obtain ⟨a7, ea7, hq⟩ := Option.bind_eq_some_iff.mp hq
      obtain ⟨eoa7, eta7⟩ := jw_rc_spec ea7
      obtain ⟨w9, h8, ew9, hq⟩ := jw_b2_spec hq
      refine jw_callV (As := []) (S := []) (a := a7) (v := some (.int w9)) dX12_address_21 mt_X12_c in_X12_c se_X12_c lk_X12_162 (c_X12_c ew9) eta7 (by decide) rfl rfl (by decide) (Nat.le_of_ble_eq_true rfl) (by cases eoa7; rfl) ?_
      refine jw_bipush dX12_address_24 (v := (45 : Int32)) (by decide) ?_
      rcases jw_if hq with ⟨c10, hq⟩ | ⟨c10, hq⟩
      · refine jw_icmp_ne_f (tgt := 46) dX12_address_26 (by decide) c10 ?_
        exact l_X12_address_b29 hk4 hq
      · refine jw_icmp_ne_t (tgt := 46) dX12_address_26 (by decide) c10 ?_
        cases hq
        exact jw_vret dX12_address_46 rfl

theorem l_X12_address_b4 {hi : jw_H} : ∀ (n : Nat) (h : jw_H) (x0 : Nat) (r : Unit) (h' : jw_H), f_X12_address_b4  n h x0 = some (r, h') → jw_E 8 uX12_address hi 4 [some (.ref x0)] [] h (.inl none) h' := by
  intro n
  induction n with
  | zero => intro h x0 r h' hq; exact nomatch hq
  | succ n ih => intro h x0 r h' hq; exact l_X12_address_b4g ih hq

set_option maxRecDepth 100000 in
set_option maxHeartbeats 4000000 in
theorem l_X12_address {hi : jw_H} {h : jw_H} {x0 : Nat} {r : Unit} {h' : jw_H} (hq : f_X12_address  h x0 = some (r, h')) : jw_E 8 uX12_address hi 0 [some (.ref x0)] [] h (.inl none) h' := by
  unfold f_X12_address at hq
  refine jw_aload_n dX12_address_0 (o := (some x0)) rfl ?_
  obtain ⟨a1, ea1, hq⟩ := Option.bind_eq_some_iff.mp hq
  obtain ⟨eoa1, eta1⟩ := jw_rc_spec ea1
  obtain ⟨w3, h2, ew3, hq⟩ := jw_b2_spec hq
  refine jw_callV (As := []) (S := []) (a := a1) (v := none) dX12_address_1 mt_X12_spot in_X12_spot se_X12_spot lk_X12_200 (c_X12_spot ew3) eta1 (by decide) rfl rfl (by decide) (Nat.le_of_ble_eq_true rfl) (by cases eoa1; rfl) ?_
  exact l_X12_address_b4  jw_FU _ _ _ _ hq

theorem c_X12_address {h : jw_H} {x0 : Nat} {r : Unit} {h' : jw_H} (hq : f_X12_address h x0 = some (r, h')) : jw_Con (Cond.code yX12_address cX12_address 1 none) yX12_address 8 [.ref x0] h (.inl none) h' :=
  jw_con false (plainFor_of_name (by decide +kernel)) (fun z => nomatch z) (by simp [jw_ent, jw_sl0_nil, jw_sl0_int, jw_sl0_long, jw_sl0_ref, jw_sl0_rf, jw_sl0_scr, List.replicate]) (by simp [jw_sl0_nil, jw_sl0_int, jw_sl0_long, jw_sl0_ref, jw_sl0_rf, jw_sl0_scr]) (l_X12_address hq)


/-! X12_where -/
noncomputable def g_X12_where_b102 (h : jw_H) (x0 : Nat) : Option (Unit × jw_H) :=
 (jw_gI h 12 (some x0) 23).bind fun v1 =>
 (jw_pI h 12 (some x0) 30 v1).bind fun h2 =>
 some ((), h2)

noncomputable def f_X12_where (h : jw_H) (x0 : Nat) : Option (Unit × jw_H) :=
 (jw_pI h 12 (some x0) 27 (0 : Int32)).bind fun h1 =>
 (jw_rc h1 12 (some x0)).bind fun a2 =>
 jw_b2 (f_X12_c h1 a2) fun w4 h3 =>
 if w4 = (37 : Int32) then ((jw_gI h3 12 (some x0) 23).bind fun v32 =>
 (jw_pI h3 12 (some x0) 23 (v32 + (1 : Int32))).bind fun h33 =>
 (jw_pI h33 12 (some x0) 27 (1 : Int32)).bind fun h34 =>
 g_X12_where_b102  h34 x0)
 else ((jw_rc h3 12 (some x0)).bind fun a6 =>
 jw_b2 (f_X12_c h3 a6) fun w8 h7 =>
 jw_b2 (f_X12_beginsSpot h7 w8) fun w10 h9 =>
 if w10 = 0 then (g_X12_where_b102  h9 x0)
 else ((jw_gI h9 12 (some x0) 23).bind fun v12 =>
 (jw_pI h9 12 (some x0) 28 v12).bind fun h13 =>
 (jw_rc h13 12 (some x0)).bind fun a14 =>
 jw_b2 (f_X12_address h13 a14) fun w16 h15 =>
 (jw_pI h15 12 (some x0) 27 (2 : Int32)).bind fun h17 =>
 (jw_gI h17 12 (some x0) 24).bind fun v18 =>
 if 0 ≤ v18 then (g_X12_where_b102  h17 x0)
 else ((jw_rc h17 12 (some x0)).bind fun a20 =>
 jw_b2 (f_X12_c h17 a20) fun w22 h21 =>
 if w22 = (44 : Int32) then ((jw_gI h21 12 (some x0) 23).bind fun v24 =>
 (jw_pI h21 12 (some x0) 23 (v24 + (1 : Int32))).bind fun h25 =>
 (jw_gI h25 12 (some x0) 23).bind fun v26 =>
 (jw_pI h25 12 (some x0) 29 v26).bind fun h27 =>
 (jw_rc h27 12 (some x0)).bind fun a28 =>
 jw_b2 (f_X12_address h27 a28) fun w30 h29 =>
 (jw_pI h29 12 (some x0) 27 (3 : Int32)).bind fun h31 =>
 g_X12_where_b102  h31 x0)
 else (g_X12_where_b102  h21 x0))))

set_option maxRecDepth 100000 in
set_option maxHeartbeats 4000000 in
theorem l_X12_where_b102 {hi : jw_H} {h : jw_H} {x0 : Nat} {r : Unit} {h' : jw_H} (hq : g_X12_where_b102  h x0 = some (r, h')) : jw_E 9 uX12_where hi 102 [some (.ref x0)] [] h (.inl none) h' := by
  unfold g_X12_where_b102 at hq
  refine jw_aload_n dX12_where_102 (o := (some x0)) rfl ?_
  refine jw_aload_n dX12_where_103 (o := (some x0)) rfl ?_
  obtain ⟨v1, ev1, hq⟩ := Option.bind_eq_some_iff.mp hq
  refine jw_getI (o := (some x0)) dX12_where_104 ev1 fl_X12_149 rfl ?_
  obtain ⟨h2, eh2, hq⟩ := Option.bind_eq_some_iff.mp hq
  refine jw_putI (o := (some x0)) dX12_where_107 eh2 fl_X12_218 rfl rfl ?_
  cases hq
  exact jw_vret dX12_where_110 rfl

set_option maxRecDepth 100000 in
set_option maxHeartbeats 4000000 in
theorem l_X12_where {hi : jw_H} {h : jw_H} {x0 : Nat} {r : Unit} {h' : jw_H} (hq : f_X12_where  h x0 = some (r, h')) : jw_E 9 uX12_where hi 0 [some (.ref x0)] [] h (.inl none) h' := by
  unfold f_X12_where at hq
  refine jw_aload_n dX12_where_0 (o := (some x0)) rfl ?_
  refine jw_iconst dX12_where_1 (v := (0 : Int32)) (by decide) ?_
  obtain ⟨h1, eh1, hq⟩ := Option.bind_eq_some_iff.mp hq
  refine jw_putI (o := (some x0)) dX12_where_2 eh1 fl_X12_203 rfl rfl ?_
  refine jw_aload_n dX12_where_5 (o := (some x0)) rfl ?_
  obtain ⟨a2, ea2, hq⟩ := Option.bind_eq_some_iff.mp hq
  obtain ⟨eoa2, eta2⟩ := jw_rc_spec ea2
  obtain ⟨w4, h3, ew4, hq⟩ := jw_b2_spec hq
  refine jw_callV (As := []) (S := []) (a := a2) (v := some (.int w4)) dX12_where_6 mt_X12_c in_X12_c se_X12_c lk_X12_162 (c_X12_c ew4) eta2 (by decide) rfl rfl (by decide) (Nat.le_of_ble_eq_true rfl) (by cases eoa2; rfl) ?_
  refine jw_bipush dX12_where_9 (v := (37 : Int32)) (by decide) ?_
  rcases jw_if hq with ⟨c5, hq⟩ | ⟨c5, hq⟩
  · refine jw_icmp_ne_f (tgt := 32) dX12_where_11 (by decide) c5 ?_
    refine jw_aload_n dX12_where_14 (o := (some x0)) rfl ?_
    refine jw_dup dX12_where_15 rfl ?_
    obtain ⟨v32, ev32, hq⟩ := Option.bind_eq_some_iff.mp hq
    refine jw_getI (o := (some x0)) dX12_where_16 ev32 fl_X12_149 rfl ?_
    refine jw_iconst dX12_where_19 (v := (1 : Int32)) (by decide) ?_
    refine jw_iadd dX12_where_20 ?_
    obtain ⟨h33, eh33, hq⟩ := Option.bind_eq_some_iff.mp hq
    refine jw_putI (o := (some x0)) dX12_where_21 eh33 fl_X12_149 rfl rfl ?_
    refine jw_aload_n dX12_where_24 (o := (some x0)) rfl ?_
    refine jw_iconst dX12_where_25 (v := (1 : Int32)) (by decide) ?_
    obtain ⟨h34, eh34, hq⟩ := Option.bind_eq_some_iff.mp hq
    refine jw_putI (o := (some x0)) dX12_where_26 eh34 fl_X12_203 rfl rfl ?_
    refine jw_goto (tgt := 102) dX12_where_29 (by decide) ?_
    exact l_X12_where_b102  hq
  · refine jw_icmp_ne_t (tgt := 32) dX12_where_11 (by decide) c5 ?_
    refine jw_aload_n dX12_where_32 (o := (some x0)) rfl ?_
    obtain ⟨a6, ea6, hq⟩ := Option.bind_eq_some_iff.mp hq
    obtain ⟨eoa6, eta6⟩ := jw_rc_spec ea6
    obtain ⟨w8, h7, ew8, hq⟩ := jw_b2_spec hq
    refine jw_callV (As := []) (S := []) (a := a6) (v := some (.int w8)) dX12_where_33 mt_X12_c in_X12_c se_X12_c lk_X12_162 (c_X12_c ew8) eta6 (by decide) rfl rfl (by decide) (Nat.le_of_ble_eq_true rfl) (by cases eoa6; rfl) ?_
    obtain ⟨w10, h9, ew10, hq⟩ := jw_b2_spec hq
    refine jw_callS (As := [.int w8]) (S := []) (v := some (.int w10)) dX12_where_36 mt_X12_beginsSpot st_X12_beginsSpot lk_X12_206 (c_X12_beginsSpot ew10) rfl (by decide) (Nat.le_of_ble_eq_true rfl) rfl ?_
    rcases jw_if hq with ⟨c11, hq⟩ | ⟨c11, hq⟩
    · refine jw_if_eq_t (tgt := 102) dX12_where_39 (by decide) c11 ?_
      exact l_X12_where_b102  hq
    · refine jw_if_eq_f (tgt := 102) dX12_where_39 (by decide) c11 ?_
      refine jw_aload_n dX12_where_42 (o := (some x0)) rfl ?_
      refine jw_aload_n dX12_where_43 (o := (some x0)) rfl ?_
      obtain ⟨v12, ev12, hq⟩ := Option.bind_eq_some_iff.mp hq
      refine jw_getI (o := (some x0)) dX12_where_44 ev12 fl_X12_149 rfl ?_
      obtain ⟨h13, eh13, hq⟩ := Option.bind_eq_some_iff.mp hq
      refine jw_putI (o := (some x0)) dX12_where_47 eh13 fl_X12_209 rfl rfl ?_
      refine jw_aload_n dX12_where_50 (o := (some x0)) rfl ?_
      obtain ⟨a14, ea14, hq⟩ := Option.bind_eq_some_iff.mp hq
      obtain ⟨eoa14, eta14⟩ := jw_rc_spec ea14
      obtain ⟨w16, h15, ew16, hq⟩ := jw_b2_spec hq
      refine jw_callV (As := []) (S := []) (a := a14) (v := none) dX12_where_51 mt_X12_address in_X12_address se_X12_address lk_X12_212 (c_X12_address ew16) eta14 (by decide) rfl rfl (by decide) (Nat.le_of_ble_eq_true rfl) (by cases eoa14; rfl) ?_
      refine jw_aload_n dX12_where_54 (o := (some x0)) rfl ?_
      refine jw_iconst dX12_where_55 (v := (2 : Int32)) (by decide) ?_
      obtain ⟨h17, eh17, hq⟩ := Option.bind_eq_some_iff.mp hq
      refine jw_putI (o := (some x0)) dX12_where_56 eh17 fl_X12_203 rfl rfl ?_
      refine jw_aload_n dX12_where_59 (o := (some x0)) rfl ?_
      obtain ⟨v18, ev18, hq⟩ := Option.bind_eq_some_iff.mp hq
      refine jw_getI (o := (some x0)) dX12_where_60 ev18 fl_X12_156 rfl ?_
      rcases jw_if hq with ⟨c19, hq⟩ | ⟨c19, hq⟩
      · refine jw_if_ge_t (tgt := 102) dX12_where_63 (by decide) c19 ?_
        exact l_X12_where_b102  hq
      · refine jw_if_ge_f (tgt := 102) dX12_where_63 (by decide) c19 ?_
        refine jw_aload_n dX12_where_66 (o := (some x0)) rfl ?_
        obtain ⟨a20, ea20, hq⟩ := Option.bind_eq_some_iff.mp hq
        obtain ⟨eoa20, eta20⟩ := jw_rc_spec ea20
        obtain ⟨w22, h21, ew22, hq⟩ := jw_b2_spec hq
        refine jw_callV (As := []) (S := []) (a := a20) (v := some (.int w22)) dX12_where_67 mt_X12_c in_X12_c se_X12_c lk_X12_162 (c_X12_c ew22) eta20 (by decide) rfl rfl (by decide) (Nat.le_of_ble_eq_true rfl) (by cases eoa20; rfl) ?_
        refine jw_bipush dX12_where_70 (v := (44 : Int32)) (by decide) ?_
        rcases jw_if hq with ⟨c23, hq⟩ | ⟨c23, hq⟩
        · refine jw_icmp_ne_f (tgt := 102) dX12_where_72 (by decide) c23 ?_
          refine jw_aload_n dX12_where_75 (o := (some x0)) rfl ?_
          refine jw_dup dX12_where_76 rfl ?_
          obtain ⟨v24, ev24, hq⟩ := Option.bind_eq_some_iff.mp hq
          refine jw_getI (o := (some x0)) dX12_where_77 ev24 fl_X12_149 rfl ?_
          refine jw_iconst dX12_where_80 (v := (1 : Int32)) (by decide) ?_
          refine jw_iadd dX12_where_81 ?_
          obtain ⟨h25, eh25, hq⟩ := Option.bind_eq_some_iff.mp hq
          refine jw_putI (o := (some x0)) dX12_where_82 eh25 fl_X12_149 rfl rfl ?_
          refine jw_aload_n dX12_where_85 (o := (some x0)) rfl ?_
          refine jw_aload_n dX12_where_86 (o := (some x0)) rfl ?_
          obtain ⟨v26, ev26, hq⟩ := Option.bind_eq_some_iff.mp hq
          refine jw_getI (o := (some x0)) dX12_where_87 ev26 fl_X12_149 rfl ?_
          obtain ⟨h27, eh27, hq⟩ := Option.bind_eq_some_iff.mp hq
          refine jw_putI (o := (some x0)) dX12_where_90 eh27 fl_X12_215 rfl rfl ?_
          refine jw_aload_n dX12_where_93 (o := (some x0)) rfl ?_
          obtain ⟨a28, ea28, hq⟩ := Option.bind_eq_some_iff.mp hq
          obtain ⟨eoa28, eta28⟩ := jw_rc_spec ea28
          obtain ⟨w30, h29, ew30, hq⟩ := jw_b2_spec hq
          refine jw_callV (As := []) (S := []) (a := a28) (v := none) dX12_where_94 mt_X12_address in_X12_address se_X12_address lk_X12_212 (c_X12_address ew30) eta28 (by decide) rfl rfl (by decide) (Nat.le_of_ble_eq_true rfl) (by cases eoa28; rfl) ?_
          refine jw_aload_n dX12_where_97 (o := (some x0)) rfl ?_
          refine jw_iconst dX12_where_98 (v := (3 : Int32)) (by decide) ?_
          obtain ⟨h31, eh31, hq⟩ := Option.bind_eq_some_iff.mp hq
          refine jw_putI (o := (some x0)) dX12_where_99 eh31 fl_X12_203 rfl rfl ?_
          exact l_X12_where_b102  hq
        · refine jw_icmp_ne_t (tgt := 102) dX12_where_72 (by decide) c23 ?_
          exact l_X12_where_b102  hq

theorem c_X12_where {h : jw_H} {x0 : Nat} {r : Unit} {h' : jw_H} (hq : f_X12_where h x0 = some (r, h')) : jw_Con (Cond.code yX12_where cX12_where 1 none) yX12_where 9 [.ref x0] h (.inl none) h' :=
  jw_con false (plainFor_of_name (by decide +kernel)) (fun z => nomatch z) (by simp [jw_ent, jw_sl0_nil, jw_sl0_int, jw_sl0_long, jw_sl0_ref, jw_sl0_rf, jw_sl0_scr, List.replicate]) (by simp [jw_sl0_nil, jw_sl0_int, jw_sl0_long, jw_sl0_ref, jw_sl0_rf, jw_sl0_scr]) (l_X12_where hq)


/-! X12_rows -/
noncomputable def g_X12_rows_b52 (k18 : jw_H → Nat → Int32 → Option (Unit × jw_H)) (h : jw_H) (x0 : Nat) (x2 : Int32) (t0 : Nat) (t1 : Int32) : Option (Unit × jw_H) :=
 (jw_rc h 12 (some t0)).bind fun a1 =>
 jw_b2 (f_X12_takeIf h a1 t1) fun w3 h2 =>
 k18 h2 x0 x2

noncomputable def g_X12_rows_b94 (k2 : jw_H → Nat → Int32 → Option (Unit × jw_H)) (h : jw_H) (x0 : Nat) (x1 : Int32) (t0 : Nat) (t1 : Int32) (t2 : Int32) : Option (Unit × jw_H) :=
 (jw_pI h 12 (some t0) 23 (t1 + t2)).bind fun h1 =>
 k2 h1 x0 x1

noncomputable def g_X12_rows_b79 (k2 : jw_H → Nat → Int32 → Option (Unit × jw_H)) (h : jw_H) (x0 : Nat) (t0 : Int32) : Option (Unit × jw_H) :=
 (jw_gI h 12 (some x0) 23).bind fun v1 =>
 if t0 = 0 then (g_X12_rows_b94 k2 h x0 t0 x0 v1 (0 : Int32))
 else (g_X12_rows_b94 k2 h x0 t0 x0 v1 (1 : Int32))

noncomputable def g_X12_rows_b78 (k2 : jw_H → Nat → Int32 → Option (Unit × jw_H)) (h : jw_H) (x0 : Nat) : Option (Unit × jw_H) :=
 g_X12_rows_b79 k2 h x0 (0 : Int32)

noncomputable def g_X12_rows_b58 (k2 : jw_H → Nat → Int32 → Option (Unit × jw_H)) (h : jw_H) (x0 : Nat) : Option (Unit × jw_H) :=
 (jw_gI h 12 (some x0) 24).bind fun v1 =>
 if 0 ≤ v1 then (g_X12_rows_b78 k2 h x0)
 else ((jw_rc h 12 (some x0)).bind fun a3 =>
 jw_b2 (f_X12_c h a3) fun w5 h4 =>
 if w5 = (124 : Int32) then (g_X12_rows_b79 k2 h4 x0 (1 : Int32))
 else (g_X12_rows_b78 k2 h4 x0))

noncomputable def g_X12_rows_b18 (k2 : jw_H → Nat → Int32 → Option (Unit × jw_H)) (k18 : jw_H → Nat → Int32 → Option (Unit × jw_H)) (h : jw_H) (x0 : Nat) (x2 : Int32) : Option (Unit × jw_H) :=
 (jw_rc h 12 (some x0)).bind fun a1 =>
 jw_b2 (f_X12_c h a1) fun w3 h2 =>
 jw_b2 (f_X12_isChar h2 w3) fun w5 h4 =>
 if w5 = 0 then (g_X12_rows_b58 k2 h4 x0)
 else ((jw_gI h4 12 (some x0) 24).bind fun v7 =>
 if 0 ≤ v7 then (g_X12_rows_b58 k2 h4 x0)
 else ((jw_gI h4 12 (some x0) 23).bind fun v9 =>
 if (30 : Int32) ≤ (v9 - x2) then (g_X12_rows_b52 k18 h4 x0 x2 x0 (0 : Int32))
 else (g_X12_rows_b52 k18 h4 x0 x2 x0 (1 : Int32))))

noncomputable def f_X12_rows_b18 (k2 : jw_H → Nat → Int32 → Option (Unit × jw_H)) (n : Nat) : jw_H → Nat → Int32 → Option (Unit × jw_H) :=
 Nat.rec (fun _ _ _ => none) (fun _ k18 => g_X12_rows_b18 k2 k18) n

noncomputable def g_X12_rows_b2 (k2 : jw_H → Nat → Int32 → Option (Unit × jw_H)) (h : jw_H) (x0 : Nat) (x1 : Int32) : Option (Unit × jw_H) :=
 if x1 = 0 then (some ((), h))
 else ((jw_gI h 12 (some x0) 24).bind fun v2 =>
 if 0 ≤ v2 then (some ((), h))
 else ((jw_gI h 12 (some x0) 23).bind fun v4 =>
 f_X12_rows_b18 k2 jw_FU h x0 v4))

noncomputable def f_X12_rows_b2 (n : Nat) : jw_H → Nat → Int32 → Option (Unit × jw_H) :=
 Nat.rec (fun _ _ _ => none) (fun _ k2 => g_X12_rows_b2 k2) n

noncomputable def f_X12_rows (h : jw_H) (x0 : Nat) : Option (Unit × jw_H) :=
 f_X12_rows_b2  jw_FU h x0 (1 : Int32)

set_option maxRecDepth 100000 in
set_option maxHeartbeats 4000000 in
theorem l_X12_rows_b52 {hi : jw_H} {k18 : jw_H → Nat → Int32 → Option (Unit × jw_H)} (hk18 : ∀ (h : jw_H) (x0 : Nat) (x2 : Int32) (r : Unit) (h' : jw_H), k18 h x0 x2 = some (r, h') → jw_E 2 uX12_rows hi 18 [some (.ref x0), none, some (.int x2)] [] h (.inl none) h') {h : jw_H} {x0 : Nat} {x2 : Int32} {t0 : Nat} {t1 : Int32} {r : Unit} {h' : jw_H} (hq : g_X12_rows_b52 k18 h x0 x2 t0 t1 = some (r, h')) : jw_E 2 uX12_rows hi 52 [some (.ref x0), none, some (.int x2)] [.int t1, .ref t0] h (.inl none) h' := by
  unfold g_X12_rows_b52 at hq
  obtain ⟨a1, ea1, hq⟩ := Option.bind_eq_some_iff.mp hq
  obtain ⟨eoa1, eta1⟩ := jw_rc_spec ea1
  obtain ⟨w3, h2, ew3, hq⟩ := jw_b2_spec hq
  refine jw_callV (As := [.int t1]) (S := []) (a := a1) (v := none) dX12_rows_52 mt_X12_takeIf in_X12_takeIf se_X12_takeIf lk_X12_166 (c_X12_takeIf ew3) eta1 (by decide) rfl rfl (by decide) (Nat.le_of_ble_eq_true rfl) (by cases eoa1; rfl) ?_
  refine jw_goto (tgt := 18) dX12_rows_55 (by decide) ?_
  exact hk18 _ _ _ _ _ hq

set_option maxRecDepth 100000 in
set_option maxHeartbeats 4000000 in
theorem l_X12_rows_b94 {hi : jw_H} {k2 : jw_H → Nat → Int32 → Option (Unit × jw_H)} (hk2 : ∀ (h : jw_H) (x0 : Nat) (x1 : Int32) (r : Unit) (h' : jw_H), k2 h x0 x1 = some (r, h') → jw_E 2 uX12_rows hi 2 [some (.ref x0), some (.int x1), none] [] h (.inl none) h') {h : jw_H} {x0 : Nat} {x1 : Int32} {t0 : Nat} {t1 : Int32} {t2 : Int32} {r : Unit} {h' : jw_H} (hq : g_X12_rows_b94 k2 h x0 x1 t0 t1 t2 = some (r, h')) : jw_E 2 uX12_rows hi 94 [some (.ref x0), some (.int x1), none] [.int t2, .int t1, .ref t0] h (.inl none) h' := by
  unfold g_X12_rows_b94 at hq
  refine jw_iadd dX12_rows_94 ?_
  obtain ⟨h1, eh1, hq⟩ := Option.bind_eq_some_iff.mp hq
  refine jw_putI (o := (some t0)) dX12_rows_95 eh1 fl_X12_149 rfl rfl ?_
  refine jw_goto (tgt := 2) dX12_rows_98 (by decide) ?_
  exact hk2 _ _ _ _ _ hq

set_option maxRecDepth 100000 in
set_option maxHeartbeats 4000000 in
theorem l_X12_rows_b79 {hi : jw_H} {k2 : jw_H → Nat → Int32 → Option (Unit × jw_H)} (hk2 : ∀ (h : jw_H) (x0 : Nat) (x1 : Int32) (r : Unit) (h' : jw_H), k2 h x0 x1 = some (r, h') → jw_E 2 uX12_rows hi 2 [some (.ref x0), some (.int x1), none] [] h (.inl none) h') {h : jw_H} {x0 : Nat} {t0 : Int32} {r : Unit} {h' : jw_H} (hq : g_X12_rows_b79 k2 h x0 t0 = some (r, h')) : jw_E 2 uX12_rows hi 79 [some (.ref x0), none, none] [.int t0] h (.inl none) h' := by
  unfold g_X12_rows_b79 at hq
  refine jw_istore_n (L' := [some (.ref x0), some (.int t0), none]) dX12_rows_79 (Nat.le_of_ble_eq_true rfl) rfl ?_
  refine jw_aload_n dX12_rows_80 (o := (some x0)) rfl ?_
  refine jw_dup dX12_rows_81 rfl ?_
  obtain ⟨v1, ev1, hq⟩ := Option.bind_eq_some_iff.mp hq
  refine jw_getI (o := (some x0)) dX12_rows_82 ev1 fl_X12_149 rfl ?_
  refine jw_iload_n dX12_rows_85 rfl ?_
  rcases jw_if hq with ⟨c2, hq⟩ | ⟨c2, hq⟩
  · refine jw_if_eq_t (tgt := 93) dX12_rows_86 (by decide) c2 ?_
    refine jw_iconst dX12_rows_93 (v := (0 : Int32)) (by decide) ?_
    exact l_X12_rows_b94 hk2 hq
  · refine jw_if_eq_f (tgt := 93) dX12_rows_86 (by decide) c2 ?_
    refine jw_iconst dX12_rows_89 (v := (1 : Int32)) (by decide) ?_
    refine jw_goto (tgt := 94) dX12_rows_90 (by decide) ?_
    exact l_X12_rows_b94 hk2 hq

set_option maxRecDepth 100000 in
set_option maxHeartbeats 4000000 in
theorem l_X12_rows_b78 {hi : jw_H} {k2 : jw_H → Nat → Int32 → Option (Unit × jw_H)} (hk2 : ∀ (h : jw_H) (x0 : Nat) (x1 : Int32) (r : Unit) (h' : jw_H), k2 h x0 x1 = some (r, h') → jw_E 2 uX12_rows hi 2 [some (.ref x0), some (.int x1), none] [] h (.inl none) h') {h : jw_H} {x0 : Nat} {r : Unit} {h' : jw_H} (hq : g_X12_rows_b78 k2 h x0 = some (r, h')) : jw_E 2 uX12_rows hi 78 [some (.ref x0), none, none] [] h (.inl none) h' := by
  unfold g_X12_rows_b78 at hq
  refine jw_iconst dX12_rows_78 (v := (0 : Int32)) (by decide) ?_
  exact l_X12_rows_b79 hk2 hq

set_option maxRecDepth 100000 in
set_option maxHeartbeats 4000000 in
theorem l_X12_rows_b58 {hi : jw_H} {k2 : jw_H → Nat → Int32 → Option (Unit × jw_H)} (hk2 : ∀ (h : jw_H) (x0 : Nat) (x1 : Int32) (r : Unit) (h' : jw_H), k2 h x0 x1 = some (r, h') → jw_E 2 uX12_rows hi 2 [some (.ref x0), some (.int x1), none] [] h (.inl none) h') {h : jw_H} {x0 : Nat} {r : Unit} {h' : jw_H} (hq : g_X12_rows_b58 k2 h x0 = some (r, h')) : jw_E 2 uX12_rows hi 58 [some (.ref x0), none, none] [] h (.inl none) h' := by
  unfold g_X12_rows_b58 at hq
  refine jw_aload_n dX12_rows_58 (o := (some x0)) rfl ?_
  obtain ⟨v1, ev1, hq⟩ := Option.bind_eq_some_iff.mp hq
  refine jw_getI (o := (some x0)) dX12_rows_59 ev1 fl_X12_156 rfl ?_
  rcases jw_if hq with ⟨c2, hq⟩ | ⟨c2, hq⟩
  · refine jw_if_ge_t (tgt := 78) dX12_rows_62 (by decide) c2 ?_
    exact l_X12_rows_b78 hk2 hq
  · refine jw_if_ge_f (tgt := 78) dX12_rows_62 (by decide) c2 ?_
    refine jw_aload_n dX12_rows_65 (o := (some x0)) rfl ?_
    obtain ⟨a3, ea3, hq⟩ := Option.bind_eq_some_iff.mp hq
    obtain ⟨eoa3, eta3⟩ := jw_rc_spec ea3
    obtain ⟨w5, h4, ew5, hq⟩ := jw_b2_spec hq
    refine jw_callV (As := []) (S := []) (a := a3) (v := some (.int w5)) dX12_rows_66 mt_X12_c in_X12_c se_X12_c lk_X12_162 (c_X12_c ew5) eta3 (by decide) rfl rfl (by decide) (Nat.le_of_ble_eq_true rfl) (by cases eoa3; rfl) ?_
    refine jw_bipush dX12_rows_69 (v := (124 : Int32)) (by decide) ?_
    rcases jw_if hq with ⟨c6, hq⟩ | ⟨c6, hq⟩
    · refine jw_icmp_ne_f (tgt := 78) dX12_rows_71 (by decide) c6 ?_
      refine jw_iconst dX12_rows_74 (v := (1 : Int32)) (by decide) ?_
      refine jw_goto (tgt := 79) dX12_rows_75 (by decide) ?_
      exact l_X12_rows_b79 hk2 hq
    · refine jw_icmp_ne_t (tgt := 78) dX12_rows_71 (by decide) c6 ?_
      exact l_X12_rows_b78 hk2 hq

set_option maxRecDepth 100000 in
set_option maxHeartbeats 4000000 in
theorem l_X12_rows_b18g {hi : jw_H} {k2 : jw_H → Nat → Int32 → Option (Unit × jw_H)} (hk2 : ∀ (h : jw_H) (x0 : Nat) (x1 : Int32) (r : Unit) (h' : jw_H), k2 h x0 x1 = some (r, h') → jw_E 2 uX12_rows hi 2 [some (.ref x0), some (.int x1), none] [] h (.inl none) h') {k18 : jw_H → Nat → Int32 → Option (Unit × jw_H)} (hk18 : ∀ (h : jw_H) (x0 : Nat) (x2 : Int32) (r : Unit) (h' : jw_H), k18 h x0 x2 = some (r, h') → jw_E 2 uX12_rows hi 18 [some (.ref x0), none, some (.int x2)] [] h (.inl none) h') {h : jw_H} {x0 : Nat} {x2 : Int32} {r : Unit} {h' : jw_H} (hq : g_X12_rows_b18 k2 k18 h x0 x2 = some (r, h')) : jw_E 2 uX12_rows hi 18 [some (.ref x0), none, some (.int x2)] [] h (.inl none) h' := by
  unfold g_X12_rows_b18 at hq
  refine jw_aload_n dX12_rows_18 (o := (some x0)) rfl ?_
  obtain ⟨a1, ea1, hq⟩ := Option.bind_eq_some_iff.mp hq
  obtain ⟨eoa1, eta1⟩ := jw_rc_spec ea1
  obtain ⟨w3, h2, ew3, hq⟩ := jw_b2_spec hq
  refine jw_callV (As := []) (S := []) (a := a1) (v := some (.int w3)) dX12_rows_19 mt_X12_c in_X12_c se_X12_c lk_X12_162 (c_X12_c ew3) eta1 (by decide) rfl rfl (by decide) (Nat.le_of_ble_eq_true rfl) (by cases eoa1; rfl) ?_
  obtain ⟨w5, h4, ew5, hq⟩ := jw_b2_spec hq
  refine jw_callS (As := [.int w3]) (S := []) (v := some (.int w5)) dX12_rows_22 mt_X12_isChar st_X12_isChar lk_X12_173 (c_X12_isChar ew5) rfl (by decide) (Nat.le_of_ble_eq_true rfl) rfl ?_
  rcases jw_if hq with ⟨c6, hq⟩ | ⟨c6, hq⟩
  · refine jw_if_eq_t (tgt := 58) dX12_rows_25 (by decide) c6 ?_
    refine jw_forget [true, true, false] (L' := [some (.ref x0), none, none]) rfl ?_
    exact l_X12_rows_b58 hk2 hq
  · refine jw_if_eq_f (tgt := 58) dX12_rows_25 (by decide) c6 ?_
    refine jw_aload_n dX12_rows_28 (o := (some x0)) rfl ?_
    obtain ⟨v7, ev7, hq⟩ := Option.bind_eq_some_iff.mp hq
    refine jw_getI (o := (some x0)) dX12_rows_29 ev7 fl_X12_156 rfl ?_
    rcases jw_if hq with ⟨c8, hq⟩ | ⟨c8, hq⟩
    · refine jw_if_ge_t (tgt := 58) dX12_rows_32 (by decide) c8 ?_
      refine jw_forget [true, true, false] (L' := [some (.ref x0), none, none]) rfl ?_
      exact l_X12_rows_b58 hk2 hq
    · refine jw_if_ge_f (tgt := 58) dX12_rows_32 (by decide) c8 ?_
      refine jw_aload_n dX12_rows_35 (o := (some x0)) rfl ?_
      refine jw_aload_n dX12_rows_36 (o := (some x0)) rfl ?_
      obtain ⟨v9, ev9, hq⟩ := Option.bind_eq_some_iff.mp hq
      refine jw_getI (o := (some x0)) dX12_rows_37 ev9 fl_X12_149 rfl ?_
      refine jw_iload_n dX12_rows_40 rfl ?_
      refine jw_isub dX12_rows_41 ?_
      refine jw_bipush dX12_rows_42 (v := (30 : Int32)) (by decide) ?_
      rcases jw_if hq with ⟨c10, hq⟩ | ⟨c10, hq⟩
      · refine jw_icmp_ge_t (tgt := 51) dX12_rows_44 (by decide) c10 ?_
        refine jw_iconst dX12_rows_51 (v := (0 : Int32)) (by decide) ?_
        exact l_X12_rows_b52 hk18 hq
      · refine jw_icmp_ge_f (tgt := 51) dX12_rows_44 (by decide) c10 ?_
        refine jw_iconst dX12_rows_47 (v := (1 : Int32)) (by decide) ?_
        refine jw_goto (tgt := 52) dX12_rows_48 (by decide) ?_
        exact l_X12_rows_b52 hk18 hq

theorem l_X12_rows_b18 {hi : jw_H} {k2 : jw_H → Nat → Int32 → Option (Unit × jw_H)} (hk2 : ∀ (h : jw_H) (x0 : Nat) (x1 : Int32) (r : Unit) (h' : jw_H), k2 h x0 x1 = some (r, h') → jw_E 2 uX12_rows hi 2 [some (.ref x0), some (.int x1), none] [] h (.inl none) h') : ∀ (n : Nat) (h : jw_H) (x0 : Nat) (x2 : Int32) (r : Unit) (h' : jw_H), f_X12_rows_b18 k2 n h x0 x2 = some (r, h') → jw_E 2 uX12_rows hi 18 [some (.ref x0), none, some (.int x2)] [] h (.inl none) h' := by
  intro n
  induction n with
  | zero => intro h x0 x2 r h' hq; exact nomatch hq
  | succ n ih => intro h x0 x2 r h' hq; exact l_X12_rows_b18g hk2 ih hq

set_option maxRecDepth 100000 in
set_option maxHeartbeats 4000000 in
theorem l_X12_rows_b2g {hi : jw_H} {k2 : jw_H → Nat → Int32 → Option (Unit × jw_H)} (hk2 : ∀ (h : jw_H) (x0 : Nat) (x1 : Int32) (r : Unit) (h' : jw_H), k2 h x0 x1 = some (r, h') → jw_E 2 uX12_rows hi 2 [some (.ref x0), some (.int x1), none] [] h (.inl none) h') {h : jw_H} {x0 : Nat} {x1 : Int32} {r : Unit} {h' : jw_H} (hq : g_X12_rows_b2 k2 h x0 x1 = some (r, h')) : jw_E 2 uX12_rows hi 2 [some (.ref x0), some (.int x1), none] [] h (.inl none) h' := by
  unfold g_X12_rows_b2 at hq
  refine jw_iload_n dX12_rows_2 rfl ?_
  rcases jw_if hq with ⟨c1, hq⟩ | ⟨c1, hq⟩
  · refine jw_if_eq_t (tgt := 101) dX12_rows_3 (by decide) c1 ?_
    cases hq
    exact jw_vret dX12_rows_101 rfl
  · refine jw_if_eq_f (tgt := 101) dX12_rows_3 (by decide) c1 ?_
    refine jw_aload_n dX12_rows_6 (o := (some x0)) rfl ?_
    obtain ⟨v2, ev2, hq⟩ := Option.bind_eq_some_iff.mp hq
    refine jw_getI (o := (some x0)) dX12_rows_7 ev2 fl_X12_156 rfl ?_
    rcases jw_if hq with ⟨c3, hq⟩ | ⟨c3, hq⟩
    · refine jw_if_ge_t (tgt := 101) dX12_rows_10 (by decide) c3 ?_
      cases hq
      exact jw_vret dX12_rows_101 rfl
    · refine jw_if_ge_f (tgt := 101) dX12_rows_10 (by decide) c3 ?_
      refine jw_aload_n dX12_rows_13 (o := (some x0)) rfl ?_
      obtain ⟨v4, ev4, hq⟩ := Option.bind_eq_some_iff.mp hq
      refine jw_getI (o := (some x0)) dX12_rows_14 ev4 fl_X12_149 rfl ?_
      refine jw_istore_n (L' := [some (.ref x0), some (.int x1), some (.int v4)]) dX12_rows_17 (Nat.le_of_ble_eq_true rfl) rfl ?_
      refine jw_forget [true, false, true] (L' := [some (.ref x0), none, some (.int v4)]) rfl ?_
      exact l_X12_rows_b18 hk2 jw_FU _ _ _ _ _ hq

theorem l_X12_rows_b2 {hi : jw_H} : ∀ (n : Nat) (h : jw_H) (x0 : Nat) (x1 : Int32) (r : Unit) (h' : jw_H), f_X12_rows_b2  n h x0 x1 = some (r, h') → jw_E 2 uX12_rows hi 2 [some (.ref x0), some (.int x1), none] [] h (.inl none) h' := by
  intro n
  induction n with
  | zero => intro h x0 x1 r h' hq; exact nomatch hq
  | succ n ih => intro h x0 x1 r h' hq; exact l_X12_rows_b2g ih hq

set_option maxRecDepth 100000 in
set_option maxHeartbeats 4000000 in
theorem l_X12_rows {hi : jw_H} {h : jw_H} {x0 : Nat} {r : Unit} {h' : jw_H} (hq : f_X12_rows  h x0 = some (r, h')) : jw_E 2 uX12_rows hi 0 [some (.ref x0), none, none] [] h (.inl none) h' := by
  unfold f_X12_rows at hq
  refine jw_iconst dX12_rows_0 (v := (1 : Int32)) (by decide) ?_
  refine jw_istore_n (L' := [some (.ref x0), some (.int (1 : Int32)), none]) dX12_rows_1 (Nat.le_of_ble_eq_true rfl) rfl ?_
  exact l_X12_rows_b2  jw_FU _ _ _ _ _ hq

theorem c_X12_rows {h : jw_H} {x0 : Nat} {r : Unit} {h' : jw_H} (hq : f_X12_rows h x0 = some (r, h')) : jw_Con (Cond.code yX12_rows cX12_rows 3 none) yX12_rows 2 [.ref x0] h (.inl none) h' :=
  jw_con false (plainFor_of_name (by decide +kernel)) (fun z => nomatch z) (by simp [jw_ent, jw_sl0_nil, jw_sl0_int, jw_sl0_long, jw_sl0_ref, jw_sl0_rf, jw_sl0_scr, List.replicate]) (by simp [jw_sl0_nil, jw_sl0_int, jw_sl0_long, jw_sl0_ref, jw_sl0_rf, jw_sl0_scr]) (l_X12_rows hq)


/-! X12_replacing -/
noncomputable def g_X12_replacing_b107 (k18 : jw_H → Nat → Option (Unit × jw_H)) (h : jw_H) (x0 : Nat) (t0 : Nat) (t1 : Int32) : Option (Unit × jw_H) :=
 (jw_rc h 12 (some t0)).bind fun a1 =>
 jw_b2 (f_X12_takeIf h a1 t1) fun w3 h2 =>
 k18 h2 x0

noncomputable def g_X12_replacing_b106 (k18 : jw_H → Nat → Option (Unit × jw_H)) (h : jw_H) (x0 : Nat) (t0 : Nat) : Option (Unit × jw_H) :=
 g_X12_replacing_b107 k18 h x0 t0 (0 : Int32)

noncomputable def g_X12_replacing_b75 (k18 : jw_H → Nat → Option (Unit × jw_H)) (h : jw_H) (x0 : Nat) (t0 : Nat) (t1 : Int32) : Option (Unit × jw_H) :=
 (jw_rc h 12 (some t0)).bind fun a1 =>
 jw_b2 (f_X12_takeIf h a1 t1) fun w3 h2 =>
 (jw_rc h2 12 (some x0)).bind fun a4 =>
 jw_b2 (f_X12_c h2 a4) fun w6 h5 =>
 if w6 < (49 : Int32) then (g_X12_replacing_b106 k18 h5 x0 x0)
 else ((jw_rc h5 12 (some x0)).bind fun a8 =>
 jw_b2 (f_X12_c h5 a8) fun w10 h9 =>
 (jw_gI h9 12 (some x0) 25).bind fun v11 =>
 if ((48 : Int32) + v11) < w10 then (g_X12_replacing_b106 k18 h9 x0 x0)
 else (g_X12_replacing_b107 k18 h9 x0 x0 (1 : Int32)))

noncomputable def g_X12_replacing_b53 (k18 : jw_H → Nat → Option (Unit × jw_H)) (h : jw_H) (x0 : Nat) : Option (Unit × jw_H) :=
 (jw_rc h 12 (some x0)).bind fun a1 =>
 jw_b2 (f_X12_c h a1) fun w3 h2 =>
 if w3 = (92 : Int32) then ((jw_gI h2 12 (some x0) 25).bind fun v7 =>
 if v7 ≤ 0 then (g_X12_replacing_b75 k18 h2 x0 x0 (0 : Int32))
 else (g_X12_replacing_b75 k18 h2 x0 x0 (1 : Int32)))
 else ((jw_gI h2 12 (some x0) 23).bind fun v5 =>
 (jw_pI h2 12 (some x0) 23 (v5 + (1 : Int32))).bind fun h6 =>
 k18 h6 x0)

noncomputable def g_X12_replacing_b166 (h : jw_H) (x0 : Nat) : Option (Unit × jw_H) :=
 (jw_gI h 12 (some x0) 23).bind fun v1 =>
 (jw_pI h 12 (some x0) 23 (v1 + (1 : Int32))).bind fun h2 =>
 some ((), h2)

noncomputable def g_X12_replacing_b126 (h : jw_H) (x0 : Nat) : Option (Unit × jw_H) :=
 (jw_rc h 12 (some x0)).bind fun a1 =>
 jw_b2 (f_X12_take h a1 (47 : Int32)) fun w3 h2 =>
 (jw_gI h2 12 (some x0) 24).bind fun v4 =>
 if 0 ≤ v4 then (some ((), h2))
 else ((jw_rc h2 12 (some x0)).bind fun a6 =>
 jw_b2 (f_X12_c h2 a6) fun w8 h7 =>
 if w8 = (103 : Int32) then (g_X12_replacing_b166  h7 x0)
 else ((jw_rc h7 12 (some x0)).bind fun a10 =>
 jw_b2 (f_X12_c h7 a10) fun w12 h11 =>
 if w12 < (49 : Int32) then (some ((), h11))
 else ((jw_rc h11 12 (some x0)).bind fun a14 =>
 jw_b2 (f_X12_c h11 a14) fun w16 h15 =>
 if (57 : Int32) < w16 then (some ((), h15))
 else (g_X12_replacing_b166  h15 x0))))

noncomputable def g_X12_replacing_b18 (k18 : jw_H → Nat → Option (Unit × jw_H)) (h : jw_H) (x0 : Nat) : Option (Unit × jw_H) :=
 (jw_gI h 12 (some x0) 24).bind fun v1 =>
 if 0 ≤ v1 then (g_X12_replacing_b126  h x0)
 else ((jw_rc h 12 (some x0)).bind fun a3 =>
 jw_b2 (f_X12_c h a3) fun w5 h4 =>
 jw_b2 (f_X12_isChar h4 w5) fun w7 h6 =>
 if w7 = 0 then ((jw_rc h6 12 (some x0)).bind fun a9 =>
 jw_b2 (f_X12_c h6 a9) fun w11 h10 =>
 if w11 = (38 : Int32) then (g_X12_replacing_b53 k18 h10 x0)
 else ((jw_rc h10 12 (some x0)).bind fun a13 =>
 jw_b2 (f_X12_c h10 a13) fun w15 h14 =>
 if w15 = (92 : Int32) then (g_X12_replacing_b53 k18 h14 x0)
 else (g_X12_replacing_b126  h14 x0)))
 else (g_X12_replacing_b53 k18 h6 x0))

noncomputable def f_X12_replacing_b18 (n : Nat) : jw_H → Nat → Option (Unit × jw_H) :=
 Nat.rec (fun _ _ => none) (fun _ k18 => g_X12_replacing_b18 k18) n

noncomputable def f_X12_replacing (h : jw_H) (x0 : Nat) : Option (Unit × jw_H) :=
 (jw_rc h 12 (some x0)).bind fun a1 =>
 jw_b2 (f_X12_take h a1 (47 : Int32)) fun w3 h2 =>
 (jw_rc h2 12 (some x0)).bind fun a4 =>
 jw_b2 (f_X12_pattern h2 a4 (47 : Int32)) fun w6 h5 =>
 (jw_rc h5 12 (some x0)).bind fun a7 =>
 jw_b2 (f_X12_take h5 a7 (47 : Int32)) fun w9 h8 =>
 f_X12_replacing_b18  jw_FU h8 x0

set_option maxRecDepth 100000 in
set_option maxHeartbeats 4000000 in
theorem l_X12_replacing_b107 {hi : jw_H} {k18 : jw_H → Nat → Option (Unit × jw_H)} (hk18 : ∀ (h : jw_H) (x0 : Nat) (r : Unit) (h' : jw_H), k18 h x0 = some (r, h') → jw_E 7 uX12_replacing hi 18 [some (.ref x0)] [] h (.inl none) h') {h : jw_H} {x0 : Nat} {t0 : Nat} {t1 : Int32} {r : Unit} {h' : jw_H} (hq : g_X12_replacing_b107 k18 h x0 t0 t1 = some (r, h')) : jw_E 7 uX12_replacing hi 107 [some (.ref x0)] [.int t1, .ref t0] h (.inl none) h' := by
  unfold g_X12_replacing_b107 at hq
  obtain ⟨a1, ea1, hq⟩ := Option.bind_eq_some_iff.mp hq
  obtain ⟨eoa1, eta1⟩ := jw_rc_spec ea1
  obtain ⟨w3, h2, ew3, hq⟩ := jw_b2_spec hq
  refine jw_callV (As := [.int t1]) (S := []) (a := a1) (v := none) dX12_replacing_107 mt_X12_takeIf in_X12_takeIf se_X12_takeIf lk_X12_166 (c_X12_takeIf ew3) eta1 (by decide) rfl rfl (by decide) (Nat.le_of_ble_eq_true rfl) (by cases eoa1; rfl) ?_
  refine jw_goto (tgt := 18) dX12_replacing_110 (by decide) ?_
  exact hk18 _ _ _ _ hq

set_option maxRecDepth 100000 in
set_option maxHeartbeats 4000000 in
theorem l_X12_replacing_b106 {hi : jw_H} {k18 : jw_H → Nat → Option (Unit × jw_H)} (hk18 : ∀ (h : jw_H) (x0 : Nat) (r : Unit) (h' : jw_H), k18 h x0 = some (r, h') → jw_E 7 uX12_replacing hi 18 [some (.ref x0)] [] h (.inl none) h') {h : jw_H} {x0 : Nat} {t0 : Nat} {r : Unit} {h' : jw_H} (hq : g_X12_replacing_b106 k18 h x0 t0 = some (r, h')) : jw_E 7 uX12_replacing hi 106 [some (.ref x0)] [.ref t0] h (.inl none) h' := by
  unfold g_X12_replacing_b106 at hq
  refine jw_iconst dX12_replacing_106 (v := (0 : Int32)) (by decide) ?_
  exact l_X12_replacing_b107 hk18 hq

set_option maxRecDepth 100000 in
set_option maxHeartbeats 4000000 in
theorem l_X12_replacing_b75 {hi : jw_H} {k18 : jw_H → Nat → Option (Unit × jw_H)} (hk18 : ∀ (h : jw_H) (x0 : Nat) (r : Unit) (h' : jw_H), k18 h x0 = some (r, h') → jw_E 7 uX12_replacing hi 18 [some (.ref x0)] [] h (.inl none) h') {h : jw_H} {x0 : Nat} {t0 : Nat} {t1 : Int32} {r : Unit} {h' : jw_H} (hq : g_X12_replacing_b75 k18 h x0 t0 t1 = some (r, h')) : jw_E 7 uX12_replacing hi 75 [some (.ref x0)] [.int t1, .ref t0] h (.inl none) h' := by
  unfold g_X12_replacing_b75 at hq
  obtain ⟨a1, ea1, hq⟩ := Option.bind_eq_some_iff.mp hq
  obtain ⟨eoa1, eta1⟩ := jw_rc_spec ea1
  obtain ⟨w3, h2, ew3, hq⟩ := jw_b2_spec hq
  refine jw_callV (As := [.int t1]) (S := []) (a := a1) (v := none) dX12_replacing_75 mt_X12_takeIf in_X12_takeIf se_X12_takeIf lk_X12_166 (c_X12_takeIf ew3) eta1 (by decide) rfl rfl (by decide) (Nat.le_of_ble_eq_true rfl) (by cases eoa1; rfl) ?_
  refine jw_aload_n dX12_replacing_78 (o := (some x0)) rfl ?_
  refine jw_aload_n dX12_replacing_79 (o := (some x0)) rfl ?_
  obtain ⟨a4, ea4, hq⟩ := Option.bind_eq_some_iff.mp hq
  obtain ⟨eoa4, eta4⟩ := jw_rc_spec ea4
  obtain ⟨w6, h5, ew6, hq⟩ := jw_b2_spec hq
  refine jw_callV (As := []) (S := [.ref x0]) (a := a4) (v := some (.int w6)) dX12_replacing_80 mt_X12_c in_X12_c se_X12_c lk_X12_162 (c_X12_c ew6) eta4 (by decide) rfl rfl (by decide) (Nat.le_of_ble_eq_true rfl) (by cases eoa4; rfl) ?_
  refine jw_bipush dX12_replacing_83 (v := (49 : Int32)) (by decide) ?_
  rcases jw_if hq with ⟨c7, hq⟩ | ⟨c7, hq⟩
  · refine jw_icmp_lt_t (tgt := 106) dX12_replacing_85 (by decide) c7 ?_
    exact l_X12_replacing_b106 hk18 hq
  · refine jw_icmp_lt_f (tgt := 106) dX12_replacing_85 (by decide) c7 ?_
    refine jw_aload_n dX12_replacing_88 (o := (some x0)) rfl ?_
    obtain ⟨a8, ea8, hq⟩ := Option.bind_eq_some_iff.mp hq
    obtain ⟨eoa8, eta8⟩ := jw_rc_spec ea8
    obtain ⟨w10, h9, ew10, hq⟩ := jw_b2_spec hq
    refine jw_callV (As := []) (S := [.ref x0]) (a := a8) (v := some (.int w10)) dX12_replacing_89 mt_X12_c in_X12_c se_X12_c lk_X12_162 (c_X12_c ew10) eta8 (by decide) rfl rfl (by decide) (Nat.le_of_ble_eq_true rfl) (by cases eoa8; rfl) ?_
    refine jw_bipush dX12_replacing_92 (v := (48 : Int32)) (by decide) ?_
    refine jw_aload_n dX12_replacing_94 (o := (some x0)) rfl ?_
    obtain ⟨v11, ev11, hq⟩ := Option.bind_eq_some_iff.mp hq
    refine jw_getI (o := (some x0)) dX12_replacing_95 ev11 fl_X12_179 rfl ?_
    refine jw_iadd dX12_replacing_98 ?_
    rcases jw_if hq with ⟨c12, hq⟩ | ⟨c12, hq⟩
    · refine jw_icmp_gt_t (tgt := 106) dX12_replacing_99 (by decide) c12 ?_
      exact l_X12_replacing_b106 hk18 hq
    · refine jw_icmp_gt_f (tgt := 106) dX12_replacing_99 (by decide) c12 ?_
      refine jw_iconst dX12_replacing_102 (v := (1 : Int32)) (by decide) ?_
      refine jw_goto (tgt := 107) dX12_replacing_103 (by decide) ?_
      exact l_X12_replacing_b107 hk18 hq

set_option maxRecDepth 100000 in
set_option maxHeartbeats 4000000 in
theorem l_X12_replacing_b53 {hi : jw_H} {k18 : jw_H → Nat → Option (Unit × jw_H)} (hk18 : ∀ (h : jw_H) (x0 : Nat) (r : Unit) (h' : jw_H), k18 h x0 = some (r, h') → jw_E 7 uX12_replacing hi 18 [some (.ref x0)] [] h (.inl none) h') {h : jw_H} {x0 : Nat} {r : Unit} {h' : jw_H} (hq : g_X12_replacing_b53 k18 h x0 = some (r, h')) : jw_E 7 uX12_replacing hi 53 [some (.ref x0)] [] h (.inl none) h' := by
  unfold g_X12_replacing_b53 at hq
  refine jw_aload_n dX12_replacing_53 (o := (some x0)) rfl ?_
  obtain ⟨a1, ea1, hq⟩ := Option.bind_eq_some_iff.mp hq
  obtain ⟨eoa1, eta1⟩ := jw_rc_spec ea1
  obtain ⟨w3, h2, ew3, hq⟩ := jw_b2_spec hq
  refine jw_callV (As := []) (S := []) (a := a1) (v := some (.int w3)) dX12_replacing_54 mt_X12_c in_X12_c se_X12_c lk_X12_162 (c_X12_c ew3) eta1 (by decide) rfl rfl (by decide) (Nat.le_of_ble_eq_true rfl) (by cases eoa1; rfl) ?_
  refine jw_bipush dX12_replacing_57 (v := (92 : Int32)) (by decide) ?_
  rcases jw_if hq with ⟨c4, hq⟩ | ⟨c4, hq⟩
  · refine jw_icmp_ne_f (tgt := 113) dX12_replacing_59 (by decide) c4 ?_
    refine jw_aload_n dX12_replacing_62 (o := (some x0)) rfl ?_
    refine jw_aload_n dX12_replacing_63 (o := (some x0)) rfl ?_
    obtain ⟨v7, ev7, hq⟩ := Option.bind_eq_some_iff.mp hq
    refine jw_getI (o := (some x0)) dX12_replacing_64 ev7 fl_X12_179 rfl ?_
    rcases jw_if hq with ⟨c8, hq⟩ | ⟨c8, hq⟩
    · refine jw_if_le_t (tgt := 74) dX12_replacing_67 (by decide) c8 ?_
      refine jw_iconst dX12_replacing_74 (v := (0 : Int32)) (by decide) ?_
      exact l_X12_replacing_b75 hk18 hq
    · refine jw_if_le_f (tgt := 74) dX12_replacing_67 (by decide) c8 ?_
      refine jw_iconst dX12_replacing_70 (v := (1 : Int32)) (by decide) ?_
      refine jw_goto (tgt := 75) dX12_replacing_71 (by decide) ?_
      exact l_X12_replacing_b75 hk18 hq
  · refine jw_icmp_ne_t (tgt := 113) dX12_replacing_59 (by decide) c4 ?_
    refine jw_aload_n dX12_replacing_113 (o := (some x0)) rfl ?_
    refine jw_dup dX12_replacing_114 rfl ?_
    obtain ⟨v5, ev5, hq⟩ := Option.bind_eq_some_iff.mp hq
    refine jw_getI (o := (some x0)) dX12_replacing_115 ev5 fl_X12_149 rfl ?_
    refine jw_iconst dX12_replacing_118 (v := (1 : Int32)) (by decide) ?_
    refine jw_iadd dX12_replacing_119 ?_
    obtain ⟨h6, eh6, hq⟩ := Option.bind_eq_some_iff.mp hq
    refine jw_putI (o := (some x0)) dX12_replacing_120 eh6 fl_X12_149 rfl rfl ?_
    refine jw_goto (tgt := 18) dX12_replacing_123 (by decide) ?_
    exact hk18 _ _ _ _ hq

set_option maxRecDepth 100000 in
set_option maxHeartbeats 4000000 in
theorem l_X12_replacing_b166 {hi : jw_H} {h : jw_H} {x0 : Nat} {r : Unit} {h' : jw_H} (hq : g_X12_replacing_b166  h x0 = some (r, h')) : jw_E 7 uX12_replacing hi 166 [some (.ref x0)] [] h (.inl none) h' := by
  unfold g_X12_replacing_b166 at hq
  refine jw_aload_n dX12_replacing_166 (o := (some x0)) rfl ?_
  refine jw_dup dX12_replacing_167 rfl ?_
  obtain ⟨v1, ev1, hq⟩ := Option.bind_eq_some_iff.mp hq
  refine jw_getI (o := (some x0)) dX12_replacing_168 ev1 fl_X12_149 rfl ?_
  refine jw_iconst dX12_replacing_171 (v := (1 : Int32)) (by decide) ?_
  refine jw_iadd dX12_replacing_172 ?_
  obtain ⟨h2, eh2, hq⟩ := Option.bind_eq_some_iff.mp hq
  refine jw_putI (o := (some x0)) dX12_replacing_173 eh2 fl_X12_149 rfl rfl ?_
  cases hq
  exact jw_vret dX12_replacing_176 rfl

set_option maxRecDepth 100000 in
set_option maxHeartbeats 4000000 in
theorem l_X12_replacing_b126 {hi : jw_H} {h : jw_H} {x0 : Nat} {r : Unit} {h' : jw_H} (hq : g_X12_replacing_b126  h x0 = some (r, h')) : jw_E 7 uX12_replacing hi 126 [some (.ref x0)] [] h (.inl none) h' := by
  unfold g_X12_replacing_b126 at hq
  refine jw_aload_n dX12_replacing_126 (o := (some x0)) rfl ?_
  refine jw_bipush dX12_replacing_127 (v := (47 : Int32)) (by decide) ?_
  obtain ⟨a1, ea1, hq⟩ := Option.bind_eq_some_iff.mp hq
  obtain ⟨eoa1, eta1⟩ := jw_rc_spec ea1
  obtain ⟨w3, h2, ew3, hq⟩ := jw_b2_spec hq
  refine jw_callV (As := [.int (47 : Int32)]) (S := []) (a := a1) (v := none) dX12_replacing_129 mt_X12_take in_X12_take se_X12_take lk_X12_176 (c_X12_take ew3) eta1 (by decide) rfl rfl (by decide) (Nat.le_of_ble_eq_true rfl) (by cases eoa1; rfl) ?_
  refine jw_aload_n dX12_replacing_132 (o := (some x0)) rfl ?_
  obtain ⟨v4, ev4, hq⟩ := Option.bind_eq_some_iff.mp hq
  refine jw_getI (o := (some x0)) dX12_replacing_133 ev4 fl_X12_156 rfl ?_
  rcases jw_if hq with ⟨c5, hq⟩ | ⟨c5, hq⟩
  · refine jw_if_ge_t (tgt := 176) dX12_replacing_136 (by decide) c5 ?_
    cases hq
    exact jw_vret dX12_replacing_176 rfl
  · refine jw_if_ge_f (tgt := 176) dX12_replacing_136 (by decide) c5 ?_
    refine jw_aload_n dX12_replacing_139 (o := (some x0)) rfl ?_
    obtain ⟨a6, ea6, hq⟩ := Option.bind_eq_some_iff.mp hq
    obtain ⟨eoa6, eta6⟩ := jw_rc_spec ea6
    obtain ⟨w8, h7, ew8, hq⟩ := jw_b2_spec hq
    refine jw_callV (As := []) (S := []) (a := a6) (v := some (.int w8)) dX12_replacing_140 mt_X12_c in_X12_c se_X12_c lk_X12_162 (c_X12_c ew8) eta6 (by decide) rfl rfl (by decide) (Nat.le_of_ble_eq_true rfl) (by cases eoa6; rfl) ?_
    refine jw_bipush dX12_replacing_143 (v := (103 : Int32)) (by decide) ?_
    rcases jw_if hq with ⟨c9, hq⟩ | ⟨c9, hq⟩
    · refine jw_icmp_eq_t (tgt := 166) dX12_replacing_145 (by decide) c9 ?_
      exact l_X12_replacing_b166  hq
    · refine jw_icmp_eq_f (tgt := 166) dX12_replacing_145 (by decide) c9 ?_
      refine jw_aload_n dX12_replacing_148 (o := (some x0)) rfl ?_
      obtain ⟨a10, ea10, hq⟩ := Option.bind_eq_some_iff.mp hq
      obtain ⟨eoa10, eta10⟩ := jw_rc_spec ea10
      obtain ⟨w12, h11, ew12, hq⟩ := jw_b2_spec hq
      refine jw_callV (As := []) (S := []) (a := a10) (v := some (.int w12)) dX12_replacing_149 mt_X12_c in_X12_c se_X12_c lk_X12_162 (c_X12_c ew12) eta10 (by decide) rfl rfl (by decide) (Nat.le_of_ble_eq_true rfl) (by cases eoa10; rfl) ?_
      refine jw_bipush dX12_replacing_152 (v := (49 : Int32)) (by decide) ?_
      rcases jw_if hq with ⟨c13, hq⟩ | ⟨c13, hq⟩
      · refine jw_icmp_lt_t (tgt := 176) dX12_replacing_154 (by decide) c13 ?_
        cases hq
        exact jw_vret dX12_replacing_176 rfl
      · refine jw_icmp_lt_f (tgt := 176) dX12_replacing_154 (by decide) c13 ?_
        refine jw_aload_n dX12_replacing_157 (o := (some x0)) rfl ?_
        obtain ⟨a14, ea14, hq⟩ := Option.bind_eq_some_iff.mp hq
        obtain ⟨eoa14, eta14⟩ := jw_rc_spec ea14
        obtain ⟨w16, h15, ew16, hq⟩ := jw_b2_spec hq
        refine jw_callV (As := []) (S := []) (a := a14) (v := some (.int w16)) dX12_replacing_158 mt_X12_c in_X12_c se_X12_c lk_X12_162 (c_X12_c ew16) eta14 (by decide) rfl rfl (by decide) (Nat.le_of_ble_eq_true rfl) (by cases eoa14; rfl) ?_
        refine jw_bipush dX12_replacing_161 (v := (57 : Int32)) (by decide) ?_
        rcases jw_if hq with ⟨c17, hq⟩ | ⟨c17, hq⟩
        · refine jw_icmp_gt_t (tgt := 176) dX12_replacing_163 (by decide) c17 ?_
          cases hq
          exact jw_vret dX12_replacing_176 rfl
        · refine jw_icmp_gt_f (tgt := 176) dX12_replacing_163 (by decide) c17 ?_
          exact l_X12_replacing_b166  hq

set_option maxRecDepth 100000 in
set_option maxHeartbeats 4000000 in
theorem l_X12_replacing_b18g {hi : jw_H} {k18 : jw_H → Nat → Option (Unit × jw_H)} (hk18 : ∀ (h : jw_H) (x0 : Nat) (r : Unit) (h' : jw_H), k18 h x0 = some (r, h') → jw_E 7 uX12_replacing hi 18 [some (.ref x0)] [] h (.inl none) h') {h : jw_H} {x0 : Nat} {r : Unit} {h' : jw_H} (hq : g_X12_replacing_b18 k18 h x0 = some (r, h')) : jw_E 7 uX12_replacing hi 18 [some (.ref x0)] [] h (.inl none) h' := by
  unfold g_X12_replacing_b18 at hq
  refine jw_aload_n dX12_replacing_18 (o := (some x0)) rfl ?_
  obtain ⟨v1, ev1, hq⟩ := Option.bind_eq_some_iff.mp hq
  refine jw_getI (o := (some x0)) dX12_replacing_19 ev1 fl_X12_156 rfl ?_
  rcases jw_if hq with ⟨c2, hq⟩ | ⟨c2, hq⟩
  · refine jw_if_ge_t (tgt := 126) dX12_replacing_22 (by decide) c2 ?_
    exact l_X12_replacing_b126  hq
  · refine jw_if_ge_f (tgt := 126) dX12_replacing_22 (by decide) c2 ?_
    refine jw_aload_n dX12_replacing_25 (o := (some x0)) rfl ?_
    obtain ⟨a3, ea3, hq⟩ := Option.bind_eq_some_iff.mp hq
    obtain ⟨eoa3, eta3⟩ := jw_rc_spec ea3
    obtain ⟨w5, h4, ew5, hq⟩ := jw_b2_spec hq
    refine jw_callV (As := []) (S := []) (a := a3) (v := some (.int w5)) dX12_replacing_26 mt_X12_c in_X12_c se_X12_c lk_X12_162 (c_X12_c ew5) eta3 (by decide) rfl rfl (by decide) (Nat.le_of_ble_eq_true rfl) (by cases eoa3; rfl) ?_
    obtain ⟨w7, h6, ew7, hq⟩ := jw_b2_spec hq
    refine jw_callS (As := [.int w5]) (S := []) (v := some (.int w7)) dX12_replacing_29 mt_X12_isChar st_X12_isChar lk_X12_173 (c_X12_isChar ew7) rfl (by decide) (Nat.le_of_ble_eq_true rfl) rfl ?_
    rcases jw_if hq with ⟨c8, hq⟩ | ⟨c8, hq⟩
    · refine jw_if_ne_f (tgt := 53) dX12_replacing_32 (by decide) c8 ?_
      refine jw_aload_n dX12_replacing_35 (o := (some x0)) rfl ?_
      obtain ⟨a9, ea9, hq⟩ := Option.bind_eq_some_iff.mp hq
      obtain ⟨eoa9, eta9⟩ := jw_rc_spec ea9
      obtain ⟨w11, h10, ew11, hq⟩ := jw_b2_spec hq
      refine jw_callV (As := []) (S := []) (a := a9) (v := some (.int w11)) dX12_replacing_36 mt_X12_c in_X12_c se_X12_c lk_X12_162 (c_X12_c ew11) eta9 (by decide) rfl rfl (by decide) (Nat.le_of_ble_eq_true rfl) (by cases eoa9; rfl) ?_
      refine jw_bipush dX12_replacing_39 (v := (38 : Int32)) (by decide) ?_
      rcases jw_if hq with ⟨c12, hq⟩ | ⟨c12, hq⟩
      · refine jw_icmp_eq_t (tgt := 53) dX12_replacing_41 (by decide) c12 ?_
        exact l_X12_replacing_b53 hk18 hq
      · refine jw_icmp_eq_f (tgt := 53) dX12_replacing_41 (by decide) c12 ?_
        refine jw_aload_n dX12_replacing_44 (o := (some x0)) rfl ?_
        obtain ⟨a13, ea13, hq⟩ := Option.bind_eq_some_iff.mp hq
        obtain ⟨eoa13, eta13⟩ := jw_rc_spec ea13
        obtain ⟨w15, h14, ew15, hq⟩ := jw_b2_spec hq
        refine jw_callV (As := []) (S := []) (a := a13) (v := some (.int w15)) dX12_replacing_45 mt_X12_c in_X12_c se_X12_c lk_X12_162 (c_X12_c ew15) eta13 (by decide) rfl rfl (by decide) (Nat.le_of_ble_eq_true rfl) (by cases eoa13; rfl) ?_
        refine jw_bipush dX12_replacing_48 (v := (92 : Int32)) (by decide) ?_
        rcases jw_if hq with ⟨c16, hq⟩ | ⟨c16, hq⟩
        · refine jw_icmp_ne_f (tgt := 126) dX12_replacing_50 (by decide) c16 ?_
          exact l_X12_replacing_b53 hk18 hq
        · refine jw_icmp_ne_t (tgt := 126) dX12_replacing_50 (by decide) c16 ?_
          exact l_X12_replacing_b126  hq
    · refine jw_if_ne_t (tgt := 53) dX12_replacing_32 (by decide) c8 ?_
      exact l_X12_replacing_b53 hk18 hq

theorem l_X12_replacing_b18 {hi : jw_H} : ∀ (n : Nat) (h : jw_H) (x0 : Nat) (r : Unit) (h' : jw_H), f_X12_replacing_b18  n h x0 = some (r, h') → jw_E 7 uX12_replacing hi 18 [some (.ref x0)] [] h (.inl none) h' := by
  intro n
  induction n with
  | zero => intro h x0 r h' hq; exact nomatch hq
  | succ n ih => intro h x0 r h' hq; exact l_X12_replacing_b18g ih hq

set_option maxRecDepth 100000 in
set_option maxHeartbeats 4000000 in
theorem l_X12_replacing {hi : jw_H} {h : jw_H} {x0 : Nat} {r : Unit} {h' : jw_H} (hq : f_X12_replacing  h x0 = some (r, h')) : jw_E 7 uX12_replacing hi 0 [some (.ref x0)] [] h (.inl none) h' := by
  unfold f_X12_replacing at hq
  refine jw_aload_n dX12_replacing_0 (o := (some x0)) rfl ?_
  refine jw_bipush dX12_replacing_1 (v := (47 : Int32)) (by decide) ?_
  obtain ⟨a1, ea1, hq⟩ := Option.bind_eq_some_iff.mp hq
  obtain ⟨eoa1, eta1⟩ := jw_rc_spec ea1
  obtain ⟨w3, h2, ew3, hq⟩ := jw_b2_spec hq
  refine jw_callV (As := [.int (47 : Int32)]) (S := []) (a := a1) (v := none) dX12_replacing_3 mt_X12_take in_X12_take se_X12_take lk_X12_176 (c_X12_take ew3) eta1 (by decide) rfl rfl (by decide) (Nat.le_of_ble_eq_true rfl) (by cases eoa1; rfl) ?_
  refine jw_aload_n dX12_replacing_6 (o := (some x0)) rfl ?_
  refine jw_bipush dX12_replacing_7 (v := (47 : Int32)) (by decide) ?_
  obtain ⟨a4, ea4, hq⟩ := Option.bind_eq_some_iff.mp hq
  obtain ⟨eoa4, eta4⟩ := jw_rc_spec ea4
  obtain ⟨w6, h5, ew6, hq⟩ := jw_b2_spec hq
  refine jw_callV (As := [.int (47 : Int32)]) (S := []) (a := a4) (v := none) dX12_replacing_9 mt_X12_pattern in_X12_pattern se_X12_pattern lk_X12_197 (c_X12_pattern ew6) eta4 (by decide) rfl rfl (by decide) (Nat.le_of_ble_eq_true rfl) (by cases eoa4; rfl) ?_
  refine jw_aload_n dX12_replacing_12 (o := (some x0)) rfl ?_
  refine jw_bipush dX12_replacing_13 (v := (47 : Int32)) (by decide) ?_
  obtain ⟨a7, ea7, hq⟩ := Option.bind_eq_some_iff.mp hq
  obtain ⟨eoa7, eta7⟩ := jw_rc_spec ea7
  obtain ⟨w9, h8, ew9, hq⟩ := jw_b2_spec hq
  refine jw_callV (As := [.int (47 : Int32)]) (S := []) (a := a7) (v := none) dX12_replacing_15 mt_X12_take in_X12_take se_X12_take lk_X12_176 (c_X12_take ew9) eta7 (by decide) rfl rfl (by decide) (Nat.le_of_ble_eq_true rfl) (by cases eoa7; rfl) ?_
  exact l_X12_replacing_b18  jw_FU _ _ _ _ hq

theorem c_X12_replacing {h : jw_H} {x0 : Nat} {r : Unit} {h' : jw_H} (hq : f_X12_replacing h x0 = some (r, h')) : jw_Con (Cond.code yX12_replacing cX12_replacing 1 none) yX12_replacing 7 [.ref x0] h (.inl none) h' :=
  jw_con false (plainFor_of_name (by decide +kernel)) (fun z => nomatch z) (by simp [jw_ent, jw_sl0_nil, jw_sl0_int, jw_sl0_long, jw_sl0_ref, jw_sl0_rf, jw_sl0_scr, List.replicate]) (by simp [jw_sl0_nil, jw_sl0_int, jw_sl0_long, jw_sl0_ref, jw_sl0_rf, jw_sl0_scr]) (l_X12_replacing hq)


/-! X12_turning -/
noncomputable def g_X12_turning_b96 (h : jw_H) (x0 : Nat) : Option (Unit × jw_H) :=
 (jw_rc h 12 (some x0)).bind fun a1 =>
 jw_b2 (f_X12_take h a1 (47 : Int32)) fun w3 h2 =>
 some ((), h2)

noncomputable def g_X12_turning_b67 (k67 : jw_H → Nat → Int32 → Int32 → Option (Unit × jw_H)) (h : jw_H) (x0 : Nat) (x2 : Int32) (x3 : Int32) : Option (Unit × jw_H) :=
 if x2 ≤ x3 then (g_X12_turning_b96  h x0)
 else ((jw_gI h 12 (some x0) 24).bind fun v2 =>
 if 0 ≤ v2 then (g_X12_turning_b96  h x0)
 else ((jw_rc h 12 (some x0)).bind fun a4 =>
 jw_b2 (f_X12_c h a4) fun w6 h5 =>
 jw_b2 (f_X12_isChar h5 w6) fun w8 h7 =>
 (jw_rc h7 12 (some x0)).bind fun a9 =>
 jw_b2 (f_X12_takeIf h7 a9 w8) fun w11 h10 =>
 k67 h10 x0 x2 (x3 + (1 : Int32))))

noncomputable def f_X12_turning_b67 (n : Nat) : jw_H → Nat → Int32 → Int32 → Option (Unit × jw_H) :=
 Nat.rec (fun _ _ _ _ => none) (fun _ k67 => g_X12_turning_b67 k67) n

noncomputable def g_X12_turning_b52 (h : jw_H) (x0 : Nat) (x1 : Int32) : Option (Unit × jw_H) :=
 (jw_gI h 12 (some x0) 23).bind fun v1 =>
 (jw_rc h 12 (some x0)).bind fun a2 =>
 jw_b2 (f_X12_take h a2 (47 : Int32)) fun w4 h3 =>
 f_X12_turning_b67  jw_FU h3 x0 (v1 - x1) (0 : Int32)

noncomputable def g_X12_turning_b22 (k22 : jw_H → Nat → Int32 → Option (Unit × jw_H)) (h : jw_H) (x0 : Nat) (x1 : Int32) : Option (Unit × jw_H) :=
 (jw_gI h 12 (some x0) 24).bind fun v1 =>
 if 0 ≤ v1 then (g_X12_turning_b52  h x0 x1)
 else ((jw_rc h 12 (some x0)).bind fun a3 =>
 jw_b2 (f_X12_c h a3) fun w5 h4 =>
 jw_b2 (f_X12_isChar h4 w5) fun w7 h6 =>
 if w7 = 0 then (g_X12_turning_b52  h6 x0 x1)
 else ((jw_gI h6 12 (some x0) 23).bind fun v9 =>
 (jw_pI h6 12 (some x0) 23 (v9 + (1 : Int32))).bind fun h10 =>
 k22 h10 x0 x1))

noncomputable def f_X12_turning_b22 (n : Nat) : jw_H → Nat → Int32 → Option (Unit × jw_H) :=
 Nat.rec (fun _ _ _ => none) (fun _ k22 => g_X12_turning_b22 k22) n

noncomputable def f_X12_turning (h : jw_H) (x0 : Nat) : Option (Unit × jw_H) :=
 (jw_rc h 12 (some x0)).bind fun a1 =>
 jw_b2 (f_X12_take h a1 (47 : Int32)) fun w3 h2 =>
 (jw_gI h2 12 (some x0) 23).bind fun v4 =>
 (jw_rc h2 12 (some x0)).bind fun a5 =>
 jw_b2 (f_X12_c h2 a5) fun w7 h6 =>
 jw_b2 (f_X12_isChar h6 w7) fun w9 h8 =>
 (jw_rc h8 12 (some x0)).bind fun a10 =>
 jw_b2 (f_X12_takeIf h8 a10 w9) fun w12 h11 =>
 f_X12_turning_b22  jw_FU h11 x0 v4

set_option maxRecDepth 100000 in
set_option maxHeartbeats 4000000 in
theorem l_X12_turning_b96 {hi : jw_H} {h : jw_H} {x0 : Nat} {r : Unit} {h' : jw_H} (hq : g_X12_turning_b96  h x0 = some (r, h')) : jw_E 3 uX12_turning hi 96 [some (.ref x0), none, none, none] [] h (.inl none) h' := by
  unfold g_X12_turning_b96 at hq
  refine jw_aload_n dX12_turning_96 (o := (some x0)) rfl ?_
  refine jw_bipush dX12_turning_97 (v := (47 : Int32)) (by decide) ?_
  obtain ⟨a1, ea1, hq⟩ := Option.bind_eq_some_iff.mp hq
  obtain ⟨eoa1, eta1⟩ := jw_rc_spec ea1
  obtain ⟨w3, h2, ew3, hq⟩ := jw_b2_spec hq
  refine jw_callV (As := [.int (47 : Int32)]) (S := []) (a := a1) (v := none) dX12_turning_99 mt_X12_take in_X12_take se_X12_take lk_X12_176 (c_X12_take ew3) eta1 (by decide) rfl rfl (by decide) (Nat.le_of_ble_eq_true rfl) (by cases eoa1; rfl) ?_
  cases hq
  exact jw_vret dX12_turning_102 rfl

set_option maxRecDepth 100000 in
set_option maxHeartbeats 4000000 in
theorem l_X12_turning_b67g {hi : jw_H} {k67 : jw_H → Nat → Int32 → Int32 → Option (Unit × jw_H)} (hk67 : ∀ (h : jw_H) (x0 : Nat) (x2 : Int32) (x3 : Int32) (r : Unit) (h' : jw_H), k67 h x0 x2 x3 = some (r, h') → jw_E 3 uX12_turning hi 67 [some (.ref x0), none, some (.int x2), some (.int x3)] [] h (.inl none) h') {h : jw_H} {x0 : Nat} {x2 : Int32} {x3 : Int32} {r : Unit} {h' : jw_H} (hq : g_X12_turning_b67 k67 h x0 x2 x3 = some (r, h')) : jw_E 3 uX12_turning hi 67 [some (.ref x0), none, some (.int x2), some (.int x3)] [] h (.inl none) h' := by
  unfold g_X12_turning_b67 at hq
  refine jw_iload_n dX12_turning_67 rfl ?_
  refine jw_iload_n dX12_turning_68 rfl ?_
  rcases jw_if hq with ⟨c1, hq⟩ | ⟨c1, hq⟩
  · refine jw_icmp_ge_t (tgt := 96) dX12_turning_69 (by decide) c1 ?_
    refine jw_forget [true, true, false, false] (L' := [some (.ref x0), none, none, none]) rfl ?_
    exact l_X12_turning_b96  hq
  · refine jw_icmp_ge_f (tgt := 96) dX12_turning_69 (by decide) c1 ?_
    refine jw_aload_n dX12_turning_72 (o := (some x0)) rfl ?_
    obtain ⟨v2, ev2, hq⟩ := Option.bind_eq_some_iff.mp hq
    refine jw_getI (o := (some x0)) dX12_turning_73 ev2 fl_X12_156 rfl ?_
    rcases jw_if hq with ⟨c3, hq⟩ | ⟨c3, hq⟩
    · refine jw_if_ge_t (tgt := 96) dX12_turning_76 (by decide) c3 ?_
      refine jw_forget [true, true, false, false] (L' := [some (.ref x0), none, none, none]) rfl ?_
      exact l_X12_turning_b96  hq
    · refine jw_if_ge_f (tgt := 96) dX12_turning_76 (by decide) c3 ?_
      refine jw_aload_n dX12_turning_79 (o := (some x0)) rfl ?_
      refine jw_aload_n dX12_turning_80 (o := (some x0)) rfl ?_
      obtain ⟨a4, ea4, hq⟩ := Option.bind_eq_some_iff.mp hq
      obtain ⟨eoa4, eta4⟩ := jw_rc_spec ea4
      obtain ⟨w6, h5, ew6, hq⟩ := jw_b2_spec hq
      refine jw_callV (As := []) (S := [.ref x0]) (a := a4) (v := some (.int w6)) dX12_turning_81 mt_X12_c in_X12_c se_X12_c lk_X12_162 (c_X12_c ew6) eta4 (by decide) rfl rfl (by decide) (Nat.le_of_ble_eq_true rfl) (by cases eoa4; rfl) ?_
      obtain ⟨w8, h7, ew8, hq⟩ := jw_b2_spec hq
      refine jw_callS (As := [.int w6]) (S := [.ref x0]) (v := some (.int w8)) dX12_turning_84 mt_X12_isChar st_X12_isChar lk_X12_173 (c_X12_isChar ew8) rfl (by decide) (Nat.le_of_ble_eq_true rfl) rfl ?_
      obtain ⟨a9, ea9, hq⟩ := Option.bind_eq_some_iff.mp hq
      obtain ⟨eoa9, eta9⟩ := jw_rc_spec ea9
      obtain ⟨w11, h10, ew11, hq⟩ := jw_b2_spec hq
      refine jw_callV (As := [.int w8]) (S := []) (a := a9) (v := none) dX12_turning_87 mt_X12_takeIf in_X12_takeIf se_X12_takeIf lk_X12_166 (c_X12_takeIf ew11) eta9 (by decide) rfl rfl (by decide) (Nat.le_of_ble_eq_true rfl) (by cases eoa9; rfl) ?_
      refine jw_iinc (L' := [some (.ref x0), none, some (.int x2), some (.int (x3 + (1 : Int32)))]) dX12_turning_90 rfl (v := (1 : Int32)) (by decide) (Nat.le_of_ble_eq_true rfl) rfl ?_
      refine jw_goto (tgt := 67) dX12_turning_93 (by decide) ?_
      exact hk67 _ _ _ _ _ _ hq

theorem l_X12_turning_b67 {hi : jw_H} : ∀ (n : Nat) (h : jw_H) (x0 : Nat) (x2 : Int32) (x3 : Int32) (r : Unit) (h' : jw_H), f_X12_turning_b67  n h x0 x2 x3 = some (r, h') → jw_E 3 uX12_turning hi 67 [some (.ref x0), none, some (.int x2), some (.int x3)] [] h (.inl none) h' := by
  intro n
  induction n with
  | zero => intro h x0 x2 x3 r h' hq; exact nomatch hq
  | succ n ih => intro h x0 x2 x3 r h' hq; exact l_X12_turning_b67g ih hq

set_option maxRecDepth 100000 in
set_option maxHeartbeats 4000000 in
theorem l_X12_turning_b52 {hi : jw_H} {h : jw_H} {x0 : Nat} {x1 : Int32} {r : Unit} {h' : jw_H} (hq : g_X12_turning_b52  h x0 x1 = some (r, h')) : jw_E 3 uX12_turning hi 52 [some (.ref x0), some (.int x1), none, none] [] h (.inl none) h' := by
  unfold g_X12_turning_b52 at hq
  refine jw_aload_n dX12_turning_52 (o := (some x0)) rfl ?_
  obtain ⟨v1, ev1, hq⟩ := Option.bind_eq_some_iff.mp hq
  refine jw_getI (o := (some x0)) dX12_turning_53 ev1 fl_X12_149 rfl ?_
  refine jw_iload_n dX12_turning_56 rfl ?_
  refine jw_isub dX12_turning_57 ?_
  refine jw_istore_n (L' := [some (.ref x0), some (.int x1), some (.int (v1 - x1)), none]) dX12_turning_58 (Nat.le_of_ble_eq_true rfl) rfl ?_
  refine jw_aload_n dX12_turning_59 (o := (some x0)) rfl ?_
  refine jw_bipush dX12_turning_60 (v := (47 : Int32)) (by decide) ?_
  obtain ⟨a2, ea2, hq⟩ := Option.bind_eq_some_iff.mp hq
  obtain ⟨eoa2, eta2⟩ := jw_rc_spec ea2
  obtain ⟨w4, h3, ew4, hq⟩ := jw_b2_spec hq
  refine jw_callV (As := [.int (47 : Int32)]) (S := []) (a := a2) (v := none) dX12_turning_62 mt_X12_take in_X12_take se_X12_take lk_X12_176 (c_X12_take ew4) eta2 (by decide) rfl rfl (by decide) (Nat.le_of_ble_eq_true rfl) (by cases eoa2; rfl) ?_
  refine jw_iconst dX12_turning_65 (v := (0 : Int32)) (by decide) ?_
  refine jw_istore_n (L' := [some (.ref x0), some (.int x1), some (.int (v1 - x1)), some (.int (0 : Int32))]) dX12_turning_66 (Nat.le_of_ble_eq_true rfl) rfl ?_
  refine jw_forget [true, false, true, true] (L' := [some (.ref x0), none, some (.int (v1 - x1)), some (.int (0 : Int32))]) rfl ?_
  exact l_X12_turning_b67  jw_FU _ _ _ _ _ _ hq

set_option maxRecDepth 100000 in
set_option maxHeartbeats 4000000 in
theorem l_X12_turning_b22g {hi : jw_H} {k22 : jw_H → Nat → Int32 → Option (Unit × jw_H)} (hk22 : ∀ (h : jw_H) (x0 : Nat) (x1 : Int32) (r : Unit) (h' : jw_H), k22 h x0 x1 = some (r, h') → jw_E 3 uX12_turning hi 22 [some (.ref x0), some (.int x1), none, none] [] h (.inl none) h') {h : jw_H} {x0 : Nat} {x1 : Int32} {r : Unit} {h' : jw_H} (hq : g_X12_turning_b22 k22 h x0 x1 = some (r, h')) : jw_E 3 uX12_turning hi 22 [some (.ref x0), some (.int x1), none, none] [] h (.inl none) h' := by
  unfold g_X12_turning_b22 at hq
  refine jw_aload_n dX12_turning_22 (o := (some x0)) rfl ?_
  obtain ⟨v1, ev1, hq⟩ := Option.bind_eq_some_iff.mp hq
  refine jw_getI (o := (some x0)) dX12_turning_23 ev1 fl_X12_156 rfl ?_
  rcases jw_if hq with ⟨c2, hq⟩ | ⟨c2, hq⟩
  · refine jw_if_ge_t (tgt := 52) dX12_turning_26 (by decide) c2 ?_
    exact l_X12_turning_b52  hq
  · refine jw_if_ge_f (tgt := 52) dX12_turning_26 (by decide) c2 ?_
    refine jw_aload_n dX12_turning_29 (o := (some x0)) rfl ?_
    obtain ⟨a3, ea3, hq⟩ := Option.bind_eq_some_iff.mp hq
    obtain ⟨eoa3, eta3⟩ := jw_rc_spec ea3
    obtain ⟨w5, h4, ew5, hq⟩ := jw_b2_spec hq
    refine jw_callV (As := []) (S := []) (a := a3) (v := some (.int w5)) dX12_turning_30 mt_X12_c in_X12_c se_X12_c lk_X12_162 (c_X12_c ew5) eta3 (by decide) rfl rfl (by decide) (Nat.le_of_ble_eq_true rfl) (by cases eoa3; rfl) ?_
    obtain ⟨w7, h6, ew7, hq⟩ := jw_b2_spec hq
    refine jw_callS (As := [.int w5]) (S := []) (v := some (.int w7)) dX12_turning_33 mt_X12_isChar st_X12_isChar lk_X12_173 (c_X12_isChar ew7) rfl (by decide) (Nat.le_of_ble_eq_true rfl) rfl ?_
    rcases jw_if hq with ⟨c8, hq⟩ | ⟨c8, hq⟩
    · refine jw_if_eq_t (tgt := 52) dX12_turning_36 (by decide) c8 ?_
      exact l_X12_turning_b52  hq
    · refine jw_if_eq_f (tgt := 52) dX12_turning_36 (by decide) c8 ?_
      refine jw_aload_n dX12_turning_39 (o := (some x0)) rfl ?_
      refine jw_dup dX12_turning_40 rfl ?_
      obtain ⟨v9, ev9, hq⟩ := Option.bind_eq_some_iff.mp hq
      refine jw_getI (o := (some x0)) dX12_turning_41 ev9 fl_X12_149 rfl ?_
      refine jw_iconst dX12_turning_44 (v := (1 : Int32)) (by decide) ?_
      refine jw_iadd dX12_turning_45 ?_
      obtain ⟨h10, eh10, hq⟩ := Option.bind_eq_some_iff.mp hq
      refine jw_putI (o := (some x0)) dX12_turning_46 eh10 fl_X12_149 rfl rfl ?_
      refine jw_goto (tgt := 22) dX12_turning_49 (by decide) ?_
      exact hk22 _ _ _ _ _ hq

theorem l_X12_turning_b22 {hi : jw_H} : ∀ (n : Nat) (h : jw_H) (x0 : Nat) (x1 : Int32) (r : Unit) (h' : jw_H), f_X12_turning_b22  n h x0 x1 = some (r, h') → jw_E 3 uX12_turning hi 22 [some (.ref x0), some (.int x1), none, none] [] h (.inl none) h' := by
  intro n
  induction n with
  | zero => intro h x0 x1 r h' hq; exact nomatch hq
  | succ n ih => intro h x0 x1 r h' hq; exact l_X12_turning_b22g ih hq

set_option maxRecDepth 100000 in
set_option maxHeartbeats 4000000 in
theorem l_X12_turning {hi : jw_H} {h : jw_H} {x0 : Nat} {r : Unit} {h' : jw_H} (hq : f_X12_turning  h x0 = some (r, h')) : jw_E 3 uX12_turning hi 0 [some (.ref x0), none, none, none] [] h (.inl none) h' := by
  unfold f_X12_turning at hq
  refine jw_aload_n dX12_turning_0 (o := (some x0)) rfl ?_
  refine jw_bipush dX12_turning_1 (v := (47 : Int32)) (by decide) ?_
  obtain ⟨a1, ea1, hq⟩ := Option.bind_eq_some_iff.mp hq
  obtain ⟨eoa1, eta1⟩ := jw_rc_spec ea1
  obtain ⟨w3, h2, ew3, hq⟩ := jw_b2_spec hq
  refine jw_callV (As := [.int (47 : Int32)]) (S := []) (a := a1) (v := none) dX12_turning_3 mt_X12_take in_X12_take se_X12_take lk_X12_176 (c_X12_take ew3) eta1 (by decide) rfl rfl (by decide) (Nat.le_of_ble_eq_true rfl) (by cases eoa1; rfl) ?_
  refine jw_aload_n dX12_turning_6 (o := (some x0)) rfl ?_
  obtain ⟨v4, ev4, hq⟩ := Option.bind_eq_some_iff.mp hq
  refine jw_getI (o := (some x0)) dX12_turning_7 ev4 fl_X12_149 rfl ?_
  refine jw_istore_n (L' := [some (.ref x0), some (.int v4), none, none]) dX12_turning_10 (Nat.le_of_ble_eq_true rfl) rfl ?_
  refine jw_aload_n dX12_turning_11 (o := (some x0)) rfl ?_
  refine jw_aload_n dX12_turning_12 (o := (some x0)) rfl ?_
  obtain ⟨a5, ea5, hq⟩ := Option.bind_eq_some_iff.mp hq
  obtain ⟨eoa5, eta5⟩ := jw_rc_spec ea5
  obtain ⟨w7, h6, ew7, hq⟩ := jw_b2_spec hq
  refine jw_callV (As := []) (S := [.ref x0]) (a := a5) (v := some (.int w7)) dX12_turning_13 mt_X12_c in_X12_c se_X12_c lk_X12_162 (c_X12_c ew7) eta5 (by decide) rfl rfl (by decide) (Nat.le_of_ble_eq_true rfl) (by cases eoa5; rfl) ?_
  obtain ⟨w9, h8, ew9, hq⟩ := jw_b2_spec hq
  refine jw_callS (As := [.int w7]) (S := [.ref x0]) (v := some (.int w9)) dX12_turning_16 mt_X12_isChar st_X12_isChar lk_X12_173 (c_X12_isChar ew9) rfl (by decide) (Nat.le_of_ble_eq_true rfl) rfl ?_
  obtain ⟨a10, ea10, hq⟩ := Option.bind_eq_some_iff.mp hq
  obtain ⟨eoa10, eta10⟩ := jw_rc_spec ea10
  obtain ⟨w12, h11, ew12, hq⟩ := jw_b2_spec hq
  refine jw_callV (As := [.int w9]) (S := []) (a := a10) (v := none) dX12_turning_19 mt_X12_takeIf in_X12_takeIf se_X12_takeIf lk_X12_166 (c_X12_takeIf ew12) eta10 (by decide) rfl rfl (by decide) (Nat.le_of_ble_eq_true rfl) (by cases eoa10; rfl) ?_
  exact l_X12_turning_b22  jw_FU _ _ _ _ _ hq

theorem c_X12_turning {h : jw_H} {x0 : Nat} {r : Unit} {h' : jw_H} (hq : f_X12_turning h x0 = some (r, h')) : jw_Con (Cond.code yX12_turning cX12_turning 4 none) yX12_turning 3 [.ref x0] h (.inl none) h' :=
  jw_con false (plainFor_of_name (by decide +kernel)) (fun z => nomatch z) (by simp [jw_ent, jw_sl0_nil, jw_sl0_int, jw_sl0_long, jw_sl0_ref, jw_sl0_rf, jw_sl0_scr, List.replicate]) (by simp [jw_sl0_nil, jw_sl0_int, jw_sl0_long, jw_sl0_ref, jw_sl0_rf, jw_sl0_scr]) (l_X12_turning hq)


/-! X12_isBare -/
noncomputable def g_X12_isBare_b87 (h : jw_H) (t0 : Int32) : Option (Int32 × jw_H) :=
 (jw_rb t0).bind fun v1 =>
 some (t0, h)

noncomputable def g_X12_isBare_b82 (h : jw_H)  : Option (Int32 × jw_H) :=
 g_X12_isBare_b87  h (1 : Int32)

noncomputable def g_X12_isBare_b47 (h : jw_H) (x0 : Int32) (t0 : Int32) : Option (Int32 × jw_H) :=
 if t0 = 0 then (if x0 = (72 : Int32) then (g_X12_isBare_b82  h )
 else (if x0 = (117 : Int32) then (g_X12_isBare_b82  h )
 else (if x0 = (101 : Int32) then (g_X12_isBare_b82  h )
 else (if x0 = (113 : Int32) then (g_X12_isBare_b82  h )
 else (if x0 = (78 : Int32) then (g_X12_isBare_b82  h )
 else (g_X12_isBare_b87  h (0 : Int32)))))))
 else (g_X12_isBare_b82  h )

noncomputable def g_X12_isBare_b42 (h : jw_H) (x0 : Int32) : Option (Int32 × jw_H) :=
 g_X12_isBare_b47  h x0 (1 : Int32)

noncomputable def f_X12_isBare (h : jw_H) (x0 : Int32) : Option (Int32 × jw_H) :=
 if x0 = (100 : Int32) then (g_X12_isBare_b42  h x0)
 else (if x0 = (106 : Int32) then (g_X12_isBare_b42  h x0)
 else (if x0 = (108 : Int32) then (g_X12_isBare_b42  h x0)
 else (if x0 = (112 : Int32) then (g_X12_isBare_b42  h x0)
 else (if x0 = (61 : Int32) then (g_X12_isBare_b42  h x0)
 else (if x0 = (110 : Int32) then (g_X12_isBare_b42  h x0)
 else (if x0 = (104 : Int32) then (g_X12_isBare_b42  h x0)
 else (g_X12_isBare_b47  h x0 (0 : Int32))))))))

set_option maxRecDepth 100000 in
set_option maxHeartbeats 4000000 in
theorem l_X12_isBare_b87 {hi : jw_H} {h : jw_H} {t0 : Int32} {r : Int32} {h' : jw_H} (hq : g_X12_isBare_b87  h t0 = some (r, h')) : jw_E 0 uX12_isBare hi 87 [none, none] [.int t0] h (.inl (some (.int r))) h' := by
  unfold g_X12_isBare_b87 at hq
  obtain ⟨v1, ev1, hq⟩ := Option.bind_eq_some_iff.mp hq
  cases hq
  exact jw_iret (ty := .boolean) dX12_isBare_87 rfl (jw_rb_spec ev1)

set_option maxRecDepth 100000 in
set_option maxHeartbeats 4000000 in
theorem l_X12_isBare_b82 {hi : jw_H} {h : jw_H}  {r : Int32} {h' : jw_H} (hq : g_X12_isBare_b82  h  = some (r, h')) : jw_E 0 uX12_isBare hi 82 [none, none] [] h (.inl (some (.int r))) h' := by
  unfold g_X12_isBare_b82 at hq
  refine jw_iconst dX12_isBare_82 (v := (1 : Int32)) (by decide) ?_
  refine jw_goto (tgt := 87) dX12_isBare_83 (by decide) ?_
  exact l_X12_isBare_b87  hq

set_option maxRecDepth 100000 in
set_option maxHeartbeats 4000000 in
theorem l_X12_isBare_b47 {hi : jw_H} {h : jw_H} {x0 : Int32} {t0 : Int32} {r : Int32} {h' : jw_H} (hq : g_X12_isBare_b47  h x0 t0 = some (r, h')) : jw_E 0 uX12_isBare hi 47 [some (.int x0), none] [.int t0] h (.inl (some (.int r))) h' := by
  unfold g_X12_isBare_b47 at hq
  refine jw_istore_n (L' := [some (.int x0), some (.int t0)]) dX12_isBare_47 (Nat.le_of_ble_eq_true rfl) rfl ?_
  refine jw_iload_n dX12_isBare_48 rfl ?_
  rcases jw_if hq with ⟨c1, hq⟩ | ⟨c1, hq⟩
  · refine jw_if_ne_f (tgt := 82) dX12_isBare_49 (by decide) c1 ?_
    refine jw_iload_n dX12_isBare_52 rfl ?_
    refine jw_bipush dX12_isBare_53 (v := (72 : Int32)) (by decide) ?_
    rcases jw_if hq with ⟨c2, hq⟩ | ⟨c2, hq⟩
    · refine jw_icmp_eq_t (tgt := 82) dX12_isBare_55 (by decide) c2 ?_
      refine jw_forget [false, false] (L' := [none, none]) rfl ?_
      exact l_X12_isBare_b82  hq
    · refine jw_icmp_eq_f (tgt := 82) dX12_isBare_55 (by decide) c2 ?_
      refine jw_iload_n dX12_isBare_58 rfl ?_
      refine jw_bipush dX12_isBare_59 (v := (117 : Int32)) (by decide) ?_
      rcases jw_if hq with ⟨c3, hq⟩ | ⟨c3, hq⟩
      · refine jw_icmp_eq_t (tgt := 82) dX12_isBare_61 (by decide) c3 ?_
        refine jw_forget [false, false] (L' := [none, none]) rfl ?_
        exact l_X12_isBare_b82  hq
      · refine jw_icmp_eq_f (tgt := 82) dX12_isBare_61 (by decide) c3 ?_
        refine jw_iload_n dX12_isBare_64 rfl ?_
        refine jw_bipush dX12_isBare_65 (v := (101 : Int32)) (by decide) ?_
        rcases jw_if hq with ⟨c4, hq⟩ | ⟨c4, hq⟩
        · refine jw_icmp_eq_t (tgt := 82) dX12_isBare_67 (by decide) c4 ?_
          refine jw_forget [false, false] (L' := [none, none]) rfl ?_
          exact l_X12_isBare_b82  hq
        · refine jw_icmp_eq_f (tgt := 82) dX12_isBare_67 (by decide) c4 ?_
          refine jw_iload_n dX12_isBare_70 rfl ?_
          refine jw_bipush dX12_isBare_71 (v := (113 : Int32)) (by decide) ?_
          rcases jw_if hq with ⟨c5, hq⟩ | ⟨c5, hq⟩
          · refine jw_icmp_eq_t (tgt := 82) dX12_isBare_73 (by decide) c5 ?_
            refine jw_forget [false, false] (L' := [none, none]) rfl ?_
            exact l_X12_isBare_b82  hq
          · refine jw_icmp_eq_f (tgt := 82) dX12_isBare_73 (by decide) c5 ?_
            refine jw_iload_n dX12_isBare_76 rfl ?_
            refine jw_bipush dX12_isBare_77 (v := (78 : Int32)) (by decide) ?_
            rcases jw_if hq with ⟨c6, hq⟩ | ⟨c6, hq⟩
            · refine jw_icmp_ne_f (tgt := 86) dX12_isBare_79 (by decide) c6 ?_
              refine jw_forget [false, false] (L' := [none, none]) rfl ?_
              exact l_X12_isBare_b82  hq
            · refine jw_icmp_ne_t (tgt := 86) dX12_isBare_79 (by decide) c6 ?_
              refine jw_iconst dX12_isBare_86 (v := (0 : Int32)) (by decide) ?_
              refine jw_forget [false, false] (L' := [none, none]) rfl ?_
              exact l_X12_isBare_b87  hq
  · refine jw_if_ne_t (tgt := 82) dX12_isBare_49 (by decide) c1 ?_
    refine jw_forget [false, false] (L' := [none, none]) rfl ?_
    exact l_X12_isBare_b82  hq

set_option maxRecDepth 100000 in
set_option maxHeartbeats 4000000 in
theorem l_X12_isBare_b42 {hi : jw_H} {h : jw_H} {x0 : Int32} {r : Int32} {h' : jw_H} (hq : g_X12_isBare_b42  h x0 = some (r, h')) : jw_E 0 uX12_isBare hi 42 [some (.int x0), none] [] h (.inl (some (.int r))) h' := by
  unfold g_X12_isBare_b42 at hq
  refine jw_iconst dX12_isBare_42 (v := (1 : Int32)) (by decide) ?_
  refine jw_goto (tgt := 47) dX12_isBare_43 (by decide) ?_
  exact l_X12_isBare_b47  hq

set_option maxRecDepth 100000 in
set_option maxHeartbeats 4000000 in
theorem l_X12_isBare {hi : jw_H} {h : jw_H} {x0 : Int32} {r : Int32} {h' : jw_H} (hq : f_X12_isBare  h x0 = some (r, h')) : jw_E 0 uX12_isBare hi 0 [some (.int x0), none] [] h (.inl (some (.int r))) h' := by
  unfold f_X12_isBare at hq
  refine jw_iload_n dX12_isBare_0 rfl ?_
  refine jw_bipush dX12_isBare_1 (v := (100 : Int32)) (by decide) ?_
  rcases jw_if hq with ⟨c1, hq⟩ | ⟨c1, hq⟩
  · refine jw_icmp_eq_t (tgt := 42) dX12_isBare_3 (by decide) c1 ?_
    exact l_X12_isBare_b42  hq
  · refine jw_icmp_eq_f (tgt := 42) dX12_isBare_3 (by decide) c1 ?_
    refine jw_iload_n dX12_isBare_6 rfl ?_
    refine jw_bipush dX12_isBare_7 (v := (106 : Int32)) (by decide) ?_
    rcases jw_if hq with ⟨c2, hq⟩ | ⟨c2, hq⟩
    · refine jw_icmp_eq_t (tgt := 42) dX12_isBare_9 (by decide) c2 ?_
      exact l_X12_isBare_b42  hq
    · refine jw_icmp_eq_f (tgt := 42) dX12_isBare_9 (by decide) c2 ?_
      refine jw_iload_n dX12_isBare_12 rfl ?_
      refine jw_bipush dX12_isBare_13 (v := (108 : Int32)) (by decide) ?_
      rcases jw_if hq with ⟨c3, hq⟩ | ⟨c3, hq⟩
      · refine jw_icmp_eq_t (tgt := 42) dX12_isBare_15 (by decide) c3 ?_
        exact l_X12_isBare_b42  hq
      · refine jw_icmp_eq_f (tgt := 42) dX12_isBare_15 (by decide) c3 ?_
        refine jw_iload_n dX12_isBare_18 rfl ?_
        refine jw_bipush dX12_isBare_19 (v := (112 : Int32)) (by decide) ?_
        rcases jw_if hq with ⟨c4, hq⟩ | ⟨c4, hq⟩
        · refine jw_icmp_eq_t (tgt := 42) dX12_isBare_21 (by decide) c4 ?_
          exact l_X12_isBare_b42  hq
        · refine jw_icmp_eq_f (tgt := 42) dX12_isBare_21 (by decide) c4 ?_
          refine jw_iload_n dX12_isBare_24 rfl ?_
          refine jw_bipush dX12_isBare_25 (v := (61 : Int32)) (by decide) ?_
          rcases jw_if hq with ⟨c5, hq⟩ | ⟨c5, hq⟩
          · refine jw_icmp_eq_t (tgt := 42) dX12_isBare_27 (by decide) c5 ?_
            exact l_X12_isBare_b42  hq
          · refine jw_icmp_eq_f (tgt := 42) dX12_isBare_27 (by decide) c5 ?_
            refine jw_iload_n dX12_isBare_30 rfl ?_
            refine jw_bipush dX12_isBare_31 (v := (110 : Int32)) (by decide) ?_
            rcases jw_if hq with ⟨c6, hq⟩ | ⟨c6, hq⟩
            · refine jw_icmp_eq_t (tgt := 42) dX12_isBare_33 (by decide) c6 ?_
              exact l_X12_isBare_b42  hq
            · refine jw_icmp_eq_f (tgt := 42) dX12_isBare_33 (by decide) c6 ?_
              refine jw_iload_n dX12_isBare_36 rfl ?_
              refine jw_bipush dX12_isBare_37 (v := (104 : Int32)) (by decide) ?_
              rcases jw_if hq with ⟨c7, hq⟩ | ⟨c7, hq⟩
              · refine jw_icmp_ne_f (tgt := 46) dX12_isBare_39 (by decide) c7 ?_
                exact l_X12_isBare_b42  hq
              · refine jw_icmp_ne_t (tgt := 46) dX12_isBare_39 (by decide) c7 ?_
                refine jw_iconst dX12_isBare_46 (v := (0 : Int32)) (by decide) ?_
                exact l_X12_isBare_b47  hq

theorem c_X12_isBare {h : jw_H} {x0 : Int32} {r : Int32} {h' : jw_H} (hq : f_X12_isBare h x0 = some (r, h')) : jw_Con (Cond.code yX12_isBare cX12_isBare 2 (some .boolean)) yX12_isBare 0 [.int x0] h (.inl (some (.int r))) h' :=
  jw_con false (plainFor_of_name (by decide +kernel)) (fun z => nomatch z) (by simp [jw_ent, jw_sl0_nil, jw_sl0_int, jw_sl0_long, jw_sl0_ref, jw_sl0_rf, jw_sl0_scr, List.replicate]) (by simp [jw_sl0_nil, jw_sl0_int, jw_sl0_long, jw_sl0_ref, jw_sl0_rf, jw_sl0_scr]) (l_X12_isBare hq)


/-! X12_plainAct -/
noncomputable def g_X12_plainAct_b72 (h : jw_H) (x0 : Nat) : Option (Unit × jw_H) :=
 (jw_rc h 12 (some x0)).bind fun a1 =>
 jw_b2 (f_X12_fail h a1) fun w3 h2 =>
 some ((), h2)

noncomputable def g_X12_plainAct_b105 (h : jw_H) (x0 : Nat) : Option (Unit × jw_H) :=
 (jw_rc h 12 (some x0)).bind fun a1 =>
 jw_b2 (f_X12_rows h a1) fun w3 h2 =>
 some ((), h2)

noncomputable def g_X12_plainAct_b142 (h : jw_H) (x0 : Nat) : Option (Unit × jw_H) :=
 (jw_rc h 12 (some x0)).bind fun a1 =>
 jw_b2 (f_X12_number h a1) fun w3 h2 =>
 some ((), h2)

noncomputable def g_X12_plainAct_b161 (h : jw_H) (x0 : Nat) : Option (Unit × jw_H) :=
 (jw_rc h 12 (some x0)).bind fun a1 =>
 jw_b2 (f_X12_address h a1) fun w3 h2 =>
 some ((), h2)

noncomputable def g_X12_plainAct_b224 (h : jw_H) (t0 : Nat) (t1 : Int32) : Option (Unit × jw_H) :=
 (jw_rc h 12 (some t0)).bind fun a1 =>
 jw_b2 (f_X12_takeIf h a1 t1) fun w3 h2 =>
 some ((), h2)

noncomputable def g_X12_plainAct_b223 (h : jw_H) (t0 : Nat) : Option (Unit × jw_H) :=
 g_X12_plainAct_b224  h t0 (0 : Int32)

noncomputable def g_X12_plainAct_b200 (h : jw_H) (x0 : Nat) : Option (Unit × jw_H) :=
 (jw_rc h 12 (some x0)).bind fun a1 =>
 jw_b2 (f_X12_c h a1) fun w3 h2 =>
 if w3 < (48 : Int32) then (g_X12_plainAct_b223  h2 x0)
 else ((jw_rc h2 12 (some x0)).bind fun a5 =>
 jw_b2 (f_X12_c h2 a5) fun w7 h6 =>
 if (51 : Int32) < w7 then (g_X12_plainAct_b223  h6 x0)
 else (g_X12_plainAct_b224  h6 x0 (1 : Int32)))

noncomputable def g_X12_plainAct_b282 (h : jw_H) (t0 : Nat) (t1 : Int32) (t2 : Int32) : Option (Unit × jw_H) :=
 (jw_pI h 12 (some t0) 23 (t1 + t2)).bind fun h1 =>
 some ((), h1)

noncomputable def g_X12_plainAct_b262 (h : jw_H) (x0 : Nat) : Option (Unit × jw_H) :=
 (jw_gI h 12 (some x0) 23).bind fun v1 =>
 (jw_rc h 12 (some x0)).bind fun a2 =>
 jw_b2 (f_X12_c h a2) fun w4 h3 =>
 jw_b2 (f_X12_isLabel h3 w4) fun w6 h5 =>
 if w6 = 0 then (g_X12_plainAct_b282  h5 x0 v1 (0 : Int32))
 else (g_X12_plainAct_b282  h5 x0 v1 (1 : Int32))

noncomputable def g_X12_plainAct_b61 (h : jw_H) (x0 : Nat) (x3 : Int32) : Option (Unit × jw_H) :=
 (jw_gI h 12 (some x0) 23).bind fun v1 =>
 (jw_gI h 12 (some x0) 22).bind fun v2 =>
 if v1 = v2 then (g_X12_plainAct_b72  h x0)
 else ((jw_gI h 12 (some x0) 23).bind fun v4 =>
 (jw_pI h 12 (some x0) 23 (v4 + (1 : Int32))).bind fun h5 =>
 if x3 = (97 : Int32) then (g_X12_plainAct_b105  h5 x0)
 else (if x3 = (105 : Int32) then (g_X12_plainAct_b105  h5 x0)
 else (if x3 = (99 : Int32) then (g_X12_plainAct_b105  h5 x0)
 else (if x3 = (118 : Int32) then (g_X12_plainAct_b142  h5 x0)
 else (if x3 = (62 : Int32) then (g_X12_plainAct_b142  h5 x0)
 else (if x3 = (60 : Int32) then (g_X12_plainAct_b142  h5 x0)
 else (if x3 = (111 : Int32) then (g_X12_plainAct_b142  h5 x0)
 else (if x3 = (79 : Int32) then (g_X12_plainAct_b142  h5 x0)
 else (if x3 = (109 : Int32) then (g_X12_plainAct_b161  h5 x0)
 else (if x3 = (116 : Int32) then (g_X12_plainAct_b161  h5 x0)
 else (if x3 = (107 : Int32) then ((jw_rc h5 12 (some x0)).bind fun a46 =>
 jw_b2 (f_X12_c h5 a46) fun w48 h47 =>
 jw_b2 (f_X12_isMark h47 w48) fun w50 h49 =>
 (jw_rc h49 12 (some x0)).bind fun a51 =>
 jw_b2 (f_X12_takeIf h49 a51 w50) fun w53 h52 =>
 some ((), h52))
 else (if x3 = (114 : Int32) then (g_X12_plainAct_b200  h5 x0)
 else (if x3 = (119 : Int32) then (g_X12_plainAct_b200  h5 x0)
 else (if x3 = (58 : Int32) then ((jw_rc h5 12 (some x0)).bind fun a38 =>
 jw_b2 (f_X12_c h5 a38) fun w40 h39 =>
 jw_b2 (f_X12_isLabel h39 w40) fun w42 h41 =>
 (jw_rc h41 12 (some x0)).bind fun a43 =>
 jw_b2 (f_X12_takeIf h41 a43 w42) fun w45 h44 =>
 some ((), h44))
 else (if x3 = (98 : Int32) then (g_X12_plainAct_b262  h5 x0)
 else (if x3 = (84 : Int32) then (g_X12_plainAct_b262  h5 x0)
 else (if x3 = (115 : Int32) then ((jw_rc h5 12 (some x0)).bind fun a35 =>
 jw_b2 (f_X12_replacing h5 a35) fun w37 h36 =>
 some ((), h36))
 else (if x3 = (122 : Int32) then ((jw_rc h5 12 (some x0)).bind fun a32 =>
 jw_b2 (f_X12_turning h5 a32) fun w34 h33 =>
 some ((), h33))
 else (jw_b2 (f_X12_isBare h5 x3) fun w25 h24 =>
 if w25 = 0 then ((jw_gI h24 12 (some x0) 23).bind fun v27 =>
 (jw_pI h24 12 (some x0) 23 (v27 - (1 : Int32))).bind fun h28 =>
 (jw_rc h28 12 (some x0)).bind fun a29 =>
 jw_b2 (f_X12_fail h28 a29) fun w31 h30 =>
 some ((), h30))
 else (some ((), h24)))))))))))))))))))))

noncomputable def g_X12_plainAct_b51 (h : jw_H) (x0 : Nat) (x2 : Int32) (x3 : Int32) : Option (Unit × jw_H) :=
 if x3 = (58 : Int32) then (if x2 = 0 then (g_X12_plainAct_b61  h x0 x3)
 else (g_X12_plainAct_b72  h x0))
 else (g_X12_plainAct_b61  h x0 x3)

noncomputable def g_X12_plainAct_b40 (h : jw_H) (x0 : Nat) (x1 : Int32) (x2 : Int32) (x3 : Int32) (t0 : Int32) : Option (Unit × jw_H) :=
 if t0 = 0 then (g_X12_plainAct_b51  h x0 x2 x3)
 else (if x1 = 0 then (g_X12_plainAct_b51  h x0 x2 x3)
 else (g_X12_plainAct_b72  h x0))

noncomputable def g_X12_plainAct_b35 (h : jw_H) (x0 : Nat) (x1 : Int32) (x2 : Int32) (x3 : Int32) : Option (Unit × jw_H) :=
 g_X12_plainAct_b40  h x0 x1 x2 x3 (1 : Int32)

noncomputable def f_X12_plainAct (h : jw_H) (x0 : Nat) (x1 : Int32) (x2 : Int32) : Option (Unit × jw_H) :=
 (jw_rc h 12 (some x0)).bind fun a1 =>
 jw_b2 (f_X12_c h a1) fun w3 h2 =>
 if w3 = (58 : Int32) then (g_X12_plainAct_b35  h2 x0 x1 x2 w3)
 else (if w3 = (98 : Int32) then (g_X12_plainAct_b35  h2 x0 x1 x2 w3)
 else (if w3 = (84 : Int32) then (g_X12_plainAct_b35  h2 x0 x1 x2 w3)
 else (if w3 = (113 : Int32) then (g_X12_plainAct_b35  h2 x0 x1 x2 w3)
 else (if w3 = (78 : Int32) then (g_X12_plainAct_b35  h2 x0 x1 x2 w3)
 else (g_X12_plainAct_b40  h2 x0 x1 x2 w3 (0 : Int32))))))

set_option maxRecDepth 100000 in
set_option maxHeartbeats 4000000 in
theorem l_X12_plainAct_b72 {hi : jw_H} {h : jw_H} {x0 : Nat} {r : Unit} {h' : jw_H} (hq : g_X12_plainAct_b72  h x0 = some (r, h')) : jw_E 9 uX12_plainAct hi 72 [some (.ref x0), none, none, none, none] [] h (.inl none) h' := by
  unfold g_X12_plainAct_b72 at hq
  refine jw_aload_n dX12_plainAct_72 (o := (some x0)) rfl ?_
  obtain ⟨a1, ea1, hq⟩ := Option.bind_eq_some_iff.mp hq
  obtain ⟨eoa1, eta1⟩ := jw_rc_spec ea1
  obtain ⟨w3, h2, ew3, hq⟩ := jw_b2_spec hq
  refine jw_callV (As := []) (S := []) (a := a1) (v := none) dX12_plainAct_73 mt_X12_fail in_X12_fail se_X12_fail lk_X12_159 (c_X12_fail ew3) eta1 (by decide) rfl rfl (by decide) (Nat.le_of_ble_eq_true rfl) (by cases eoa1; rfl) ?_
  cases hq
  exact jw_vret dX12_plainAct_76 rfl

set_option maxRecDepth 100000 in
set_option maxHeartbeats 4000000 in
theorem l_X12_plainAct_b105 {hi : jw_H} {h : jw_H} {x0 : Nat} {r : Unit} {h' : jw_H} (hq : g_X12_plainAct_b105  h x0 = some (r, h')) : jw_E 9 uX12_plainAct hi 105 [some (.ref x0), none, none, none, none] [] h (.inl none) h' := by
  unfold g_X12_plainAct_b105 at hq
  refine jw_aload_n dX12_plainAct_105 (o := (some x0)) rfl ?_
  obtain ⟨a1, ea1, hq⟩ := Option.bind_eq_some_iff.mp hq
  obtain ⟨eoa1, eta1⟩ := jw_rc_spec ea1
  obtain ⟨w3, h2, ew3, hq⟩ := jw_b2_spec hq
  refine jw_callV (As := []) (S := []) (a := a1) (v := none) dX12_plainAct_106 mt_X12_rows in_X12_rows se_X12_rows lk_X12_221 (c_X12_rows ew3) eta1 (by decide) rfl rfl (by decide) (Nat.le_of_ble_eq_true rfl) (by cases eoa1; rfl) ?_
  refine jw_goto (tgt := 336) dX12_plainAct_109 (by decide) ?_
  cases hq
  exact jw_vret dX12_plainAct_336 rfl

set_option maxRecDepth 100000 in
set_option maxHeartbeats 4000000 in
theorem l_X12_plainAct_b142 {hi : jw_H} {h : jw_H} {x0 : Nat} {r : Unit} {h' : jw_H} (hq : g_X12_plainAct_b142  h x0 = some (r, h')) : jw_E 9 uX12_plainAct hi 142 [some (.ref x0), none, none, none, none] [] h (.inl none) h' := by
  unfold g_X12_plainAct_b142 at hq
  refine jw_aload_n dX12_plainAct_142 (o := (some x0)) rfl ?_
  obtain ⟨a1, ea1, hq⟩ := Option.bind_eq_some_iff.mp hq
  obtain ⟨eoa1, eta1⟩ := jw_rc_spec ea1
  obtain ⟨w3, h2, ew3, hq⟩ := jw_b2_spec hq
  refine jw_callV (As := []) (S := []) (a := a1) (v := none) dX12_plainAct_143 mt_X12_number in_X12_number se_X12_number lk_X12_191 (c_X12_number ew3) eta1 (by decide) rfl rfl (by decide) (Nat.le_of_ble_eq_true rfl) (by cases eoa1; rfl) ?_
  refine jw_goto (tgt := 336) dX12_plainAct_146 (by decide) ?_
  cases hq
  exact jw_vret dX12_plainAct_336 rfl

set_option maxRecDepth 100000 in
set_option maxHeartbeats 4000000 in
theorem l_X12_plainAct_b161 {hi : jw_H} {h : jw_H} {x0 : Nat} {r : Unit} {h' : jw_H} (hq : g_X12_plainAct_b161  h x0 = some (r, h')) : jw_E 9 uX12_plainAct hi 161 [some (.ref x0), none, none, none, none] [] h (.inl none) h' := by
  unfold g_X12_plainAct_b161 at hq
  refine jw_aload_n dX12_plainAct_161 (o := (some x0)) rfl ?_
  obtain ⟨a1, ea1, hq⟩ := Option.bind_eq_some_iff.mp hq
  obtain ⟨eoa1, eta1⟩ := jw_rc_spec ea1
  obtain ⟨w3, h2, ew3, hq⟩ := jw_b2_spec hq
  refine jw_callV (As := []) (S := []) (a := a1) (v := none) dX12_plainAct_162 mt_X12_address in_X12_address se_X12_address lk_X12_212 (c_X12_address ew3) eta1 (by decide) rfl rfl (by decide) (Nat.le_of_ble_eq_true rfl) (by cases eoa1; rfl) ?_
  refine jw_goto (tgt := 336) dX12_plainAct_165 (by decide) ?_
  cases hq
  exact jw_vret dX12_plainAct_336 rfl

set_option maxRecDepth 100000 in
set_option maxHeartbeats 4000000 in
theorem l_X12_plainAct_b224 {hi : jw_H} {h : jw_H} {t0 : Nat} {t1 : Int32} {r : Unit} {h' : jw_H} (hq : g_X12_plainAct_b224  h t0 t1 = some (r, h')) : jw_E 9 uX12_plainAct hi 224 [none, none, none, none, none] [.int t1, .ref t0] h (.inl none) h' := by
  unfold g_X12_plainAct_b224 at hq
  obtain ⟨a1, ea1, hq⟩ := Option.bind_eq_some_iff.mp hq
  obtain ⟨eoa1, eta1⟩ := jw_rc_spec ea1
  obtain ⟨w3, h2, ew3, hq⟩ := jw_b2_spec hq
  refine jw_callV (As := [.int t1]) (S := []) (a := a1) (v := none) dX12_plainAct_224 mt_X12_takeIf in_X12_takeIf se_X12_takeIf lk_X12_166 (c_X12_takeIf ew3) eta1 (by decide) rfl rfl (by decide) (Nat.le_of_ble_eq_true rfl) (by cases eoa1; rfl) ?_
  refine jw_goto (tgt := 336) dX12_plainAct_227 (by decide) ?_
  cases hq
  exact jw_vret dX12_plainAct_336 rfl

set_option maxRecDepth 100000 in
set_option maxHeartbeats 4000000 in
theorem l_X12_plainAct_b223 {hi : jw_H} {h : jw_H} {t0 : Nat} {r : Unit} {h' : jw_H} (hq : g_X12_plainAct_b223  h t0 = some (r, h')) : jw_E 9 uX12_plainAct hi 223 [none, none, none, none, none] [.ref t0] h (.inl none) h' := by
  unfold g_X12_plainAct_b223 at hq
  refine jw_iconst dX12_plainAct_223 (v := (0 : Int32)) (by decide) ?_
  exact l_X12_plainAct_b224  hq

set_option maxRecDepth 100000 in
set_option maxHeartbeats 4000000 in
theorem l_X12_plainAct_b200 {hi : jw_H} {h : jw_H} {x0 : Nat} {r : Unit} {h' : jw_H} (hq : g_X12_plainAct_b200  h x0 = some (r, h')) : jw_E 9 uX12_plainAct hi 200 [some (.ref x0), none, none, none, none] [] h (.inl none) h' := by
  unfold g_X12_plainAct_b200 at hq
  refine jw_aload_n dX12_plainAct_200 (o := (some x0)) rfl ?_
  refine jw_aload_n dX12_plainAct_201 (o := (some x0)) rfl ?_
  obtain ⟨a1, ea1, hq⟩ := Option.bind_eq_some_iff.mp hq
  obtain ⟨eoa1, eta1⟩ := jw_rc_spec ea1
  obtain ⟨w3, h2, ew3, hq⟩ := jw_b2_spec hq
  refine jw_callV (As := []) (S := [.ref x0]) (a := a1) (v := some (.int w3)) dX12_plainAct_202 mt_X12_c in_X12_c se_X12_c lk_X12_162 (c_X12_c ew3) eta1 (by decide) rfl rfl (by decide) (Nat.le_of_ble_eq_true rfl) (by cases eoa1; rfl) ?_
  refine jw_bipush dX12_plainAct_205 (v := (48 : Int32)) (by decide) ?_
  rcases jw_if hq with ⟨c4, hq⟩ | ⟨c4, hq⟩
  · refine jw_icmp_lt_t (tgt := 223) dX12_plainAct_207 (by decide) c4 ?_
    refine jw_forget [false, true, true, true, true] (L' := [none, none, none, none, none]) rfl ?_
    exact l_X12_plainAct_b223  hq
  · refine jw_icmp_lt_f (tgt := 223) dX12_plainAct_207 (by decide) c4 ?_
    refine jw_aload_n dX12_plainAct_210 (o := (some x0)) rfl ?_
    obtain ⟨a5, ea5, hq⟩ := Option.bind_eq_some_iff.mp hq
    obtain ⟨eoa5, eta5⟩ := jw_rc_spec ea5
    obtain ⟨w7, h6, ew7, hq⟩ := jw_b2_spec hq
    refine jw_callV (As := []) (S := [.ref x0]) (a := a5) (v := some (.int w7)) dX12_plainAct_211 mt_X12_c in_X12_c se_X12_c lk_X12_162 (c_X12_c ew7) eta5 (by decide) rfl rfl (by decide) (Nat.le_of_ble_eq_true rfl) (by cases eoa5; rfl) ?_
    refine jw_bipush dX12_plainAct_214 (v := (51 : Int32)) (by decide) ?_
    rcases jw_if hq with ⟨c8, hq⟩ | ⟨c8, hq⟩
    · refine jw_icmp_gt_t (tgt := 223) dX12_plainAct_216 (by decide) c8 ?_
      refine jw_forget [false, true, true, true, true] (L' := [none, none, none, none, none]) rfl ?_
      exact l_X12_plainAct_b223  hq
    · refine jw_icmp_gt_f (tgt := 223) dX12_plainAct_216 (by decide) c8 ?_
      refine jw_iconst dX12_plainAct_219 (v := (1 : Int32)) (by decide) ?_
      refine jw_goto (tgt := 224) dX12_plainAct_220 (by decide) ?_
      refine jw_forget [false, true, true, true, true] (L' := [none, none, none, none, none]) rfl ?_
      exact l_X12_plainAct_b224  hq

set_option maxRecDepth 100000 in
set_option maxHeartbeats 4000000 in
theorem l_X12_plainAct_b282 {hi : jw_H} {h : jw_H} {t0 : Nat} {t1 : Int32} {t2 : Int32} {r : Unit} {h' : jw_H} (hq : g_X12_plainAct_b282  h t0 t1 t2 = some (r, h')) : jw_E 9 uX12_plainAct hi 282 [none, none, none, none, none] [.int t2, .int t1, .ref t0] h (.inl none) h' := by
  unfold g_X12_plainAct_b282 at hq
  refine jw_iadd dX12_plainAct_282 ?_
  obtain ⟨h1, eh1, hq⟩ := Option.bind_eq_some_iff.mp hq
  refine jw_putI (o := (some t0)) dX12_plainAct_283 eh1 fl_X12_149 rfl rfl ?_
  refine jw_goto (tgt := 336) dX12_plainAct_286 (by decide) ?_
  cases hq
  exact jw_vret dX12_plainAct_336 rfl

set_option maxRecDepth 100000 in
set_option maxHeartbeats 4000000 in
theorem l_X12_plainAct_b262 {hi : jw_H} {h : jw_H} {x0 : Nat} {r : Unit} {h' : jw_H} (hq : g_X12_plainAct_b262  h x0 = some (r, h')) : jw_E 9 uX12_plainAct hi 262 [some (.ref x0), none, none, none, none] [] h (.inl none) h' := by
  unfold g_X12_plainAct_b262 at hq
  refine jw_aload_n dX12_plainAct_262 (o := (some x0)) rfl ?_
  refine jw_dup dX12_plainAct_263 rfl ?_
  obtain ⟨v1, ev1, hq⟩ := Option.bind_eq_some_iff.mp hq
  refine jw_getI (o := (some x0)) dX12_plainAct_264 ev1 fl_X12_149 rfl ?_
  refine jw_aload_n dX12_plainAct_267 (o := (some x0)) rfl ?_
  obtain ⟨a2, ea2, hq⟩ := Option.bind_eq_some_iff.mp hq
  obtain ⟨eoa2, eta2⟩ := jw_rc_spec ea2
  obtain ⟨w4, h3, ew4, hq⟩ := jw_b2_spec hq
  refine jw_callV (As := []) (S := [.int v1, .ref x0]) (a := a2) (v := some (.int w4)) dX12_plainAct_268 mt_X12_c in_X12_c se_X12_c lk_X12_162 (c_X12_c ew4) eta2 (by decide) rfl rfl (by decide) (Nat.le_of_ble_eq_true rfl) (by cases eoa2; rfl) ?_
  obtain ⟨w6, h5, ew6, hq⟩ := jw_b2_spec hq
  refine jw_callS (As := [.int w4]) (S := [.int v1, .ref x0]) (v := some (.int w6)) dX12_plainAct_271 mt_X12_isLabel st_X12_isLabel lk_X12_224 (c_X12_isLabel ew6) rfl (by decide) (Nat.le_of_ble_eq_true rfl) rfl ?_
  rcases jw_if hq with ⟨c7, hq⟩ | ⟨c7, hq⟩
  · refine jw_if_eq_t (tgt := 281) dX12_plainAct_274 (by decide) c7 ?_
    refine jw_iconst dX12_plainAct_281 (v := (0 : Int32)) (by decide) ?_
    refine jw_forget [false, true, true, true, true] (L' := [none, none, none, none, none]) rfl ?_
    exact l_X12_plainAct_b282  hq
  · refine jw_if_eq_f (tgt := 281) dX12_plainAct_274 (by decide) c7 ?_
    refine jw_iconst dX12_plainAct_277 (v := (1 : Int32)) (by decide) ?_
    refine jw_goto (tgt := 282) dX12_plainAct_278 (by decide) ?_
    refine jw_forget [false, true, true, true, true] (L' := [none, none, none, none, none]) rfl ?_
    exact l_X12_plainAct_b282  hq

set_option maxRecDepth 100000 in
set_option maxHeartbeats 4000000 in
theorem l_X12_plainAct_b61 {hi : jw_H} {h : jw_H} {x0 : Nat} {x3 : Int32} {r : Unit} {h' : jw_H} (hq : g_X12_plainAct_b61  h x0 x3 = some (r, h')) : jw_E 9 uX12_plainAct hi 61 [some (.ref x0), none, none, some (.int x3), none] [] h (.inl none) h' := by
  unfold g_X12_plainAct_b61 at hq
  refine jw_aload_n dX12_plainAct_61 (o := (some x0)) rfl ?_
  obtain ⟨v1, ev1, hq⟩ := Option.bind_eq_some_iff.mp hq
  refine jw_getI (o := (some x0)) dX12_plainAct_62 ev1 fl_X12_149 rfl ?_
  refine jw_aload_n dX12_plainAct_65 (o := (some x0)) rfl ?_
  obtain ⟨v2, ev2, hq⟩ := Option.bind_eq_some_iff.mp hq
  refine jw_getI (o := (some x0)) dX12_plainAct_66 ev2 fl_X12_146 rfl ?_
  rcases jw_if hq with ⟨c3, hq⟩ | ⟨c3, hq⟩
  · refine jw_icmp_ne_f (tgt := 77) dX12_plainAct_69 (by decide) c3 ?_
    refine jw_forget [true, true, true, false, true] (L' := [some (.ref x0), none, none, none, none]) rfl ?_
    exact l_X12_plainAct_b72  hq
  · refine jw_icmp_ne_t (tgt := 77) dX12_plainAct_69 (by decide) c3 ?_
    refine jw_aload_n dX12_plainAct_77 (o := (some x0)) rfl ?_
    refine jw_dup dX12_plainAct_78 rfl ?_
    obtain ⟨v4, ev4, hq⟩ := Option.bind_eq_some_iff.mp hq
    refine jw_getI (o := (some x0)) dX12_plainAct_79 ev4 fl_X12_149 rfl ?_
    refine jw_iconst dX12_plainAct_82 (v := (1 : Int32)) (by decide) ?_
    refine jw_iadd dX12_plainAct_83 ?_
    obtain ⟨h5, eh5, hq⟩ := Option.bind_eq_some_iff.mp hq
    refine jw_putI (o := (some x0)) dX12_plainAct_84 eh5 fl_X12_149 rfl rfl ?_
    refine jw_iload_n dX12_plainAct_87 rfl ?_
    refine jw_bipush dX12_plainAct_88 (v := (97 : Int32)) (by decide) ?_
    rcases jw_if hq with ⟨c6, hq⟩ | ⟨c6, hq⟩
    · refine jw_icmp_eq_t (tgt := 105) dX12_plainAct_90 (by decide) c6 ?_
      refine jw_forget [true, true, true, false, true] (L' := [some (.ref x0), none, none, none, none]) rfl ?_
      exact l_X12_plainAct_b105  hq
    · refine jw_icmp_eq_f (tgt := 105) dX12_plainAct_90 (by decide) c6 ?_
      refine jw_iload_n dX12_plainAct_93 rfl ?_
      refine jw_bipush dX12_plainAct_94 (v := (105 : Int32)) (by decide) ?_
      rcases jw_if hq with ⟨c7, hq⟩ | ⟨c7, hq⟩
      · refine jw_icmp_eq_t (tgt := 105) dX12_plainAct_96 (by decide) c7 ?_
        refine jw_forget [true, true, true, false, true] (L' := [some (.ref x0), none, none, none, none]) rfl ?_
        exact l_X12_plainAct_b105  hq
      · refine jw_icmp_eq_f (tgt := 105) dX12_plainAct_96 (by decide) c7 ?_
        refine jw_iload_n dX12_plainAct_99 rfl ?_
        refine jw_bipush dX12_plainAct_100 (v := (99 : Int32)) (by decide) ?_
        rcases jw_if hq with ⟨c8, hq⟩ | ⟨c8, hq⟩
        · refine jw_icmp_ne_f (tgt := 112) dX12_plainAct_102 (by decide) c8 ?_
          refine jw_forget [true, true, true, false, true] (L' := [some (.ref x0), none, none, none, none]) rfl ?_
          exact l_X12_plainAct_b105  hq
        · refine jw_icmp_ne_t (tgt := 112) dX12_plainAct_102 (by decide) c8 ?_
          refine jw_iload_n dX12_plainAct_112 rfl ?_
          refine jw_bipush dX12_plainAct_113 (v := (118 : Int32)) (by decide) ?_
          rcases jw_if hq with ⟨c9, hq⟩ | ⟨c9, hq⟩
          · refine jw_icmp_eq_t (tgt := 142) dX12_plainAct_115 (by decide) c9 ?_
            refine jw_forget [true, true, true, false, true] (L' := [some (.ref x0), none, none, none, none]) rfl ?_
            exact l_X12_plainAct_b142  hq
          · refine jw_icmp_eq_f (tgt := 142) dX12_plainAct_115 (by decide) c9 ?_
            refine jw_iload_n dX12_plainAct_118 rfl ?_
            refine jw_bipush dX12_plainAct_119 (v := (62 : Int32)) (by decide) ?_
            rcases jw_if hq with ⟨c10, hq⟩ | ⟨c10, hq⟩
            · refine jw_icmp_eq_t (tgt := 142) dX12_plainAct_121 (by decide) c10 ?_
              refine jw_forget [true, true, true, false, true] (L' := [some (.ref x0), none, none, none, none]) rfl ?_
              exact l_X12_plainAct_b142  hq
            · refine jw_icmp_eq_f (tgt := 142) dX12_plainAct_121 (by decide) c10 ?_
              refine jw_iload_n dX12_plainAct_124 rfl ?_
              refine jw_bipush dX12_plainAct_125 (v := (60 : Int32)) (by decide) ?_
              rcases jw_if hq with ⟨c11, hq⟩ | ⟨c11, hq⟩
              · refine jw_icmp_eq_t (tgt := 142) dX12_plainAct_127 (by decide) c11 ?_
                refine jw_forget [true, true, true, false, true] (L' := [some (.ref x0), none, none, none, none]) rfl ?_
                exact l_X12_plainAct_b142  hq
              · refine jw_icmp_eq_f (tgt := 142) dX12_plainAct_127 (by decide) c11 ?_
                refine jw_iload_n dX12_plainAct_130 rfl ?_
                refine jw_bipush dX12_plainAct_131 (v := (111 : Int32)) (by decide) ?_
                rcases jw_if hq with ⟨c12, hq⟩ | ⟨c12, hq⟩
                · refine jw_icmp_eq_t (tgt := 142) dX12_plainAct_133 (by decide) c12 ?_
                  refine jw_forget [true, true, true, false, true] (L' := [some (.ref x0), none, none, none, none]) rfl ?_
                  exact l_X12_plainAct_b142  hq
                · refine jw_icmp_eq_f (tgt := 142) dX12_plainAct_133 (by decide) c12 ?_
                  refine jw_iload_n dX12_plainAct_136 rfl ?_
                  refine jw_bipush dX12_plainAct_137 (v := (79 : Int32)) (by decide) ?_
                  rcases jw_if hq with ⟨c13, hq⟩ | ⟨c13, hq⟩
                  · refine jw_icmp_ne_f (tgt := 149) dX12_plainAct_139 (by decide) c13 ?_
                    refine jw_forget [true, true, true, false, true] (L' := [some (.ref x0), none, none, none, none]) rfl ?_
                    exact l_X12_plainAct_b142  hq
                  · refine jw_icmp_ne_t (tgt := 149) dX12_plainAct_139 (by decide) c13 ?_
                    refine jw_iload_n dX12_plainAct_149 rfl ?_
                    refine jw_bipush dX12_plainAct_150 (v := (109 : Int32)) (by decide) ?_
                    rcases jw_if hq with ⟨c14, hq⟩ | ⟨c14, hq⟩
                    · refine jw_icmp_eq_t (tgt := 161) dX12_plainAct_152 (by decide) c14 ?_
                      refine jw_forget [true, true, true, false, true] (L' := [some (.ref x0), none, none, none, none]) rfl ?_
                      exact l_X12_plainAct_b161  hq
                    · refine jw_icmp_eq_f (tgt := 161) dX12_plainAct_152 (by decide) c14 ?_
                      refine jw_iload_n dX12_plainAct_155 rfl ?_
                      refine jw_bipush dX12_plainAct_156 (v := (116 : Int32)) (by decide) ?_
                      rcases jw_if hq with ⟨c15, hq⟩ | ⟨c15, hq⟩
                      · refine jw_icmp_ne_f (tgt := 168) dX12_plainAct_158 (by decide) c15 ?_
                        refine jw_forget [true, true, true, false, true] (L' := [some (.ref x0), none, none, none, none]) rfl ?_
                        exact l_X12_plainAct_b161  hq
                      · refine jw_icmp_ne_t (tgt := 168) dX12_plainAct_158 (by decide) c15 ?_
                        refine jw_iload_n dX12_plainAct_168 rfl ?_
                        refine jw_bipush dX12_plainAct_169 (v := (107 : Int32)) (by decide) ?_
                        rcases jw_if hq with ⟨c16, hq⟩ | ⟨c16, hq⟩
                        · refine jw_icmp_ne_f (tgt := 188) dX12_plainAct_171 (by decide) c16 ?_
                          refine jw_aload_n dX12_plainAct_174 (o := (some x0)) rfl ?_
                          refine jw_aload_n dX12_plainAct_175 (o := (some x0)) rfl ?_
                          obtain ⟨a46, ea46, hq⟩ := Option.bind_eq_some_iff.mp hq
                          obtain ⟨eoa46, eta46⟩ := jw_rc_spec ea46
                          obtain ⟨w48, h47, ew48, hq⟩ := jw_b2_spec hq
                          refine jw_callV (As := []) (S := [.ref x0]) (a := a46) (v := some (.int w48)) dX12_plainAct_176 mt_X12_c in_X12_c se_X12_c lk_X12_162 (c_X12_c ew48) eta46 (by decide) rfl rfl (by decide) (Nat.le_of_ble_eq_true rfl) (by cases eoa46; rfl) ?_
                          obtain ⟨w50, h49, ew50, hq⟩ := jw_b2_spec hq
                          refine jw_callS (As := [.int w48]) (S := [.ref x0]) (v := some (.int w50)) dX12_plainAct_179 mt_X12_isMark st_X12_isMark lk_X12_194 (c_X12_isMark ew50) rfl (by decide) (Nat.le_of_ble_eq_true rfl) rfl ?_
                          obtain ⟨a51, ea51, hq⟩ := Option.bind_eq_some_iff.mp hq
                          obtain ⟨eoa51, eta51⟩ := jw_rc_spec ea51
                          obtain ⟨w53, h52, ew53, hq⟩ := jw_b2_spec hq
                          refine jw_callV (As := [.int w50]) (S := []) (a := a51) (v := none) dX12_plainAct_182 mt_X12_takeIf in_X12_takeIf se_X12_takeIf lk_X12_166 (c_X12_takeIf ew53) eta51 (by decide) rfl rfl (by decide) (Nat.le_of_ble_eq_true rfl) (by cases eoa51; rfl) ?_
                          refine jw_goto (tgt := 336) dX12_plainAct_185 (by decide) ?_
                          cases hq
                          exact jw_vret dX12_plainAct_336 rfl
                        · refine jw_icmp_ne_t (tgt := 188) dX12_plainAct_171 (by decide) c16 ?_
                          refine jw_iload_n dX12_plainAct_188 rfl ?_
                          refine jw_bipush dX12_plainAct_189 (v := (114 : Int32)) (by decide) ?_
                          rcases jw_if hq with ⟨c17, hq⟩ | ⟨c17, hq⟩
                          · refine jw_icmp_eq_t (tgt := 200) dX12_plainAct_191 (by decide) c17 ?_
                            refine jw_forget [true, true, true, false, true] (L' := [some (.ref x0), none, none, none, none]) rfl ?_
                            exact l_X12_plainAct_b200  hq
                          · refine jw_icmp_eq_f (tgt := 200) dX12_plainAct_191 (by decide) c17 ?_
                            refine jw_iload_n dX12_plainAct_194 rfl ?_
                            refine jw_bipush dX12_plainAct_195 (v := (119 : Int32)) (by decide) ?_
                            rcases jw_if hq with ⟨c18, hq⟩ | ⟨c18, hq⟩
                            · refine jw_icmp_ne_f (tgt := 230) dX12_plainAct_197 (by decide) c18 ?_
                              refine jw_forget [true, true, true, false, true] (L' := [some (.ref x0), none, none, none, none]) rfl ?_
                              exact l_X12_plainAct_b200  hq
                            · refine jw_icmp_ne_t (tgt := 230) dX12_plainAct_197 (by decide) c18 ?_
                              refine jw_iload_n dX12_plainAct_230 rfl ?_
                              refine jw_bipush dX12_plainAct_231 (v := (58 : Int32)) (by decide) ?_
                              rcases jw_if hq with ⟨c19, hq⟩ | ⟨c19, hq⟩
                              · refine jw_icmp_ne_f (tgt := 250) dX12_plainAct_233 (by decide) c19 ?_
                                refine jw_aload_n dX12_plainAct_236 (o := (some x0)) rfl ?_
                                refine jw_aload_n dX12_plainAct_237 (o := (some x0)) rfl ?_
                                obtain ⟨a38, ea38, hq⟩ := Option.bind_eq_some_iff.mp hq
                                obtain ⟨eoa38, eta38⟩ := jw_rc_spec ea38
                                obtain ⟨w40, h39, ew40, hq⟩ := jw_b2_spec hq
                                refine jw_callV (As := []) (S := [.ref x0]) (a := a38) (v := some (.int w40)) dX12_plainAct_238 mt_X12_c in_X12_c se_X12_c lk_X12_162 (c_X12_c ew40) eta38 (by decide) rfl rfl (by decide) (Nat.le_of_ble_eq_true rfl) (by cases eoa38; rfl) ?_
                                obtain ⟨w42, h41, ew42, hq⟩ := jw_b2_spec hq
                                refine jw_callS (As := [.int w40]) (S := [.ref x0]) (v := some (.int w42)) dX12_plainAct_241 mt_X12_isLabel st_X12_isLabel lk_X12_224 (c_X12_isLabel ew42) rfl (by decide) (Nat.le_of_ble_eq_true rfl) rfl ?_
                                obtain ⟨a43, ea43, hq⟩ := Option.bind_eq_some_iff.mp hq
                                obtain ⟨eoa43, eta43⟩ := jw_rc_spec ea43
                                obtain ⟨w45, h44, ew45, hq⟩ := jw_b2_spec hq
                                refine jw_callV (As := [.int w42]) (S := []) (a := a43) (v := none) dX12_plainAct_244 mt_X12_takeIf in_X12_takeIf se_X12_takeIf lk_X12_166 (c_X12_takeIf ew45) eta43 (by decide) rfl rfl (by decide) (Nat.le_of_ble_eq_true rfl) (by cases eoa43; rfl) ?_
                                refine jw_goto (tgt := 336) dX12_plainAct_247 (by decide) ?_
                                cases hq
                                exact jw_vret dX12_plainAct_336 rfl
                              · refine jw_icmp_ne_t (tgt := 250) dX12_plainAct_233 (by decide) c19 ?_
                                refine jw_iload_n dX12_plainAct_250 rfl ?_
                                refine jw_bipush dX12_plainAct_251 (v := (98 : Int32)) (by decide) ?_
                                rcases jw_if hq with ⟨c20, hq⟩ | ⟨c20, hq⟩
                                · refine jw_icmp_eq_t (tgt := 262) dX12_plainAct_253 (by decide) c20 ?_
                                  refine jw_forget [true, true, true, false, true] (L' := [some (.ref x0), none, none, none, none]) rfl ?_
                                  exact l_X12_plainAct_b262  hq
                                · refine jw_icmp_eq_f (tgt := 262) dX12_plainAct_253 (by decide) c20 ?_
                                  refine jw_iload_n dX12_plainAct_256 rfl ?_
                                  refine jw_bipush dX12_plainAct_257 (v := (84 : Int32)) (by decide) ?_
                                  rcases jw_if hq with ⟨c21, hq⟩ | ⟨c21, hq⟩
                                  · refine jw_icmp_ne_f (tgt := 289) dX12_plainAct_259 (by decide) c21 ?_
                                    refine jw_forget [true, true, true, false, true] (L' := [some (.ref x0), none, none, none, none]) rfl ?_
                                    exact l_X12_plainAct_b262  hq
                                  · refine jw_icmp_ne_t (tgt := 289) dX12_plainAct_259 (by decide) c21 ?_
                                    refine jw_iload_n dX12_plainAct_289 rfl ?_
                                    refine jw_bipush dX12_plainAct_290 (v := (115 : Int32)) (by decide) ?_
                                    rcases jw_if hq with ⟨c22, hq⟩ | ⟨c22, hq⟩
                                    · refine jw_icmp_ne_f (tgt := 302) dX12_plainAct_292 (by decide) c22 ?_
                                      refine jw_aload_n dX12_plainAct_295 (o := (some x0)) rfl ?_
                                      obtain ⟨a35, ea35, hq⟩ := Option.bind_eq_some_iff.mp hq
                                      obtain ⟨eoa35, eta35⟩ := jw_rc_spec ea35
                                      obtain ⟨w37, h36, ew37, hq⟩ := jw_b2_spec hq
                                      refine jw_callV (As := []) (S := []) (a := a35) (v := none) dX12_plainAct_296 mt_X12_replacing in_X12_replacing se_X12_replacing lk_X12_227 (c_X12_replacing ew37) eta35 (by decide) rfl rfl (by decide) (Nat.le_of_ble_eq_true rfl) (by cases eoa35; rfl) ?_
                                      refine jw_goto (tgt := 336) dX12_plainAct_299 (by decide) ?_
                                      cases hq
                                      exact jw_vret dX12_plainAct_336 rfl
                                    · refine jw_icmp_ne_t (tgt := 302) dX12_plainAct_292 (by decide) c22 ?_
                                      refine jw_iload_n dX12_plainAct_302 rfl ?_
                                      refine jw_bipush dX12_plainAct_303 (v := (122 : Int32)) (by decide) ?_
                                      rcases jw_if hq with ⟨c23, hq⟩ | ⟨c23, hq⟩
                                      · refine jw_icmp_ne_f (tgt := 315) dX12_plainAct_305 (by decide) c23 ?_
                                        refine jw_aload_n dX12_plainAct_308 (o := (some x0)) rfl ?_
                                        obtain ⟨a32, ea32, hq⟩ := Option.bind_eq_some_iff.mp hq
                                        obtain ⟨eoa32, eta32⟩ := jw_rc_spec ea32
                                        obtain ⟨w34, h33, ew34, hq⟩ := jw_b2_spec hq
                                        refine jw_callV (As := []) (S := []) (a := a32) (v := none) dX12_plainAct_309 mt_X12_turning in_X12_turning se_X12_turning lk_X12_230 (c_X12_turning ew34) eta32 (by decide) rfl rfl (by decide) (Nat.le_of_ble_eq_true rfl) (by cases eoa32; rfl) ?_
                                        refine jw_goto (tgt := 336) dX12_plainAct_312 (by decide) ?_
                                        cases hq
                                        exact jw_vret dX12_plainAct_336 rfl
                                      · refine jw_icmp_ne_t (tgt := 315) dX12_plainAct_305 (by decide) c23 ?_
                                        refine jw_iload_n dX12_plainAct_315 rfl ?_
                                        obtain ⟨w25, h24, ew25, hq⟩ := jw_b2_spec hq
                                        refine jw_callS (As := [.int x3]) (S := []) (v := some (.int w25)) dX12_plainAct_316 mt_X12_isBare st_X12_isBare lk_X12_233 (c_X12_isBare ew25) rfl (by decide) (Nat.le_of_ble_eq_true rfl) rfl ?_
                                        rcases jw_if hq with ⟨c26, hq⟩ | ⟨c26, hq⟩
                                        · refine jw_if_ne_f (tgt := 336) dX12_plainAct_319 (by decide) c26 ?_
                                          refine jw_aload_n dX12_plainAct_322 (o := (some x0)) rfl ?_
                                          refine jw_dup dX12_plainAct_323 rfl ?_
                                          obtain ⟨v27, ev27, hq⟩ := Option.bind_eq_some_iff.mp hq
                                          refine jw_getI (o := (some x0)) dX12_plainAct_324 ev27 fl_X12_149 rfl ?_
                                          refine jw_iconst dX12_plainAct_327 (v := (1 : Int32)) (by decide) ?_
                                          refine jw_isub dX12_plainAct_328 ?_
                                          obtain ⟨h28, eh28, hq⟩ := Option.bind_eq_some_iff.mp hq
                                          refine jw_putI (o := (some x0)) dX12_plainAct_329 eh28 fl_X12_149 rfl rfl ?_
                                          refine jw_aload_n dX12_plainAct_332 (o := (some x0)) rfl ?_
                                          obtain ⟨a29, ea29, hq⟩ := Option.bind_eq_some_iff.mp hq
                                          obtain ⟨eoa29, eta29⟩ := jw_rc_spec ea29
                                          obtain ⟨w31, h30, ew31, hq⟩ := jw_b2_spec hq
                                          refine jw_callV (As := []) (S := []) (a := a29) (v := none) dX12_plainAct_333 mt_X12_fail in_X12_fail se_X12_fail lk_X12_159 (c_X12_fail ew31) eta29 (by decide) rfl rfl (by decide) (Nat.le_of_ble_eq_true rfl) (by cases eoa29; rfl) ?_
                                          cases hq
                                          exact jw_vret dX12_plainAct_336 rfl
                                        · refine jw_if_ne_t (tgt := 336) dX12_plainAct_319 (by decide) c26 ?_
                                          cases hq
                                          exact jw_vret dX12_plainAct_336 rfl

set_option maxRecDepth 100000 in
set_option maxHeartbeats 4000000 in
theorem l_X12_plainAct_b51 {hi : jw_H} {h : jw_H} {x0 : Nat} {x2 : Int32} {x3 : Int32} {r : Unit} {h' : jw_H} (hq : g_X12_plainAct_b51  h x0 x2 x3 = some (r, h')) : jw_E 9 uX12_plainAct hi 51 [some (.ref x0), none, some (.int x2), some (.int x3), none] [] h (.inl none) h' := by
  unfold g_X12_plainAct_b51 at hq
  refine jw_iload_n dX12_plainAct_51 rfl ?_
  refine jw_bipush dX12_plainAct_52 (v := (58 : Int32)) (by decide) ?_
  rcases jw_if hq with ⟨c1, hq⟩ | ⟨c1, hq⟩
  · refine jw_icmp_ne_f (tgt := 61) dX12_plainAct_54 (by decide) c1 ?_
    refine jw_iload_n dX12_plainAct_57 rfl ?_
    rcases jw_if hq with ⟨c2, hq⟩ | ⟨c2, hq⟩
    · refine jw_if_ne_f (tgt := 72) dX12_plainAct_58 (by decide) c2 ?_
      refine jw_forget [true, true, false, true, true] (L' := [some (.ref x0), none, none, some (.int x3), none]) rfl ?_
      exact l_X12_plainAct_b61  hq
    · refine jw_if_ne_t (tgt := 72) dX12_plainAct_58 (by decide) c2 ?_
      refine jw_forget [true, true, false, false, true] (L' := [some (.ref x0), none, none, none, none]) rfl ?_
      exact l_X12_plainAct_b72  hq
  · refine jw_icmp_ne_t (tgt := 61) dX12_plainAct_54 (by decide) c1 ?_
    refine jw_forget [true, true, false, true, true] (L' := [some (.ref x0), none, none, some (.int x3), none]) rfl ?_
    exact l_X12_plainAct_b61  hq

set_option maxRecDepth 100000 in
set_option maxHeartbeats 4000000 in
theorem l_X12_plainAct_b40 {hi : jw_H} {h : jw_H} {x0 : Nat} {x1 : Int32} {x2 : Int32} {x3 : Int32} {t0 : Int32} {r : Unit} {h' : jw_H} (hq : g_X12_plainAct_b40  h x0 x1 x2 x3 t0 = some (r, h')) : jw_E 9 uX12_plainAct hi 40 [some (.ref x0), some (.int x1), some (.int x2), some (.int x3), none] [.int t0] h (.inl none) h' := by
  unfold g_X12_plainAct_b40 at hq
  refine jw_istore (L' := [some (.ref x0), some (.int x1), some (.int x2), some (.int x3), some (.int t0)]) dX12_plainAct_40 (Nat.le_of_ble_eq_true rfl) rfl ?_
  refine jw_iload dX12_plainAct_42 rfl ?_
  rcases jw_if hq with ⟨c1, hq⟩ | ⟨c1, hq⟩
  · refine jw_if_eq_t (tgt := 51) dX12_plainAct_44 (by decide) c1 ?_
    refine jw_forget [true, false, true, true, false] (L' := [some (.ref x0), none, some (.int x2), some (.int x3), none]) rfl ?_
    exact l_X12_plainAct_b51  hq
  · refine jw_if_eq_f (tgt := 51) dX12_plainAct_44 (by decide) c1 ?_
    refine jw_iload_n dX12_plainAct_47 rfl ?_
    rcases jw_if hq with ⟨c2, hq⟩ | ⟨c2, hq⟩
    · refine jw_if_ne_f (tgt := 72) dX12_plainAct_48 (by decide) c2 ?_
      refine jw_forget [true, false, true, true, false] (L' := [some (.ref x0), none, some (.int x2), some (.int x3), none]) rfl ?_
      exact l_X12_plainAct_b51  hq
    · refine jw_if_ne_t (tgt := 72) dX12_plainAct_48 (by decide) c2 ?_
      refine jw_forget [true, false, false, false, false] (L' := [some (.ref x0), none, none, none, none]) rfl ?_
      exact l_X12_plainAct_b72  hq

set_option maxRecDepth 100000 in
set_option maxHeartbeats 4000000 in
theorem l_X12_plainAct_b35 {hi : jw_H} {h : jw_H} {x0 : Nat} {x1 : Int32} {x2 : Int32} {x3 : Int32} {r : Unit} {h' : jw_H} (hq : g_X12_plainAct_b35  h x0 x1 x2 x3 = some (r, h')) : jw_E 9 uX12_plainAct hi 35 [some (.ref x0), some (.int x1), some (.int x2), some (.int x3), none] [] h (.inl none) h' := by
  unfold g_X12_plainAct_b35 at hq
  refine jw_iconst dX12_plainAct_35 (v := (1 : Int32)) (by decide) ?_
  refine jw_goto (tgt := 40) dX12_plainAct_36 (by decide) ?_
  exact l_X12_plainAct_b40  hq

set_option maxRecDepth 100000 in
set_option maxHeartbeats 4000000 in
theorem l_X12_plainAct {hi : jw_H} {h : jw_H} {x0 : Nat} {x1 : Int32} {x2 : Int32} {r : Unit} {h' : jw_H} (hq : f_X12_plainAct  h x0 x1 x2 = some (r, h')) : jw_E 9 uX12_plainAct hi 0 [some (.ref x0), some (.int x1), some (.int x2), none, none] [] h (.inl none) h' := by
  unfold f_X12_plainAct at hq
  refine jw_aload_n dX12_plainAct_0 (o := (some x0)) rfl ?_
  obtain ⟨a1, ea1, hq⟩ := Option.bind_eq_some_iff.mp hq
  obtain ⟨eoa1, eta1⟩ := jw_rc_spec ea1
  obtain ⟨w3, h2, ew3, hq⟩ := jw_b2_spec hq
  refine jw_callV (As := []) (S := []) (a := a1) (v := some (.int w3)) dX12_plainAct_1 mt_X12_c in_X12_c se_X12_c lk_X12_162 (c_X12_c ew3) eta1 (by decide) rfl rfl (by decide) (Nat.le_of_ble_eq_true rfl) (by cases eoa1; rfl) ?_
  refine jw_istore_n (L' := [some (.ref x0), some (.int x1), some (.int x2), some (.int w3), none]) dX12_plainAct_4 (Nat.le_of_ble_eq_true rfl) rfl ?_
  refine jw_iload_n dX12_plainAct_5 rfl ?_
  refine jw_bipush dX12_plainAct_6 (v := (58 : Int32)) (by decide) ?_
  rcases jw_if hq with ⟨c4, hq⟩ | ⟨c4, hq⟩
  · refine jw_icmp_eq_t (tgt := 35) dX12_plainAct_8 (by decide) c4 ?_
    exact l_X12_plainAct_b35  hq
  · refine jw_icmp_eq_f (tgt := 35) dX12_plainAct_8 (by decide) c4 ?_
    refine jw_iload_n dX12_plainAct_11 rfl ?_
    refine jw_bipush dX12_plainAct_12 (v := (98 : Int32)) (by decide) ?_
    rcases jw_if hq with ⟨c5, hq⟩ | ⟨c5, hq⟩
    · refine jw_icmp_eq_t (tgt := 35) dX12_plainAct_14 (by decide) c5 ?_
      exact l_X12_plainAct_b35  hq
    · refine jw_icmp_eq_f (tgt := 35) dX12_plainAct_14 (by decide) c5 ?_
      refine jw_iload_n dX12_plainAct_17 rfl ?_
      refine jw_bipush dX12_plainAct_18 (v := (84 : Int32)) (by decide) ?_
      rcases jw_if hq with ⟨c6, hq⟩ | ⟨c6, hq⟩
      · refine jw_icmp_eq_t (tgt := 35) dX12_plainAct_20 (by decide) c6 ?_
        exact l_X12_plainAct_b35  hq
      · refine jw_icmp_eq_f (tgt := 35) dX12_plainAct_20 (by decide) c6 ?_
        refine jw_iload_n dX12_plainAct_23 rfl ?_
        refine jw_bipush dX12_plainAct_24 (v := (113 : Int32)) (by decide) ?_
        rcases jw_if hq with ⟨c7, hq⟩ | ⟨c7, hq⟩
        · refine jw_icmp_eq_t (tgt := 35) dX12_plainAct_26 (by decide) c7 ?_
          exact l_X12_plainAct_b35  hq
        · refine jw_icmp_eq_f (tgt := 35) dX12_plainAct_26 (by decide) c7 ?_
          refine jw_iload_n dX12_plainAct_29 rfl ?_
          refine jw_bipush dX12_plainAct_30 (v := (78 : Int32)) (by decide) ?_
          rcases jw_if hq with ⟨c8, hq⟩ | ⟨c8, hq⟩
          · refine jw_icmp_ne_f (tgt := 39) dX12_plainAct_32 (by decide) c8 ?_
            exact l_X12_plainAct_b35  hq
          · refine jw_icmp_ne_t (tgt := 39) dX12_plainAct_32 (by decide) c8 ?_
            refine jw_iconst dX12_plainAct_39 (v := (0 : Int32)) (by decide) ?_
            exact l_X12_plainAct_b40  hq

theorem c_X12_plainAct {h : jw_H} {x0 : Nat} {x1 : Int32} {x2 : Int32} {r : Unit} {h' : jw_H} (hq : f_X12_plainAct h x0 x1 x2 = some (r, h')) : jw_Con (Cond.code yX12_plainAct cX12_plainAct 5 none) yX12_plainAct 9 [.ref x0, .int x1, .int x2] h (.inl none) h' :=
  jw_con false (plainFor_of_name (by decide +kernel)) (fun z => nomatch z) (by simp [jw_ent, jw_sl0_nil, jw_sl0_int, jw_sl0_long, jw_sl0_ref, jw_sl0_rf, jw_sl0_scr, List.replicate]) (by simp [jw_sl0_nil, jw_sl0_int, jw_sl0_long, jw_sl0_ref, jw_sl0_rf, jw_sl0_scr]) (l_X12_plainAct hq)


/-! X12_innerOrder -/
noncomputable def g_X12_innerOrder_b25 (h : jw_H) (t0 : Nat) (t1 : Int32) (t2 : Int32) : Option (Unit × jw_H) :=
 (jw_rc h 12 (some t0)).bind fun a1 =>
 jw_b2 (f_X12_plainAct h a1 t1 t2) fun w3 h2 =>
 some ((), h2)

noncomputable def f_X12_innerOrder (h : jw_H) (x0 : Nat) : Option (Unit × jw_H) :=
 (jw_rc h 12 (some x0)).bind fun a1 =>
 jw_b2 (f_X12_where h a1) fun w3 h2 =>
 (jw_gI h2 12 (some x0) 24).bind fun v4 =>
 if 0 ≤ v4 then (some ((), h2))
 else ((jw_gI h2 12 (some x0) 27).bind fun v6 =>
 if v6 ≤ 0 then (g_X12_innerOrder_b25  h2 x0 (1 : Int32) (0 : Int32))
 else (g_X12_innerOrder_b25  h2 x0 (1 : Int32) (1 : Int32)))

set_option maxRecDepth 100000 in
set_option maxHeartbeats 4000000 in
theorem l_X12_innerOrder_b25 {hi : jw_H} {h : jw_H} {t0 : Nat} {t1 : Int32} {t2 : Int32} {r : Unit} {h' : jw_H} (hq : g_X12_innerOrder_b25  h t0 t1 t2 = some (r, h')) : jw_E 10 uX12_innerOrder hi 25 [none] [.int t2, .int t1, .ref t0] h (.inl none) h' := by
  unfold g_X12_innerOrder_b25 at hq
  obtain ⟨a1, ea1, hq⟩ := Option.bind_eq_some_iff.mp hq
  obtain ⟨eoa1, eta1⟩ := jw_rc_spec ea1
  obtain ⟨w3, h2, ew3, hq⟩ := jw_b2_spec hq
  refine jw_callV (As := [.int t1, .int t2]) (S := []) (a := a1) (v := none) dX12_innerOrder_25 mt_X12_plainAct in_X12_plainAct se_X12_plainAct lk_X12_239 (c_X12_plainAct ew3) eta1 (by decide) rfl rfl (by decide) (Nat.le_of_ble_eq_true rfl) (by cases eoa1; rfl) ?_
  cases hq
  exact jw_vret dX12_innerOrder_28 rfl

set_option maxRecDepth 100000 in
set_option maxHeartbeats 4000000 in
theorem l_X12_innerOrder {hi : jw_H} {h : jw_H} {x0 : Nat} {r : Unit} {h' : jw_H} (hq : f_X12_innerOrder  h x0 = some (r, h')) : jw_E 10 uX12_innerOrder hi 0 [some (.ref x0)] [] h (.inl none) h' := by
  unfold f_X12_innerOrder at hq
  refine jw_aload_n dX12_innerOrder_0 (o := (some x0)) rfl ?_
  obtain ⟨a1, ea1, hq⟩ := Option.bind_eq_some_iff.mp hq
  obtain ⟨eoa1, eta1⟩ := jw_rc_spec ea1
  obtain ⟨w3, h2, ew3, hq⟩ := jw_b2_spec hq
  refine jw_callV (As := []) (S := []) (a := a1) (v := none) dX12_innerOrder_1 mt_X12_where in_X12_where se_X12_where lk_X12_236 (c_X12_where ew3) eta1 (by decide) rfl rfl (by decide) (Nat.le_of_ble_eq_true rfl) (by cases eoa1; rfl) ?_
  refine jw_aload_n dX12_innerOrder_4 (o := (some x0)) rfl ?_
  obtain ⟨v4, ev4, hq⟩ := Option.bind_eq_some_iff.mp hq
  refine jw_getI (o := (some x0)) dX12_innerOrder_5 ev4 fl_X12_156 rfl ?_
  rcases jw_if hq with ⟨c5, hq⟩ | ⟨c5, hq⟩
  · refine jw_if_ge_t (tgt := 28) dX12_innerOrder_8 (by decide) c5 ?_
    cases hq
    exact jw_vret dX12_innerOrder_28 rfl
  · refine jw_if_ge_f (tgt := 28) dX12_innerOrder_8 (by decide) c5 ?_
    refine jw_aload_n dX12_innerOrder_11 (o := (some x0)) rfl ?_
    refine jw_iconst dX12_innerOrder_12 (v := (1 : Int32)) (by decide) ?_
    refine jw_aload_n dX12_innerOrder_13 (o := (some x0)) rfl ?_
    obtain ⟨v6, ev6, hq⟩ := Option.bind_eq_some_iff.mp hq
    refine jw_getI (o := (some x0)) dX12_innerOrder_14 ev6 fl_X12_203 rfl ?_
    rcases jw_if hq with ⟨c7, hq⟩ | ⟨c7, hq⟩
    · refine jw_if_le_t (tgt := 24) dX12_innerOrder_17 (by decide) c7 ?_
      refine jw_iconst dX12_innerOrder_24 (v := (0 : Int32)) (by decide) ?_
      refine jw_forget [false] (L' := [none]) rfl ?_
      exact l_X12_innerOrder_b25  hq
    · refine jw_if_le_f (tgt := 24) dX12_innerOrder_17 (by decide) c7 ?_
      refine jw_iconst dX12_innerOrder_20 (v := (1 : Int32)) (by decide) ?_
      refine jw_goto (tgt := 25) dX12_innerOrder_21 (by decide) ?_
      refine jw_forget [false] (L' := [none]) rfl ?_
      exact l_X12_innerOrder_b25  hq

theorem c_X12_innerOrder {h : jw_H} {x0 : Nat} {r : Unit} {h' : jw_H} (hq : f_X12_innerOrder h x0 = some (r, h')) : jw_Con (Cond.code yX12_innerOrder cX12_innerOrder 1 none) yX12_innerOrder 10 [.ref x0] h (.inl none) h' :=
  jw_con false (plainFor_of_name (by decide +kernel)) (fun z => nomatch z) (by simp [jw_ent, jw_sl0_nil, jw_sl0_int, jw_sl0_long, jw_sl0_ref, jw_sl0_rf, jw_sl0_scr, List.replicate]) (by simp [jw_sl0_nil, jw_sl0_int, jw_sl0_long, jw_sl0_ref, jw_sl0_rf, jw_sl0_scr]) (l_X12_innerOrder hq)


/-! X12_block -/
noncomputable def g_X12_block_b43 (h : jw_H) (x0 : Nat) : Option (Unit × jw_H) :=
 (jw_rc h 12 (some x0)).bind fun a1 =>
 jw_b2 (f_X12_take h a1 (125 : Int32)) fun w3 h2 =>
 some ((), h2)

noncomputable def g_X12_block_b10 (k10 : jw_H → Nat → Option (Unit × jw_H)) (h : jw_H) (x0 : Nat) : Option (Unit × jw_H) :=
 (jw_gI h 12 (some x0) 24).bind fun v1 =>
 if 0 ≤ v1 then (g_X12_block_b43  h x0)
 else ((jw_rc h 12 (some x0)).bind fun a3 =>
 jw_b2 (f_X12_c h a3) fun w5 h4 =>
 if w5 = (59 : Int32) then ((jw_gI h4 12 (some x0) 23).bind fun v7 =>
 (jw_pI h4 12 (some x0) 23 (v7 + (1 : Int32))).bind fun h8 =>
 (jw_rc h8 12 (some x0)).bind fun a9 =>
 jw_b2 (f_X12_innerOrder h8 a9) fun w11 h10 =>
 k10 h10 x0)
 else (g_X12_block_b43  h4 x0))

noncomputable def f_X12_block_b10 (n : Nat) : jw_H → Nat → Option (Unit × jw_H) :=
 Nat.rec (fun _ _ => none) (fun _ k10 => g_X12_block_b10 k10) n

noncomputable def f_X12_block (h : jw_H) (x0 : Nat) : Option (Unit × jw_H) :=
 (jw_rc h 12 (some x0)).bind fun a1 =>
 jw_b2 (f_X12_take h a1 (123 : Int32)) fun w3 h2 =>
 (jw_rc h2 12 (some x0)).bind fun a4 =>
 jw_b2 (f_X12_innerOrder h2 a4) fun w6 h5 =>
 f_X12_block_b10  jw_FU h5 x0

set_option maxRecDepth 100000 in
set_option maxHeartbeats 4000000 in
theorem l_X12_block_b43 {hi : jw_H} {h : jw_H} {x0 : Nat} {r : Unit} {h' : jw_H} (hq : g_X12_block_b43  h x0 = some (r, h')) : jw_E 11 uX12_block hi 43 [some (.ref x0)] [] h (.inl none) h' := by
  unfold g_X12_block_b43 at hq
  refine jw_aload_n dX12_block_43 (o := (some x0)) rfl ?_
  refine jw_bipush dX12_block_44 (v := (125 : Int32)) (by decide) ?_
  obtain ⟨a1, ea1, hq⟩ := Option.bind_eq_some_iff.mp hq
  obtain ⟨eoa1, eta1⟩ := jw_rc_spec ea1
  obtain ⟨w3, h2, ew3, hq⟩ := jw_b2_spec hq
  refine jw_callV (As := [.int (125 : Int32)]) (S := []) (a := a1) (v := none) dX12_block_46 mt_X12_take in_X12_take se_X12_take lk_X12_176 (c_X12_take ew3) eta1 (by decide) rfl rfl (by decide) (Nat.le_of_ble_eq_true rfl) (by cases eoa1; rfl) ?_
  cases hq
  exact jw_vret dX12_block_49 rfl

set_option maxRecDepth 100000 in
set_option maxHeartbeats 4000000 in
theorem l_X12_block_b10g {hi : jw_H} {k10 : jw_H → Nat → Option (Unit × jw_H)} (hk10 : ∀ (h : jw_H) (x0 : Nat) (r : Unit) (h' : jw_H), k10 h x0 = some (r, h') → jw_E 11 uX12_block hi 10 [some (.ref x0)] [] h (.inl none) h') {h : jw_H} {x0 : Nat} {r : Unit} {h' : jw_H} (hq : g_X12_block_b10 k10 h x0 = some (r, h')) : jw_E 11 uX12_block hi 10 [some (.ref x0)] [] h (.inl none) h' := by
  unfold g_X12_block_b10 at hq
  refine jw_aload_n dX12_block_10 (o := (some x0)) rfl ?_
  obtain ⟨v1, ev1, hq⟩ := Option.bind_eq_some_iff.mp hq
  refine jw_getI (o := (some x0)) dX12_block_11 ev1 fl_X12_156 rfl ?_
  rcases jw_if hq with ⟨c2, hq⟩ | ⟨c2, hq⟩
  · refine jw_if_ge_t (tgt := 43) dX12_block_14 (by decide) c2 ?_
    exact l_X12_block_b43  hq
  · refine jw_if_ge_f (tgt := 43) dX12_block_14 (by decide) c2 ?_
    refine jw_aload_n dX12_block_17 (o := (some x0)) rfl ?_
    obtain ⟨a3, ea3, hq⟩ := Option.bind_eq_some_iff.mp hq
    obtain ⟨eoa3, eta3⟩ := jw_rc_spec ea3
    obtain ⟨w5, h4, ew5, hq⟩ := jw_b2_spec hq
    refine jw_callV (As := []) (S := []) (a := a3) (v := some (.int w5)) dX12_block_18 mt_X12_c in_X12_c se_X12_c lk_X12_162 (c_X12_c ew5) eta3 (by decide) rfl rfl (by decide) (Nat.le_of_ble_eq_true rfl) (by cases eoa3; rfl) ?_
    refine jw_bipush dX12_block_21 (v := (59 : Int32)) (by decide) ?_
    rcases jw_if hq with ⟨c6, hq⟩ | ⟨c6, hq⟩
    · refine jw_icmp_ne_f (tgt := 43) dX12_block_23 (by decide) c6 ?_
      refine jw_aload_n dX12_block_26 (o := (some x0)) rfl ?_
      refine jw_dup dX12_block_27 rfl ?_
      obtain ⟨v7, ev7, hq⟩ := Option.bind_eq_some_iff.mp hq
      refine jw_getI (o := (some x0)) dX12_block_28 ev7 fl_X12_149 rfl ?_
      refine jw_iconst dX12_block_31 (v := (1 : Int32)) (by decide) ?_
      refine jw_iadd dX12_block_32 ?_
      obtain ⟨h8, eh8, hq⟩ := Option.bind_eq_some_iff.mp hq
      refine jw_putI (o := (some x0)) dX12_block_33 eh8 fl_X12_149 rfl rfl ?_
      refine jw_aload_n dX12_block_36 (o := (some x0)) rfl ?_
      obtain ⟨a9, ea9, hq⟩ := Option.bind_eq_some_iff.mp hq
      obtain ⟨eoa9, eta9⟩ := jw_rc_spec ea9
      obtain ⟨w11, h10, ew11, hq⟩ := jw_b2_spec hq
      refine jw_callV (As := []) (S := []) (a := a9) (v := none) dX12_block_37 mt_X12_innerOrder in_X12_innerOrder se_X12_innerOrder lk_X12_243 (c_X12_innerOrder ew11) eta9 (by decide) rfl rfl (by decide) (Nat.le_of_ble_eq_true rfl) (by cases eoa9; rfl) ?_
      refine jw_goto (tgt := 10) dX12_block_40 (by decide) ?_
      exact hk10 _ _ _ _ hq
    · refine jw_icmp_ne_t (tgt := 43) dX12_block_23 (by decide) c6 ?_
      exact l_X12_block_b43  hq

theorem l_X12_block_b10 {hi : jw_H} : ∀ (n : Nat) (h : jw_H) (x0 : Nat) (r : Unit) (h' : jw_H), f_X12_block_b10  n h x0 = some (r, h') → jw_E 11 uX12_block hi 10 [some (.ref x0)] [] h (.inl none) h' := by
  intro n
  induction n with
  | zero => intro h x0 r h' hq; exact nomatch hq
  | succ n ih => intro h x0 r h' hq; exact l_X12_block_b10g ih hq

set_option maxRecDepth 100000 in
set_option maxHeartbeats 4000000 in
theorem l_X12_block {hi : jw_H} {h : jw_H} {x0 : Nat} {r : Unit} {h' : jw_H} (hq : f_X12_block  h x0 = some (r, h')) : jw_E 11 uX12_block hi 0 [some (.ref x0)] [] h (.inl none) h' := by
  unfold f_X12_block at hq
  refine jw_aload_n dX12_block_0 (o := (some x0)) rfl ?_
  refine jw_bipush dX12_block_1 (v := (123 : Int32)) (by decide) ?_
  obtain ⟨a1, ea1, hq⟩ := Option.bind_eq_some_iff.mp hq
  obtain ⟨eoa1, eta1⟩ := jw_rc_spec ea1
  obtain ⟨w3, h2, ew3, hq⟩ := jw_b2_spec hq
  refine jw_callV (As := [.int (123 : Int32)]) (S := []) (a := a1) (v := none) dX12_block_3 mt_X12_take in_X12_take se_X12_take lk_X12_176 (c_X12_take ew3) eta1 (by decide) rfl rfl (by decide) (Nat.le_of_ble_eq_true rfl) (by cases eoa1; rfl) ?_
  refine jw_aload_n dX12_block_6 (o := (some x0)) rfl ?_
  obtain ⟨a4, ea4, hq⟩ := Option.bind_eq_some_iff.mp hq
  obtain ⟨eoa4, eta4⟩ := jw_rc_spec ea4
  obtain ⟨w6, h5, ew6, hq⟩ := jw_b2_spec hq
  refine jw_callV (As := []) (S := []) (a := a4) (v := none) dX12_block_7 mt_X12_innerOrder in_X12_innerOrder se_X12_innerOrder lk_X12_243 (c_X12_innerOrder ew6) eta4 (by decide) rfl rfl (by decide) (Nat.le_of_ble_eq_true rfl) (by cases eoa4; rfl) ?_
  exact l_X12_block_b10  jw_FU _ _ _ _ hq

theorem c_X12_block {h : jw_H} {x0 : Nat} {r : Unit} {h' : jw_H} (hq : f_X12_block h x0 = some (r, h')) : jw_Con (Cond.code yX12_block cX12_block 1 none) yX12_block 11 [.ref x0] h (.inl none) h' :=
  jw_con false (plainFor_of_name (by decide +kernel)) (fun z => nomatch z) (by simp [jw_ent, jw_sl0_nil, jw_sl0_int, jw_sl0_long, jw_sl0_ref, jw_sl0_rf, jw_sl0_scr, List.replicate]) (by simp [jw_sl0_nil, jw_sl0_int, jw_sl0_long, jw_sl0_ref, jw_sl0_rf, jw_sl0_scr]) (l_X12_block hq)


/-! X12_order -/
noncomputable def g_X12_order_b148 (h : jw_H) (x0 : Nat) (x1 : Int32) (x2 : Int32) : Option (Unit × jw_H) :=
 (jw_pI h 12 (some x0) 27 x1).bind fun h1 =>
 (jw_pI h1 12 (some x0) 30 x2).bind fun h2 =>
 some ((), h2)

noncomputable def g_X12_order_b113 (h : jw_H) (x0 : Nat) (x1 : Int32) (x2 : Int32) : Option (Unit × jw_H) :=
 (jw_gI h 12 (some x0) 24).bind fun v1 =>
 if 0 ≤ v1 then (g_X12_order_b148  h x0 x1 x2)
 else ((jw_rc h 12 (some x0)).bind fun a3 =>
 jw_b2 (f_X12_innerOrder h a3) fun w5 h4 =>
 g_X12_order_b148  h4 x0 x1 x2)

noncomputable def g_X12_order_b62 (h : jw_H) (x0 : Nat) (x1 : Int32) (x2 : Int32) : Option (Unit × jw_H) :=
 (jw_gI h 12 (some x0) 23).bind fun v1 =>
 (jw_pI h 12 (some x0) 23 (v1 + (1 : Int32))).bind fun h2 =>
 (jw_rc h2 12 (some x0)).bind fun a3 =>
 jw_b2 (f_X12_take h2 a3 (47 : Int32)) fun w5 h4 =>
 (jw_rc h4 12 (some x0)).bind fun a6 =>
 jw_b2 (f_X12_pattern h4 a6 (47 : Int32)) fun w8 h7 =>
 (jw_rc h7 12 (some x0)).bind fun a9 =>
 jw_b2 (f_X12_take h7 a9 (47 : Int32)) fun w11 h10 =>
 (jw_gI h10 12 (some x0) 24).bind fun v12 =>
 if 0 ≤ v12 then (g_X12_order_b113  h10 x0 x1 x2)
 else ((jw_rc h10 12 (some x0)).bind fun a14 =>
 jw_b2 (f_X12_c h10 a14) fun w16 h15 =>
 if w16 = (123 : Int32) then ((jw_rc h15 12 (some x0)).bind fun a18 =>
 jw_b2 (f_X12_block h15 a18) fun w20 h19 =>
 g_X12_order_b148  h19 x0 x1 x2)
 else (g_X12_order_b113  h15 x0 x1 x2))

noncomputable def g_X12_order_b145 (h : jw_H) (x0 : Nat) (x1 : Int32) (x2 : Int32) (t0 : Nat) (t1 : Int32) (t2 : Int32) : Option (Unit × jw_H) :=
 (jw_rc h 12 (some t0)).bind fun a1 =>
 jw_b2 (f_X12_plainAct h a1 t1 t2) fun w3 h2 =>
 g_X12_order_b148  h2 x0 x1 x2

noncomputable def g_X12_order_b127 (h : jw_H) (x0 : Nat) (x1 : Int32) (x2 : Int32) : Option (Unit × jw_H) :=
 (jw_gI h 12 (some x0) 24).bind fun v1 =>
 if 0 ≤ v1 then (g_X12_order_b148  h x0 x1 x2)
 else (if x1 ≤ 0 then (g_X12_order_b145  h x0 x1 x2 x0 (0 : Int32) (0 : Int32))
 else (g_X12_order_b145  h x0 x1 x2 x0 (0 : Int32) (1 : Int32)))

noncomputable def g_X12_order_b37 (h : jw_H) (x0 : Nat) (x1 : Int32) (x2 : Int32) : Option (Unit × jw_H) :=
 (jw_gI h 12 (some x0) 24).bind fun v1 =>
 if 0 ≤ v1 then (g_X12_order_b127  h x0 x1 x2)
 else ((jw_rc h 12 (some x0)).bind fun a3 =>
 jw_b2 (f_X12_c h a3) fun w5 h4 =>
 if w5 = (103 : Int32) then (g_X12_order_b62  h4 x0 x1 x2)
 else ((jw_rc h4 12 (some x0)).bind fun a7 =>
 jw_b2 (f_X12_c h4 a7) fun w9 h8 =>
 if w9 = (71 : Int32) then (g_X12_order_b62  h8 x0 x1 x2)
 else (g_X12_order_b127  h8 x0 x1 x2)))

noncomputable def f_X12_order (h : jw_H) (x0 : Nat) : Option (Unit × jw_H) :=
 (jw_rc h 12 (some x0)).bind fun a1 =>
 jw_b2 (f_X12_where h a1) fun w3 h2 =>
 (jw_gI h2 12 (some x0) 27).bind fun v4 =>
 (jw_gI h2 12 (some x0) 30).bind fun v5 =>
 (jw_gI h2 12 (some x0) 24).bind fun v6 =>
 if 0 ≤ v6 then (g_X12_order_b37  h2 x0 v4 v5)
 else ((jw_rc h2 12 (some x0)).bind fun a8 =>
 jw_b2 (f_X12_c h2 a8) fun w10 h9 =>
 if w10 = (123 : Int32) then ((jw_rc h9 12 (some x0)).bind fun a12 =>
 jw_b2 (f_X12_block h9 a12) fun w14 h13 =>
 g_X12_order_b148  h13 x0 v4 v5)
 else (g_X12_order_b37  h9 x0 v4 v5))

set_option maxRecDepth 100000 in
set_option maxHeartbeats 4000000 in
theorem l_X12_order_b148 {hi : jw_H} {h : jw_H} {x0 : Nat} {x1 : Int32} {x2 : Int32} {r : Unit} {h' : jw_H} (hq : g_X12_order_b148  h x0 x1 x2 = some (r, h')) : jw_E 12 uX12_order hi 148 [some (.ref x0), some (.int x1), some (.int x2)] [] h (.inl none) h' := by
  unfold g_X12_order_b148 at hq
  refine jw_aload_n dX12_order_148 (o := (some x0)) rfl ?_
  refine jw_iload_n dX12_order_149 rfl ?_
  obtain ⟨h1, eh1, hq⟩ := Option.bind_eq_some_iff.mp hq
  refine jw_putI (o := (some x0)) dX12_order_150 eh1 fl_X12_203 rfl rfl ?_
  refine jw_aload_n dX12_order_153 (o := (some x0)) rfl ?_
  refine jw_iload_n dX12_order_154 rfl ?_
  obtain ⟨h2, eh2, hq⟩ := Option.bind_eq_some_iff.mp hq
  refine jw_putI (o := (some x0)) dX12_order_155 eh2 fl_X12_218 rfl rfl ?_
  cases hq
  exact jw_vret dX12_order_158 rfl

set_option maxRecDepth 100000 in
set_option maxHeartbeats 4000000 in
theorem l_X12_order_b113 {hi : jw_H} {h : jw_H} {x0 : Nat} {x1 : Int32} {x2 : Int32} {r : Unit} {h' : jw_H} (hq : g_X12_order_b113  h x0 x1 x2 = some (r, h')) : jw_E 12 uX12_order hi 113 [some (.ref x0), some (.int x1), some (.int x2)] [] h (.inl none) h' := by
  unfold g_X12_order_b113 at hq
  refine jw_aload_n dX12_order_113 (o := (some x0)) rfl ?_
  obtain ⟨v1, ev1, hq⟩ := Option.bind_eq_some_iff.mp hq
  refine jw_getI (o := (some x0)) dX12_order_114 ev1 fl_X12_156 rfl ?_
  rcases jw_if hq with ⟨c2, hq⟩ | ⟨c2, hq⟩
  · refine jw_if_ge_t (tgt := 148) dX12_order_117 (by decide) c2 ?_
    exact l_X12_order_b148  hq
  · refine jw_if_ge_f (tgt := 148) dX12_order_117 (by decide) c2 ?_
    refine jw_aload_n dX12_order_120 (o := (some x0)) rfl ?_
    obtain ⟨a3, ea3, hq⟩ := Option.bind_eq_some_iff.mp hq
    obtain ⟨eoa3, eta3⟩ := jw_rc_spec ea3
    obtain ⟨w5, h4, ew5, hq⟩ := jw_b2_spec hq
    refine jw_callV (As := []) (S := []) (a := a3) (v := none) dX12_order_121 mt_X12_innerOrder in_X12_innerOrder se_X12_innerOrder lk_X12_243 (c_X12_innerOrder ew5) eta3 (by decide) rfl rfl (by decide) (Nat.le_of_ble_eq_true rfl) (by cases eoa3; rfl) ?_
    refine jw_goto (tgt := 148) dX12_order_124 (by decide) ?_
    exact l_X12_order_b148  hq

set_option maxRecDepth 100000 in
set_option maxHeartbeats 4000000 in
theorem l_X12_order_b62 {hi : jw_H} {h : jw_H} {x0 : Nat} {x1 : Int32} {x2 : Int32} {r : Unit} {h' : jw_H} (hq : g_X12_order_b62  h x0 x1 x2 = some (r, h')) : jw_E 12 uX12_order hi 62 [some (.ref x0), some (.int x1), some (.int x2)] [] h (.inl none) h' := by
  unfold g_X12_order_b62 at hq
  refine jw_aload_n dX12_order_62 (o := (some x0)) rfl ?_
  refine jw_dup dX12_order_63 rfl ?_
  obtain ⟨v1, ev1, hq⟩ := Option.bind_eq_some_iff.mp hq
  refine jw_getI (o := (some x0)) dX12_order_64 ev1 fl_X12_149 rfl ?_
  refine jw_iconst dX12_order_67 (v := (1 : Int32)) (by decide) ?_
  refine jw_iadd dX12_order_68 ?_
  obtain ⟨h2, eh2, hq⟩ := Option.bind_eq_some_iff.mp hq
  refine jw_putI (o := (some x0)) dX12_order_69 eh2 fl_X12_149 rfl rfl ?_
  refine jw_aload_n dX12_order_72 (o := (some x0)) rfl ?_
  refine jw_bipush dX12_order_73 (v := (47 : Int32)) (by decide) ?_
  obtain ⟨a3, ea3, hq⟩ := Option.bind_eq_some_iff.mp hq
  obtain ⟨eoa3, eta3⟩ := jw_rc_spec ea3
  obtain ⟨w5, h4, ew5, hq⟩ := jw_b2_spec hq
  refine jw_callV (As := [.int (47 : Int32)]) (S := []) (a := a3) (v := none) dX12_order_75 mt_X12_take in_X12_take se_X12_take lk_X12_176 (c_X12_take ew5) eta3 (by decide) rfl rfl (by decide) (Nat.le_of_ble_eq_true rfl) (by cases eoa3; rfl) ?_
  refine jw_aload_n dX12_order_78 (o := (some x0)) rfl ?_
  refine jw_bipush dX12_order_79 (v := (47 : Int32)) (by decide) ?_
  obtain ⟨a6, ea6, hq⟩ := Option.bind_eq_some_iff.mp hq
  obtain ⟨eoa6, eta6⟩ := jw_rc_spec ea6
  obtain ⟨w8, h7, ew8, hq⟩ := jw_b2_spec hq
  refine jw_callV (As := [.int (47 : Int32)]) (S := []) (a := a6) (v := none) dX12_order_81 mt_X12_pattern in_X12_pattern se_X12_pattern lk_X12_197 (c_X12_pattern ew8) eta6 (by decide) rfl rfl (by decide) (Nat.le_of_ble_eq_true rfl) (by cases eoa6; rfl) ?_
  refine jw_aload_n dX12_order_84 (o := (some x0)) rfl ?_
  refine jw_bipush dX12_order_85 (v := (47 : Int32)) (by decide) ?_
  obtain ⟨a9, ea9, hq⟩ := Option.bind_eq_some_iff.mp hq
  obtain ⟨eoa9, eta9⟩ := jw_rc_spec ea9
  obtain ⟨w11, h10, ew11, hq⟩ := jw_b2_spec hq
  refine jw_callV (As := [.int (47 : Int32)]) (S := []) (a := a9) (v := none) dX12_order_87 mt_X12_take in_X12_take se_X12_take lk_X12_176 (c_X12_take ew11) eta9 (by decide) rfl rfl (by decide) (Nat.le_of_ble_eq_true rfl) (by cases eoa9; rfl) ?_
  refine jw_aload_n dX12_order_90 (o := (some x0)) rfl ?_
  obtain ⟨v12, ev12, hq⟩ := Option.bind_eq_some_iff.mp hq
  refine jw_getI (o := (some x0)) dX12_order_91 ev12 fl_X12_156 rfl ?_
  rcases jw_if hq with ⟨c13, hq⟩ | ⟨c13, hq⟩
  · refine jw_if_ge_t (tgt := 113) dX12_order_94 (by decide) c13 ?_
    exact l_X12_order_b113  hq
  · refine jw_if_ge_f (tgt := 113) dX12_order_94 (by decide) c13 ?_
    refine jw_aload_n dX12_order_97 (o := (some x0)) rfl ?_
    obtain ⟨a14, ea14, hq⟩ := Option.bind_eq_some_iff.mp hq
    obtain ⟨eoa14, eta14⟩ := jw_rc_spec ea14
    obtain ⟨w16, h15, ew16, hq⟩ := jw_b2_spec hq
    refine jw_callV (As := []) (S := []) (a := a14) (v := some (.int w16)) dX12_order_98 mt_X12_c in_X12_c se_X12_c lk_X12_162 (c_X12_c ew16) eta14 (by decide) rfl rfl (by decide) (Nat.le_of_ble_eq_true rfl) (by cases eoa14; rfl) ?_
    refine jw_bipush dX12_order_101 (v := (123 : Int32)) (by decide) ?_
    rcases jw_if hq with ⟨c17, hq⟩ | ⟨c17, hq⟩
    · refine jw_icmp_ne_f (tgt := 113) dX12_order_103 (by decide) c17 ?_
      refine jw_aload_n dX12_order_106 (o := (some x0)) rfl ?_
      obtain ⟨a18, ea18, hq⟩ := Option.bind_eq_some_iff.mp hq
      obtain ⟨eoa18, eta18⟩ := jw_rc_spec ea18
      obtain ⟨w20, h19, ew20, hq⟩ := jw_b2_spec hq
      refine jw_callV (As := []) (S := []) (a := a18) (v := none) dX12_order_107 mt_X12_block in_X12_block se_X12_block lk_X12_246 (c_X12_block ew20) eta18 (by decide) rfl rfl (by decide) (Nat.le_of_ble_eq_true rfl) (by cases eoa18; rfl) ?_
      refine jw_goto (tgt := 148) dX12_order_110 (by decide) ?_
      exact l_X12_order_b148  hq
    · refine jw_icmp_ne_t (tgt := 113) dX12_order_103 (by decide) c17 ?_
      exact l_X12_order_b113  hq

set_option maxRecDepth 100000 in
set_option maxHeartbeats 4000000 in
theorem l_X12_order_b145 {hi : jw_H} {h : jw_H} {x0 : Nat} {x1 : Int32} {x2 : Int32} {t0 : Nat} {t1 : Int32} {t2 : Int32} {r : Unit} {h' : jw_H} (hq : g_X12_order_b145  h x0 x1 x2 t0 t1 t2 = some (r, h')) : jw_E 12 uX12_order hi 145 [some (.ref x0), some (.int x1), some (.int x2)] [.int t2, .int t1, .ref t0] h (.inl none) h' := by
  unfold g_X12_order_b145 at hq
  obtain ⟨a1, ea1, hq⟩ := Option.bind_eq_some_iff.mp hq
  obtain ⟨eoa1, eta1⟩ := jw_rc_spec ea1
  obtain ⟨w3, h2, ew3, hq⟩ := jw_b2_spec hq
  refine jw_callV (As := [.int t1, .int t2]) (S := []) (a := a1) (v := none) dX12_order_145 mt_X12_plainAct in_X12_plainAct se_X12_plainAct lk_X12_239 (c_X12_plainAct ew3) eta1 (by decide) rfl rfl (by decide) (Nat.le_of_ble_eq_true rfl) (by cases eoa1; rfl) ?_
  exact l_X12_order_b148  hq

set_option maxRecDepth 100000 in
set_option maxHeartbeats 4000000 in
theorem l_X12_order_b127 {hi : jw_H} {h : jw_H} {x0 : Nat} {x1 : Int32} {x2 : Int32} {r : Unit} {h' : jw_H} (hq : g_X12_order_b127  h x0 x1 x2 = some (r, h')) : jw_E 12 uX12_order hi 127 [some (.ref x0), some (.int x1), some (.int x2)] [] h (.inl none) h' := by
  unfold g_X12_order_b127 at hq
  refine jw_aload_n dX12_order_127 (o := (some x0)) rfl ?_
  obtain ⟨v1, ev1, hq⟩ := Option.bind_eq_some_iff.mp hq
  refine jw_getI (o := (some x0)) dX12_order_128 ev1 fl_X12_156 rfl ?_
  rcases jw_if hq with ⟨c2, hq⟩ | ⟨c2, hq⟩
  · refine jw_if_ge_t (tgt := 148) dX12_order_131 (by decide) c2 ?_
    exact l_X12_order_b148  hq
  · refine jw_if_ge_f (tgt := 148) dX12_order_131 (by decide) c2 ?_
    refine jw_aload_n dX12_order_134 (o := (some x0)) rfl ?_
    refine jw_iconst dX12_order_135 (v := (0 : Int32)) (by decide) ?_
    refine jw_iload_n dX12_order_136 rfl ?_
    rcases jw_if hq with ⟨c3, hq⟩ | ⟨c3, hq⟩
    · refine jw_if_le_t (tgt := 144) dX12_order_137 (by decide) c3 ?_
      refine jw_iconst dX12_order_144 (v := (0 : Int32)) (by decide) ?_
      exact l_X12_order_b145  hq
    · refine jw_if_le_f (tgt := 144) dX12_order_137 (by decide) c3 ?_
      refine jw_iconst dX12_order_140 (v := (1 : Int32)) (by decide) ?_
      refine jw_goto (tgt := 145) dX12_order_141 (by decide) ?_
      exact l_X12_order_b145  hq

set_option maxRecDepth 100000 in
set_option maxHeartbeats 4000000 in
theorem l_X12_order_b37 {hi : jw_H} {h : jw_H} {x0 : Nat} {x1 : Int32} {x2 : Int32} {r : Unit} {h' : jw_H} (hq : g_X12_order_b37  h x0 x1 x2 = some (r, h')) : jw_E 12 uX12_order hi 37 [some (.ref x0), some (.int x1), some (.int x2)] [] h (.inl none) h' := by
  unfold g_X12_order_b37 at hq
  refine jw_aload_n dX12_order_37 (o := (some x0)) rfl ?_
  obtain ⟨v1, ev1, hq⟩ := Option.bind_eq_some_iff.mp hq
  refine jw_getI (o := (some x0)) dX12_order_38 ev1 fl_X12_156 rfl ?_
  rcases jw_if hq with ⟨c2, hq⟩ | ⟨c2, hq⟩
  · refine jw_if_ge_t (tgt := 127) dX12_order_41 (by decide) c2 ?_
    exact l_X12_order_b127  hq
  · refine jw_if_ge_f (tgt := 127) dX12_order_41 (by decide) c2 ?_
    refine jw_aload_n dX12_order_44 (o := (some x0)) rfl ?_
    obtain ⟨a3, ea3, hq⟩ := Option.bind_eq_some_iff.mp hq
    obtain ⟨eoa3, eta3⟩ := jw_rc_spec ea3
    obtain ⟨w5, h4, ew5, hq⟩ := jw_b2_spec hq
    refine jw_callV (As := []) (S := []) (a := a3) (v := some (.int w5)) dX12_order_45 mt_X12_c in_X12_c se_X12_c lk_X12_162 (c_X12_c ew5) eta3 (by decide) rfl rfl (by decide) (Nat.le_of_ble_eq_true rfl) (by cases eoa3; rfl) ?_
    refine jw_bipush dX12_order_48 (v := (103 : Int32)) (by decide) ?_
    rcases jw_if hq with ⟨c6, hq⟩ | ⟨c6, hq⟩
    · refine jw_icmp_eq_t (tgt := 62) dX12_order_50 (by decide) c6 ?_
      exact l_X12_order_b62  hq
    · refine jw_icmp_eq_f (tgt := 62) dX12_order_50 (by decide) c6 ?_
      refine jw_aload_n dX12_order_53 (o := (some x0)) rfl ?_
      obtain ⟨a7, ea7, hq⟩ := Option.bind_eq_some_iff.mp hq
      obtain ⟨eoa7, eta7⟩ := jw_rc_spec ea7
      obtain ⟨w9, h8, ew9, hq⟩ := jw_b2_spec hq
      refine jw_callV (As := []) (S := []) (a := a7) (v := some (.int w9)) dX12_order_54 mt_X12_c in_X12_c se_X12_c lk_X12_162 (c_X12_c ew9) eta7 (by decide) rfl rfl (by decide) (Nat.le_of_ble_eq_true rfl) (by cases eoa7; rfl) ?_
      refine jw_bipush dX12_order_57 (v := (71 : Int32)) (by decide) ?_
      rcases jw_if hq with ⟨c10, hq⟩ | ⟨c10, hq⟩
      · refine jw_icmp_ne_f (tgt := 127) dX12_order_59 (by decide) c10 ?_
        exact l_X12_order_b62  hq
      · refine jw_icmp_ne_t (tgt := 127) dX12_order_59 (by decide) c10 ?_
        exact l_X12_order_b127  hq

set_option maxRecDepth 100000 in
set_option maxHeartbeats 4000000 in
theorem l_X12_order {hi : jw_H} {h : jw_H} {x0 : Nat} {r : Unit} {h' : jw_H} (hq : f_X12_order  h x0 = some (r, h')) : jw_E 12 uX12_order hi 0 [some (.ref x0), none, none] [] h (.inl none) h' := by
  unfold f_X12_order at hq
  refine jw_aload_n dX12_order_0 (o := (some x0)) rfl ?_
  obtain ⟨a1, ea1, hq⟩ := Option.bind_eq_some_iff.mp hq
  obtain ⟨eoa1, eta1⟩ := jw_rc_spec ea1
  obtain ⟨w3, h2, ew3, hq⟩ := jw_b2_spec hq
  refine jw_callV (As := []) (S := []) (a := a1) (v := none) dX12_order_1 mt_X12_where in_X12_where se_X12_where lk_X12_236 (c_X12_where ew3) eta1 (by decide) rfl rfl (by decide) (Nat.le_of_ble_eq_true rfl) (by cases eoa1; rfl) ?_
  refine jw_aload_n dX12_order_4 (o := (some x0)) rfl ?_
  obtain ⟨v4, ev4, hq⟩ := Option.bind_eq_some_iff.mp hq
  refine jw_getI (o := (some x0)) dX12_order_5 ev4 fl_X12_203 rfl ?_
  refine jw_istore_n (L' := [some (.ref x0), some (.int v4), none]) dX12_order_8 (Nat.le_of_ble_eq_true rfl) rfl ?_
  refine jw_aload_n dX12_order_9 (o := (some x0)) rfl ?_
  obtain ⟨v5, ev5, hq⟩ := Option.bind_eq_some_iff.mp hq
  refine jw_getI (o := (some x0)) dX12_order_10 ev5 fl_X12_218 rfl ?_
  refine jw_istore_n (L' := [some (.ref x0), some (.int v4), some (.int v5)]) dX12_order_13 (Nat.le_of_ble_eq_true rfl) rfl ?_
  refine jw_aload_n dX12_order_14 (o := (some x0)) rfl ?_
  obtain ⟨v6, ev6, hq⟩ := Option.bind_eq_some_iff.mp hq
  refine jw_getI (o := (some x0)) dX12_order_15 ev6 fl_X12_156 rfl ?_
  rcases jw_if hq with ⟨c7, hq⟩ | ⟨c7, hq⟩
  · refine jw_if_ge_t (tgt := 37) dX12_order_18 (by decide) c7 ?_
    exact l_X12_order_b37  hq
  · refine jw_if_ge_f (tgt := 37) dX12_order_18 (by decide) c7 ?_
    refine jw_aload_n dX12_order_21 (o := (some x0)) rfl ?_
    obtain ⟨a8, ea8, hq⟩ := Option.bind_eq_some_iff.mp hq
    obtain ⟨eoa8, eta8⟩ := jw_rc_spec ea8
    obtain ⟨w10, h9, ew10, hq⟩ := jw_b2_spec hq
    refine jw_callV (As := []) (S := []) (a := a8) (v := some (.int w10)) dX12_order_22 mt_X12_c in_X12_c se_X12_c lk_X12_162 (c_X12_c ew10) eta8 (by decide) rfl rfl (by decide) (Nat.le_of_ble_eq_true rfl) (by cases eoa8; rfl) ?_
    refine jw_bipush dX12_order_25 (v := (123 : Int32)) (by decide) ?_
    rcases jw_if hq with ⟨c11, hq⟩ | ⟨c11, hq⟩
    · refine jw_icmp_ne_f (tgt := 37) dX12_order_27 (by decide) c11 ?_
      refine jw_aload_n dX12_order_30 (o := (some x0)) rfl ?_
      obtain ⟨a12, ea12, hq⟩ := Option.bind_eq_some_iff.mp hq
      obtain ⟨eoa12, eta12⟩ := jw_rc_spec ea12
      obtain ⟨w14, h13, ew14, hq⟩ := jw_b2_spec hq
      refine jw_callV (As := []) (S := []) (a := a12) (v := none) dX12_order_31 mt_X12_block in_X12_block se_X12_block lk_X12_246 (c_X12_block ew14) eta12 (by decide) rfl rfl (by decide) (Nat.le_of_ble_eq_true rfl) (by cases eoa12; rfl) ?_
      refine jw_goto (tgt := 148) dX12_order_34 (by decide) ?_
      exact l_X12_order_b148  hq
    · refine jw_icmp_ne_t (tgt := 37) dX12_order_27 (by decide) c11 ?_
      exact l_X12_order_b37  hq

theorem c_X12_order {h : jw_H} {x0 : Nat} {r : Unit} {h' : jw_H} (hq : f_X12_order h x0 = some (r, h')) : jw_Con (Cond.code yX12_order cX12_order 3 none) yX12_order 12 [.ref x0] h (.inl none) h' :=
  jw_con false (plainFor_of_name (by decide +kernel)) (fun z => nomatch z) (by simp [jw_ent, jw_sl0_nil, jw_sl0_int, jw_sl0_long, jw_sl0_ref, jw_sl0_rf, jw_sl0_scr, List.replicate]) (by simp [jw_sl0_nil, jw_sl0_int, jw_sl0_long, jw_sl0_ref, jw_sl0_rf, jw_sl0_scr]) (l_X12_order hq)

