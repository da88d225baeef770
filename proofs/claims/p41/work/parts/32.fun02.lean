/-! X8_file -/
noncomputable def g_X8_file_b23 (h : jw_H) (t0 : Option Nat) : Option ((Option Nat) × jw_H) :=
 some (t0, h)

noncomputable def g_X8_file_b22 (h : jw_H)  : Option ((Option Nat) × jw_H) :=
 g_X8_file_b23  h none

noncomputable def f_X8_file (h : jw_H) (x0 : Nat) (x1 : Int32) : Option ((Option Nat) × jw_H) :=
 if x1 < 0 then (g_X8_file_b22  h )
 else ((jw_gR h 8 (some x0) 2).bind fun v2 =>
 (jw_ln h v2).bind fun v3 =>
 if v3 ≤ x1 then (g_X8_file_b22  h )
 else ((jw_gR h 8 (some x0) 2).bind fun v5 =>
 (jw_ar h 37 v5 x1).bind fun v6 =>
 g_X8_file_b23  h v6))

set_option maxRecDepth 100000 in
set_option maxHeartbeats 4000000 in
theorem l_X8_file_b23 {hi : jw_H} {h : jw_H} {t0 : Option Nat} {r : Option Nat} {h' : jw_H} (hq : g_X8_file_b23  h t0 = some (r, h')) : jw_E 0 uX8_file hi 23 [none, none] [va_rf t0] h (.inl (some (va_rf r))) h' := by
  unfold g_X8_file_b23 at hq
  cases hq
  exact jw_aret (x := t0) dX8_file_23 rfl rfl

set_option maxRecDepth 100000 in
set_option maxHeartbeats 4000000 in
theorem l_X8_file_b22 {hi : jw_H} {h : jw_H}  {r : Option Nat} {h' : jw_H} (hq : g_X8_file_b22  h  = some (r, h')) : jw_E 0 uX8_file hi 22 [none, none] [] h (.inl (some (va_rf r))) h' := by
  unfold g_X8_file_b22 at hq
  refine jw_null dX8_file_22 ?_
  exact l_X8_file_b23  hq

set_option maxRecDepth 100000 in
set_option maxHeartbeats 4000000 in
theorem l_X8_file {hi : jw_H} {h : jw_H} {x0 : Nat} {x1 : Int32} {r : Option Nat} {h' : jw_H} (hq : f_X8_file  h x0 x1 = some (r, h')) : jw_E 0 uX8_file hi 0 [some (.ref x0), some (.int x1)] [] h (.inl (some (va_rf r))) h' := by
  unfold f_X8_file at hq
  refine jw_iload_n dX8_file_0 rfl ?_
  rcases jw_if hq with ⟨c1, hq⟩ | ⟨c1, hq⟩
  · refine jw_if_lt_t (tgt := 22) dX8_file_1 (by decide) c1 ?_
    refine jw_forget [false, false] (L' := [none, none]) rfl ?_
    exact l_X8_file_b22  hq
  · refine jw_if_lt_f (tgt := 22) dX8_file_1 (by decide) c1 ?_
    refine jw_iload_n dX8_file_4 rfl ?_
    refine jw_aload_n dX8_file_5 (o := (some x0)) rfl ?_
    obtain ⟨v2, ev2, hq⟩ := Option.bind_eq_some_iff.mp hq
    refine jw_getR (o := (some x0)) dX8_file_6 ev2 fl_X8_23 rfl ?_
    obtain ⟨v3, ev3, hq⟩ := Option.bind_eq_some_iff.mp hq
    refine jw_alen (o := v2) dX8_file_9 ev3 ?_
    rcases jw_if hq with ⟨c4, hq⟩ | ⟨c4, hq⟩
    · refine jw_icmp_ge_t (tgt := 22) dX8_file_10 (by decide) c4 ?_
      refine jw_forget [false, false] (L' := [none, none]) rfl ?_
      exact l_X8_file_b22  hq
    · refine jw_icmp_ge_f (tgt := 22) dX8_file_10 (by decide) c4 ?_
      refine jw_aload_n dX8_file_13 (o := (some x0)) rfl ?_
      obtain ⟨v5, ev5, hq⟩ := Option.bind_eq_some_iff.mp hq
      refine jw_getR (o := (some x0)) dX8_file_14 ev5 fl_X8_23 rfl ?_
      refine jw_iload_n dX8_file_17 rfl ?_
      obtain ⟨v6, ev6, hq⟩ := Option.bind_eq_some_iff.mp hq
      refine jw_aald (t := 37) (Nat.le_of_ble_eq_true rfl) (o := v5) dX8_file_18 ev6 ?_
      refine jw_goto (tgt := 23) dX8_file_19 (by decide) ?_
      refine jw_forget [false, false] (L' := [none, none]) rfl ?_
      exact l_X8_file_b23  hq

theorem c_X8_file {h : jw_H} {x0 : Nat} {x1 : Int32} {r : Option Nat} {h' : jw_H} (hq : f_X8_file h x0 x1 = some (r, h')) : jw_Con (Cond.code yX8_file cX8_file 2 (some (.object "Lineorders$Rows"))) yX8_file 0 [.ref x0, .int x1] h (.inl (some (va_rf r))) h' :=
  jw_con false (plainFor_of_name (by decide +kernel)) (fun z => nomatch z) (by simp [jw_ent, jw_sl0_nil, jw_sl0_int, jw_sl0_long, jw_sl0_ref, jw_sl0_rf, jw_sl0_scr, List.replicate]) (by simp [jw_sl0_nil, jw_sl0_int, jw_sl0_long, jw_sl0_ref, jw_sl0_rf, jw_sl0_scr]) (l_X8_file hq)


/-! X8_copy -/
noncomputable def g_X8_copy_b57 (k24 : jw_H → Nat → Option Nat → Int32 → Option (Unit × jw_H)) (h : jw_H) (x0 : Nat) (x1 : Option Nat) (x2 : Int32) : Option (Unit × jw_H) :=
 k24 h x0 x1 (x2 + (1 : Int32))

noncomputable def g_X8_copy_b24 (k24 : jw_H → Nat → Option Nat → Int32 → Option (Unit × jw_H)) (h : jw_H) (x0 : Nat) (x1 : Option Nat) (x2 : Int32) : Option (Unit × jw_H) :=
 if (4 : Int32) ≤ x2 then (some ((), h))
 else ((jw_rc h 8 (some x0)).bind fun a2 =>
 jw_b2 (f_X8_file h a2 x2) fun w4 h3 =>
 (jw_rc h3 8 x1).bind fun a5 =>
 jw_b2 (f_X8_file h3 a5 x2) fun w7 h6 =>
 if w4 = none then (g_X8_copy_b57 k24 h6 x0 x1 x2)
 else (if w7 = none then (g_X8_copy_b57 k24 h6 x0 x1 x2)
 else ((jw_rc h6 7 w4).bind fun a10 =>
 jw_b2 (f_X7_copy h6 a10 w7) fun w12 h11 =>
 g_X8_copy_b57 k24 h11 x0 x1 x2)))

noncomputable def f_X8_copy_b24 (n : Nat) : jw_H → Nat → Option Nat → Int32 → Option (Unit × jw_H) :=
 Nat.rec (fun _ _ _ _ => none) (fun _ k24 => g_X8_copy_b24 k24) n

noncomputable def f_X8_copy (h : jw_H) (x0 : Nat) (x1 : Option Nat) : Option (Unit × jw_H) :=
 (jw_gR h 8 (some x0) 0).bind fun v1 =>
 (jw_gR h 8 x1 0).bind fun v2 =>
 (jw_rc h 7 v1).bind fun a3 =>
 jw_b2 (f_X7_copy h a3 v2) fun w5 h4 =>
 (jw_gR h4 8 (some x0) 1).bind fun v6 =>
 (jw_gR h4 8 x1 1).bind fun v7 =>
 (jw_rc h4 7 v6).bind fun a8 =>
 jw_b2 (f_X7_copy h4 a8 v7) fun w10 h9 =>
 f_X8_copy_b24  jw_FU h9 x0 x1 (0 : Int32)

set_option maxRecDepth 100000 in
set_option maxHeartbeats 4000000 in
theorem l_X8_copy_b57 {hi : jw_H} {k24 : jw_H → Nat → Option Nat → Int32 → Option (Unit × jw_H)} (hk24 : ∀ (h : jw_H) (x0 : Nat) (x1 : Option Nat) (x2 : Int32) (r : Unit) (h' : jw_H), k24 h x0 x1 x2 = some (r, h') → jw_E 2 uX8_copy hi 24 [some (.ref x0), some (va_rf x1), some (.int x2), none, none] [] h (.inl none) h') {h : jw_H} {x0 : Nat} {x1 : Option Nat} {x2 : Int32} {r : Unit} {h' : jw_H} (hq : g_X8_copy_b57 k24 h x0 x1 x2 = some (r, h')) : jw_E 2 uX8_copy hi 57 [some (.ref x0), some (va_rf x1), some (.int x2), none, none] [] h (.inl none) h' := by
  unfold g_X8_copy_b57 at hq
  refine jw_iinc (L' := [some (.ref x0), some (va_rf x1), some (.int (x2 + (1 : Int32))), none, none]) dX8_copy_57 rfl (v := (1 : Int32)) (by decide) (Nat.le_of_ble_eq_true rfl) ((jw_st1_of (j := 1) jw_long_rf).trans rfl) ?_
  refine jw_goto (tgt := 24) dX8_copy_60 (by decide) ?_
  exact hk24 _ _ _ _ _ _ hq

set_option maxRecDepth 100000 in
set_option maxHeartbeats 4000000 in
theorem l_X8_copy_b24g {hi : jw_H} {k24 : jw_H → Nat → Option Nat → Int32 → Option (Unit × jw_H)} (hk24 : ∀ (h : jw_H) (x0 : Nat) (x1 : Option Nat) (x2 : Int32) (r : Unit) (h' : jw_H), k24 h x0 x1 x2 = some (r, h') → jw_E 2 uX8_copy hi 24 [some (.ref x0), some (va_rf x1), some (.int x2), none, none] [] h (.inl none) h') {h : jw_H} {x0 : Nat} {x1 : Option Nat} {x2 : Int32} {r : Unit} {h' : jw_H} (hq : g_X8_copy_b24 k24 h x0 x1 x2 = some (r, h')) : jw_E 2 uX8_copy hi 24 [some (.ref x0), some (va_rf x1), some (.int x2), none, none] [] h (.inl none) h' := by
  unfold g_X8_copy_b24 at hq
  refine jw_iload_n dX8_copy_24 rfl ?_
  refine jw_iconst dX8_copy_25 (v := (4 : Int32)) (by decide) ?_
  rcases jw_if hq with ⟨c1, hq⟩ | ⟨c1, hq⟩
  · refine jw_icmp_ge_t (tgt := 63) dX8_copy_26 (by decide) c1 ?_
    cases hq
    exact jw_vret dX8_copy_63 rfl
  · refine jw_icmp_ge_f (tgt := 63) dX8_copy_26 (by decide) c1 ?_
    refine jw_aload_n dX8_copy_29 (o := (some x0)) rfl ?_
    refine jw_iload_n dX8_copy_30 rfl ?_
    obtain ⟨a2, ea2, hq⟩ := Option.bind_eq_some_iff.mp hq
    obtain ⟨eoa2, eta2⟩ := jw_rc_spec ea2
    obtain ⟨w4, h3, ew4, hq⟩ := jw_b2_spec hq
    refine jw_callV (As := [.int x2]) (S := []) (a := a2) (v := some (va_rf w4)) dX8_copy_31 mt_X8_file in_X8_file se_X8_file lk_X8_35 (c_X8_file ew4) eta2 (by decide) rfl rfl (by decide) (Nat.le_of_ble_eq_true rfl) (by cases eoa2; rfl) ?_
    refine jw_astore_n (o := w4) (L' := [some (.ref x0), some (va_rf x1), some (.int x2), some (va_rf w4), none]) dX8_copy_34 (Nat.le_of_ble_eq_true rfl) rfl ?_
    refine jw_aload_n dX8_copy_35 (o := x1) rfl ?_
    refine jw_iload_n dX8_copy_36 rfl ?_
    obtain ⟨a5, ea5, hq⟩ := Option.bind_eq_some_iff.mp hq
    obtain ⟨eoa5, eta5⟩ := jw_rc_spec ea5
    obtain ⟨w7, h6, ew7, hq⟩ := jw_b2_spec hq
    refine jw_callV (As := [.int x2]) (S := []) (a := a5) (v := some (va_rf w7)) dX8_copy_37 mt_X8_file in_X8_file se_X8_file lk_X8_35 (c_X8_file ew7) eta5 (by decide) rfl rfl (by decide) (Nat.le_of_ble_eq_true rfl) (by cases eoa5; rfl) ?_
    refine jw_astore (o := w7) (L' := [some (.ref x0), some (va_rf x1), some (.int x2), some (va_rf w4), some (va_rf w7)]) dX8_copy_40 (Nat.le_of_ble_eq_true rfl) ((jw_st1_of (j := 3) jw_long_rf).trans rfl) ?_
    refine jw_aload_n dX8_copy_42 (o := w4) rfl ?_
    rcases jw_if hq with ⟨c8, hq⟩ | ⟨c8, hq⟩
    · refine jw_ifnull_t (o := w4) (tgt := 57) dX8_copy_43 (by decide) c8 ?_
      refine jw_forget [true, true, true, false, false] (L' := [some (.ref x0), some (va_rf x1), some (.int x2), none, none]) rfl ?_
      exact l_X8_copy_b57 hk24 hq
    · refine jw_ifnull_f (o := w4) dX8_copy_43 c8 ?_
      refine jw_aload dX8_copy_46 (o := w7) rfl ?_
      rcases jw_if hq with ⟨c9, hq⟩ | ⟨c9, hq⟩
      · refine jw_ifnull_t (o := w7) (tgt := 57) dX8_copy_48 (by decide) c9 ?_
        refine jw_forget [true, true, true, false, false] (L' := [some (.ref x0), some (va_rf x1), some (.int x2), none, none]) rfl ?_
        exact l_X8_copy_b57 hk24 hq
      · refine jw_ifnull_f (o := w7) dX8_copy_48 c9 ?_
        refine jw_aload_n dX8_copy_51 (o := w4) rfl ?_
        refine jw_aload dX8_copy_52 (o := w7) rfl ?_
        obtain ⟨a10, ea10, hq⟩ := Option.bind_eq_some_iff.mp hq
        obtain ⟨eoa10, eta10⟩ := jw_rc_spec ea10
        obtain ⟨w12, h11, ew12, hq⟩ := jw_b2_spec hq
        refine jw_callV (As := [va_rf w7]) (S := []) (a := a10) (v := none) dX8_copy_54 mt_X7_copy in_X7_copy se_X7_copy lk_X8_31 (c_X7_copy ew12) eta10 (by decide) rfl rfl (by decide) (Nat.le_of_ble_eq_true rfl) (by cases eoa10; rfl) ?_
        refine jw_forget [true, true, true, false, false] (L' := [some (.ref x0), some (va_rf x1), some (.int x2), none, none]) rfl ?_
        exact l_X8_copy_b57 hk24 hq

theorem l_X8_copy_b24 {hi : jw_H} : ∀ (n : Nat) (h : jw_H) (x0 : Nat) (x1 : Option Nat) (x2 : Int32) (r : Unit) (h' : jw_H), f_X8_copy_b24  n h x0 x1 x2 = some (r, h') → jw_E 2 uX8_copy hi 24 [some (.ref x0), some (va_rf x1), some (.int x2), none, none] [] h (.inl none) h' := by
  intro n
  induction n with
  | zero => intro h x0 x1 x2 r h' hq; exact nomatch hq
  | succ n ih => intro h x0 x1 x2 r h' hq; exact l_X8_copy_b24g ih hq

set_option maxRecDepth 100000 in
set_option maxHeartbeats 4000000 in
theorem l_X8_copy {hi : jw_H} {h : jw_H} {x0 : Nat} {x1 : Option Nat} {r : Unit} {h' : jw_H} (hq : f_X8_copy  h x0 x1 = some (r, h')) : jw_E 2 uX8_copy hi 0 [some (.ref x0), some (va_rf x1), none, none, none] [] h (.inl none) h' := by
  unfold f_X8_copy at hq
  refine jw_aload_n dX8_copy_0 (o := (some x0)) rfl ?_
  obtain ⟨v1, ev1, hq⟩ := Option.bind_eq_some_iff.mp hq
  refine jw_getR (o := (some x0)) dX8_copy_1 ev1 fl_X8_14 rfl ?_
  refine jw_aload_n dX8_copy_4 (o := x1) rfl ?_
  obtain ⟨v2, ev2, hq⟩ := Option.bind_eq_some_iff.mp hq
  refine jw_getR (o := x1) dX8_copy_5 ev2 fl_X8_14 rfl ?_
  obtain ⟨a3, ea3, hq⟩ := Option.bind_eq_some_iff.mp hq
  obtain ⟨eoa3, eta3⟩ := jw_rc_spec ea3
  obtain ⟨w5, h4, ew5, hq⟩ := jw_b2_spec hq
  refine jw_callV (As := [va_rf v2]) (S := []) (a := a3) (v := none) dX8_copy_8 mt_X7_copy in_X7_copy se_X7_copy lk_X8_31 (c_X7_copy ew5) eta3 (by decide) rfl rfl (by decide) (Nat.le_of_ble_eq_true rfl) (by cases eoa3; rfl) ?_
  refine jw_aload_n dX8_copy_11 (o := (some x0)) rfl ?_
  obtain ⟨v6, ev6, hq⟩ := Option.bind_eq_some_iff.mp hq
  refine jw_getR (o := (some x0)) dX8_copy_12 ev6 fl_X8_20 rfl ?_
  refine jw_aload_n dX8_copy_15 (o := x1) rfl ?_
  obtain ⟨v7, ev7, hq⟩ := Option.bind_eq_some_iff.mp hq
  refine jw_getR (o := x1) dX8_copy_16 ev7 fl_X8_20 rfl ?_
  obtain ⟨a8, ea8, hq⟩ := Option.bind_eq_some_iff.mp hq
  obtain ⟨eoa8, eta8⟩ := jw_rc_spec ea8
  obtain ⟨w10, h9, ew10, hq⟩ := jw_b2_spec hq
  refine jw_callV (As := [va_rf v7]) (S := []) (a := a8) (v := none) dX8_copy_19 mt_X7_copy in_X7_copy se_X7_copy lk_X8_31 (c_X7_copy ew10) eta8 (by decide) rfl rfl (by decide) (Nat.le_of_ble_eq_true rfl) (by cases eoa8; rfl) ?_
  refine jw_iconst dX8_copy_22 (v := (0 : Int32)) (by decide) ?_
  refine jw_istore_n (L' := [some (.ref x0), some (va_rf x1), some (.int (0 : Int32)), none, none]) dX8_copy_23 (Nat.le_of_ble_eq_true rfl) ((jw_st1_of (j := 1) jw_long_rf).trans rfl) ?_
  exact l_X8_copy_b24  jw_FU _ _ _ _ _ _ hq

theorem c_X8_copy {h : jw_H} {x0 : Nat} {x1 : Option Nat} {r : Unit} {h' : jw_H} (hq : f_X8_copy h x0 x1 = some (r, h')) : jw_Con (Cond.code yX8_copy cX8_copy 5 none) yX8_copy 2 [.ref x0, va_rf x1] h (.inl none) h' :=
  jw_con false (plainFor_of_name (by decide +kernel)) (fun z => nomatch z) (by simp [jw_ent, jw_sl0_nil, jw_sl0_int, jw_sl0_long, jw_sl0_ref, jw_sl0_rf, jw_sl0_scr, List.replicate]) (by simp [jw_sl0_nil, jw_sl0_int, jw_sl0_long, jw_sl0_ref, jw_sl0_rf, jw_sl0_scr]) (l_X8_copy hq)


/-! X2_appendRow -/
noncomputable def g_X2_appendRow_b46 (h : jw_H) (x0 : Nat) : Option (Unit × jw_H) :=
 (jw_pB h 2 (some x0) 4 (1 : Int32)).bind fun h1 =>
 some ((), h1)

noncomputable def f_X2_appendRow (h : jw_H) (x0 : Nat) (x1 : Int32) (x2 : Int32) : Option (Unit × jw_H) :=
 if x1 < 0 then (some ((), h))
 else (if (x2 - x1) < 0 then (some ((), h))
 else ((jw_gR h 2 (some x0) 1).bind fun v3 =>
 (jw_gR h 4 v3 1).bind fun v4 =>
 (jw_ln h v4).bind fun v5 =>
 if x2 ≤ v5 then ((jw_gI h 2 (some x0) 3).bind fun v7 =>
 if v7 < 0 then (g_X2_appendRow_b46  h x0)
 else ((jw_gR h 2 (some x0) 2).bind fun v9 =>
 (jw_ln h v9).bind fun v10 =>
 (jw_gI h 2 (some x0) 3).bind fun v11 =>
 if (x2 - x1) ≤ (v10 - v11) then ((jw_gR h 2 (some x0) 1).bind fun v13 =>
 (jw_gR h 4 v13 1).bind fun v14 =>
 (jw_gR h 2 (some x0) 2).bind fun v15 =>
 (jw_gI h 2 (some x0) 3).bind fun v16 =>
 (jw_cp h 21 v14 x1 v15 v16 (x2 - x1)).bind fun h17 =>
 (jw_gI h17 2 (some x0) 3).bind fun v18 =>
 (jw_pI h17 2 (some x0) 3 (v18 + (x2 - x1))).bind fun h19 =>
 some ((), h19))
 else (g_X2_appendRow_b46  h x0)))
 else (some ((), h))))

set_option maxRecDepth 100000 in
set_option maxHeartbeats 4000000 in
theorem l_X2_appendRow_b46 {hi : jw_H} {h : jw_H} {x0 : Nat} {r : Unit} {h' : jw_H} (hq : g_X2_appendRow_b46  h x0 = some (r, h')) : jw_E 1 uX2_appendRow hi 46 [some (.ref x0), none, none, none] [] h (.inl none) h' := by
  unfold g_X2_appendRow_b46 at hq
  refine jw_aload_n dX2_appendRow_46 (o := (some x0)) rfl ?_
  refine jw_iconst dX2_appendRow_47 (v := (1 : Int32)) (by decide) ?_
  obtain ⟨h1, eh1, hq⟩ := Option.bind_eq_some_iff.mp hq
  refine jw_putB (o := (some x0)) dX2_appendRow_48 eh1 fl_X2_27 rfl rfl ?_
  cases hq
  exact jw_vret dX2_appendRow_51 rfl

set_option maxRecDepth 100000 in
set_option maxHeartbeats 4000000 in
theorem l_X2_appendRow {hi : jw_H} {h : jw_H} {x0 : Nat} {x1 : Int32} {x2 : Int32} {r : Unit} {h' : jw_H} (hq : f_X2_appendRow  h x0 x1 x2 = some (r, h')) : jw_E 1 uX2_appendRow hi 0 [some (.ref x0), some (.int x1), some (.int x2), none] [] h (.inl none) h' := by
  unfold f_X2_appendRow at hq
  refine jw_iload_n dX2_appendRow_0 rfl ?_
  refine jw_iload_n dX2_appendRow_1 rfl ?_
  refine jw_isub dX2_appendRow_2 ?_
  refine jw_istore_n (L' := [some (.ref x0), some (.int x1), some (.int x2), some (.int (x2 - x1))]) dX2_appendRow_3 (Nat.le_of_ble_eq_true rfl) rfl ?_
  refine jw_iload_n dX2_appendRow_4 rfl ?_
  rcases jw_if hq with ⟨c1, hq⟩ | ⟨c1, hq⟩
  · refine jw_if_lt_t (tgt := 24) dX2_appendRow_5 (by decide) c1 ?_
    cases hq
    exact jw_vret dX2_appendRow_24 rfl
  · refine jw_if_lt_f (tgt := 24) dX2_appendRow_5 (by decide) c1 ?_
    refine jw_iload_n dX2_appendRow_8 rfl ?_
    rcases jw_if hq with ⟨c2, hq⟩ | ⟨c2, hq⟩
    · refine jw_if_lt_t (tgt := 24) dX2_appendRow_9 (by decide) c2 ?_
      cases hq
      exact jw_vret dX2_appendRow_24 rfl
    · refine jw_if_lt_f (tgt := 24) dX2_appendRow_9 (by decide) c2 ?_
      refine jw_iload_n dX2_appendRow_12 rfl ?_
      refine jw_aload_n dX2_appendRow_13 (o := (some x0)) rfl ?_
      obtain ⟨v3, ev3, hq⟩ := Option.bind_eq_some_iff.mp hq
      refine jw_getR (o := (some x0)) dX2_appendRow_14 ev3 fl_X2_15 rfl ?_
      obtain ⟨v4, ev4, hq⟩ := Option.bind_eq_some_iff.mp hq
      refine jw_getR (o := v3) dX2_appendRow_17 ev4 fl_X2_65 rfl ?_
      obtain ⟨v5, ev5, hq⟩ := Option.bind_eq_some_iff.mp hq
      refine jw_alen (o := v4) dX2_appendRow_20 ev5 ?_
      rcases jw_if hq with ⟨c6, hq⟩ | ⟨c6, hq⟩
      · refine jw_icmp_le_t (tgt := 25) dX2_appendRow_21 (by decide) c6 ?_
        refine jw_aload_n dX2_appendRow_25 (o := (some x0)) rfl ?_
        obtain ⟨v7, ev7, hq⟩ := Option.bind_eq_some_iff.mp hq
        refine jw_getI (o := (some x0)) dX2_appendRow_26 ev7 fl_X2_23 rfl ?_
        rcases jw_if hq with ⟨c8, hq⟩ | ⟨c8, hq⟩
        · refine jw_if_lt_t (tgt := 46) dX2_appendRow_29 (by decide) c8 ?_
          refine jw_forget [true, false, false, false] (L' := [some (.ref x0), none, none, none]) rfl ?_
          exact l_X2_appendRow_b46  hq
        · refine jw_if_lt_f (tgt := 46) dX2_appendRow_29 (by decide) c8 ?_
          refine jw_iload_n dX2_appendRow_32 rfl ?_
          refine jw_aload_n dX2_appendRow_33 (o := (some x0)) rfl ?_
          obtain ⟨v9, ev9, hq⟩ := Option.bind_eq_some_iff.mp hq
          refine jw_getR (o := (some x0)) dX2_appendRow_34 ev9 fl_X2_19 rfl ?_
          obtain ⟨v10, ev10, hq⟩ := Option.bind_eq_some_iff.mp hq
          refine jw_alen (o := v9) dX2_appendRow_37 ev10 ?_
          refine jw_aload_n dX2_appendRow_38 (o := (some x0)) rfl ?_
          obtain ⟨v11, ev11, hq⟩ := Option.bind_eq_some_iff.mp hq
          refine jw_getI (o := (some x0)) dX2_appendRow_39 ev11 fl_X2_23 rfl ?_
          refine jw_isub dX2_appendRow_42 ?_
          rcases jw_if hq with ⟨c12, hq⟩ | ⟨c12, hq⟩
          · refine jw_icmp_le_t (tgt := 52) dX2_appendRow_43 (by decide) c12 ?_
            refine jw_aload_n dX2_appendRow_52 (o := (some x0)) rfl ?_
            obtain ⟨v13, ev13, hq⟩ := Option.bind_eq_some_iff.mp hq
            refine jw_getR (o := (some x0)) dX2_appendRow_53 ev13 fl_X2_15 rfl ?_
            obtain ⟨v14, ev14, hq⟩ := Option.bind_eq_some_iff.mp hq
            refine jw_getR (o := v13) dX2_appendRow_56 ev14 fl_X2_65 rfl ?_
            refine jw_iload_n dX2_appendRow_59 rfl ?_
            refine jw_aload_n dX2_appendRow_60 (o := (some x0)) rfl ?_
            obtain ⟨v15, ev15, hq⟩ := Option.bind_eq_some_iff.mp hq
            refine jw_getR (o := (some x0)) dX2_appendRow_61 ev15 fl_X2_19 rfl ?_
            refine jw_aload_n dX2_appendRow_64 (o := (some x0)) rfl ?_
            obtain ⟨v16, ev16, hq⟩ := Option.bind_eq_some_iff.mp hq
            refine jw_getI (o := (some x0)) dX2_appendRow_65 ev16 fl_X2_23 rfl ?_
            refine jw_iload_n dX2_appendRow_68 rfl ?_
            obtain ⟨h17, eh17, hq⟩ := Option.bind_eq_some_iff.mp hq
            refine jw_acp (o1 := v14) (o2 := v15) (t := 21) dX2_appendRow_69 (by decide) al_X2_68 an_0 as_0 ai_0 (by decide) (Nat.le_of_ble_eq_true rfl) eh17 ?_
            refine jw_aload_n dX2_appendRow_72 (o := (some x0)) rfl ?_
            refine jw_dup dX2_appendRow_73 rfl ?_
            obtain ⟨v18, ev18, hq⟩ := Option.bind_eq_some_iff.mp hq
            refine jw_getI (o := (some x0)) dX2_appendRow_74 ev18 fl_X2_23 rfl ?_
            refine jw_iload_n dX2_appendRow_77 rfl ?_
            refine jw_iadd dX2_appendRow_78 ?_
            obtain ⟨h19, eh19, hq⟩ := Option.bind_eq_some_iff.mp hq
            refine jw_putI (o := (some x0)) dX2_appendRow_79 eh19 fl_X2_23 rfl rfl ?_
            cases hq
            exact jw_vret dX2_appendRow_82 rfl
          · refine jw_icmp_le_f (tgt := 52) dX2_appendRow_43 (by decide) c12 ?_
            refine jw_forget [true, false, false, false] (L' := [some (.ref x0), none, none, none]) rfl ?_
            exact l_X2_appendRow_b46  hq
      · refine jw_icmp_le_f (tgt := 25) dX2_appendRow_21 (by decide) c6 ?_
        cases hq
        exact jw_vret dX2_appendRow_24 rfl

theorem c_X2_appendRow {h : jw_H} {x0 : Nat} {x1 : Int32} {x2 : Int32} {r : Unit} {h' : jw_H} (hq : f_X2_appendRow h x0 x1 x2 = some (r, h')) : jw_Con (Cond.code yX2_appendRow cX2_appendRow 4 none) yX2_appendRow 1 [.ref x0, .int x1, .int x2] h (.inl none) h' :=
  jw_con false (plainFor_of_name (by decide +kernel)) (fun z => nomatch z) (by simp [jw_ent, jw_sl0_nil, jw_sl0_int, jw_sl0_long, jw_sl0_ref, jw_sl0_rf, jw_sl0_scr, List.replicate]) (by simp [jw_sl0_nil, jw_sl0_int, jw_sl0_long, jw_sl0_ref, jw_sl0_rf, jw_sl0_scr]) (l_X2_appendRow hq)


/-! X6_signAt -/
noncomputable def g_X6_signAt_b31 (h : jw_H) (t0 : Int32) : Option (Int32 × jw_H) :=
 some (t0, h)

noncomputable def g_X6_signAt_b30 (h : jw_H)  : Option (Int32 × jw_H) :=
 g_X6_signAt_b31  h (-1 : Int32)

noncomputable def f_X6_signAt (h : jw_H) (x0 : Nat) (x1 : Int32) : Option (Int32 × jw_H) :=
 if x1 < 0 then (g_X6_signAt_b30  h )
 else ((jw_gI h 6 (some x0) 4).bind fun v2 =>
 if v2 ≤ x1 then (g_X6_signAt_b30  h )
 else ((jw_gR h 6 (some x0) 3).bind fun v4 =>
 (jw_ln h v4).bind fun v5 =>
 if v5 ≤ x1 then (g_X6_signAt_b30  h )
 else ((jw_gR h 6 (some x0) 3).bind fun v7 =>
 (jw_ai h 21 v7 x1).bind fun v8 =>
 g_X6_signAt_b31  h v8)))

set_option maxRecDepth 100000 in
set_option maxHeartbeats 4000000 in
theorem l_X6_signAt_b31 {hi : jw_H} {h : jw_H} {t0 : Int32} {r : Int32} {h' : jw_H} (hq : g_X6_signAt_b31  h t0 = some (r, h')) : jw_E 0 uX6_signAt hi 31 [none, none] [.int t0] h (.inl (some (.int r))) h' := by
  unfold g_X6_signAt_b31 at hq
  cases hq
  exact jw_iret (ty := .int) dX6_signAt_31 rfl rfl

set_option maxRecDepth 100000 in
set_option maxHeartbeats 4000000 in
theorem l_X6_signAt_b30 {hi : jw_H} {h : jw_H}  {r : Int32} {h' : jw_H} (hq : g_X6_signAt_b30  h  = some (r, h')) : jw_E 0 uX6_signAt hi 30 [none, none] [] h (.inl (some (.int r))) h' := by
  unfold g_X6_signAt_b30 at hq
  refine jw_iconst dX6_signAt_30 (v := (-1 : Int32)) (by decide) ?_
  exact l_X6_signAt_b31  hq

set_option maxRecDepth 100000 in
set_option maxHeartbeats 4000000 in
theorem l_X6_signAt {hi : jw_H} {h : jw_H} {x0 : Nat} {x1 : Int32} {r : Int32} {h' : jw_H} (hq : f_X6_signAt  h x0 x1 = some (r, h')) : jw_E 0 uX6_signAt hi 0 [some (.ref x0), some (.int x1)] [] h (.inl (some (.int r))) h' := by
  unfold f_X6_signAt at hq
  refine jw_iload_n dX6_signAt_0 rfl ?_
  rcases jw_if hq with ⟨c1, hq⟩ | ⟨c1, hq⟩
  · refine jw_if_lt_t (tgt := 30) dX6_signAt_1 (by decide) c1 ?_
    refine jw_forget [false, false] (L' := [none, none]) rfl ?_
    exact l_X6_signAt_b30  hq
  · refine jw_if_lt_f (tgt := 30) dX6_signAt_1 (by decide) c1 ?_
    refine jw_iload_n dX6_signAt_4 rfl ?_
    refine jw_aload_n dX6_signAt_5 (o := (some x0)) rfl ?_
    obtain ⟨v2, ev2, hq⟩ := Option.bind_eq_some_iff.mp hq
    refine jw_getI (o := (some x0)) dX6_signAt_6 ev2 fl_X6_34 rfl ?_
    rcases jw_if hq with ⟨c3, hq⟩ | ⟨c3, hq⟩
    · refine jw_icmp_ge_t (tgt := 30) dX6_signAt_9 (by decide) c3 ?_
      refine jw_forget [false, false] (L' := [none, none]) rfl ?_
      exact l_X6_signAt_b30  hq
    · refine jw_icmp_ge_f (tgt := 30) dX6_signAt_9 (by decide) c3 ?_
      refine jw_iload_n dX6_signAt_12 rfl ?_
      refine jw_aload_n dX6_signAt_13 (o := (some x0)) rfl ?_
      obtain ⟨v4, ev4, hq⟩ := Option.bind_eq_some_iff.mp hq
      refine jw_getR (o := (some x0)) dX6_signAt_14 ev4 fl_X6_26 rfl ?_
      obtain ⟨v5, ev5, hq⟩ := Option.bind_eq_some_iff.mp hq
      refine jw_alen (o := v4) dX6_signAt_17 ev5 ?_
      rcases jw_if hq with ⟨c6, hq⟩ | ⟨c6, hq⟩
      · refine jw_icmp_ge_t (tgt := 30) dX6_signAt_18 (by decide) c6 ?_
        refine jw_forget [false, false] (L' := [none, none]) rfl ?_
        exact l_X6_signAt_b30  hq
      · refine jw_icmp_ge_f (tgt := 30) dX6_signAt_18 (by decide) c6 ?_
        refine jw_aload_n dX6_signAt_21 (o := (some x0)) rfl ?_
        obtain ⟨v7, ev7, hq⟩ := Option.bind_eq_some_iff.mp hq
        refine jw_getR (o := (some x0)) dX6_signAt_22 ev7 fl_X6_26 rfl ?_
        refine jw_iload_n dX6_signAt_25 rfl ?_
        obtain ⟨v8, ev8, hq⟩ := Option.bind_eq_some_iff.mp hq
        refine jw_bald (o := v7) dX6_signAt_26 ev8 ?_
        refine jw_goto (tgt := 31) dX6_signAt_27 (by decide) ?_
        refine jw_forget [false, false] (L' := [none, none]) rfl ?_
        exact l_X6_signAt_b31  hq

theorem c_X6_signAt {h : jw_H} {x0 : Nat} {x1 : Int32} {r : Int32} {h' : jw_H} (hq : f_X6_signAt h x0 x1 = some (r, h')) : jw_Con (Cond.code yX6_signAt cX6_signAt 2 (some .int)) yX6_signAt 0 [.ref x0, .int x1] h (.inl (some (.int r))) h' :=
  jw_con false (plainFor_of_name (by decide +kernel)) (fun z => nomatch z) (by simp [jw_ent, jw_sl0_nil, jw_sl0_int, jw_sl0_long, jw_sl0_ref, jw_sl0_rf, jw_sl0_scr, List.replicate]) (by simp [jw_sl0_nil, jw_sl0_int, jw_sl0_long, jw_sl0_ref, jw_sl0_rf, jw_sl0_scr]) (l_X6_signAt hq)


/-! X2_append -/
noncomputable def g_X2_append_b43 (h : jw_H) (x0 : Nat) : Option (Unit × jw_H) :=
 (jw_pB h 2 (some x0) 4 (1 : Int32)).bind fun h1 =>
 some ((), h1)

noncomputable def f_X2_append (h : jw_H) (x0 : Nat) (x1 : Int32) : Option (Unit × jw_H) :=
 (jw_gI h 2 (some x0) 3).bind fun v1 =>
 if v1 < 0 then (g_X2_append_b43  h x0)
 else ((jw_gI h 2 (some x0) 3).bind fun v3 =>
 (jw_gR h 2 (some x0) 2).bind fun v4 =>
 (jw_ln h v4).bind fun v5 =>
 if v5 ≤ v3 then (g_X2_append_b43  h x0)
 else ((jw_gR h 2 (some x0) 2).bind fun v7 =>
 (jw_gI h 2 (some x0) 3).bind fun v8 =>
 (jw_si h 21 v7 v8 (vp_nar .byte x1.toInt8.toInt32)).bind fun h9 =>
 (jw_gI h9 2 (some x0) 3).bind fun v10 =>
 (jw_pI h9 2 (some x0) 3 (v10 + (1 : Int32))).bind fun h11 =>
 some ((), h11)))

set_option maxRecDepth 100000 in
set_option maxHeartbeats 4000000 in
theorem l_X2_append_b43 {hi : jw_H} {h : jw_H} {x0 : Nat} {r : Unit} {h' : jw_H} (hq : g_X2_append_b43  h x0 = some (r, h')) : jw_E 0 uX2_append hi 43 [some (.ref x0), none] [] h (.inl none) h' := by
  unfold g_X2_append_b43 at hq
  refine jw_aload_n dX2_append_43 (o := (some x0)) rfl ?_
  refine jw_iconst dX2_append_44 (v := (1 : Int32)) (by decide) ?_
  obtain ⟨h1, eh1, hq⟩ := Option.bind_eq_some_iff.mp hq
  refine jw_putB (o := (some x0)) dX2_append_45 eh1 fl_X2_27 rfl rfl ?_
  cases hq
  exact jw_vret dX2_append_48 rfl

set_option maxRecDepth 100000 in
set_option maxHeartbeats 4000000 in
theorem l_X2_append {hi : jw_H} {h : jw_H} {x0 : Nat} {x1 : Int32} {r : Unit} {h' : jw_H} (hq : f_X2_append  h x0 x1 = some (r, h')) : jw_E 0 uX2_append hi 0 [some (.ref x0), some (.int x1)] [] h (.inl none) h' := by
  unfold f_X2_append at hq
  refine jw_aload_n dX2_append_0 (o := (some x0)) rfl ?_
  obtain ⟨v1, ev1, hq⟩ := Option.bind_eq_some_iff.mp hq
  refine jw_getI (o := (some x0)) dX2_append_1 ev1 fl_X2_23 rfl ?_
  rcases jw_if hq with ⟨c2, hq⟩ | ⟨c2, hq⟩
  · refine jw_if_lt_t (tgt := 43) dX2_append_4 (by decide) c2 ?_
    refine jw_forget [true, false] (L' := [some (.ref x0), none]) rfl ?_
    exact l_X2_append_b43  hq
  · refine jw_if_lt_f (tgt := 43) dX2_append_4 (by decide) c2 ?_
    refine jw_aload_n dX2_append_7 (o := (some x0)) rfl ?_
    obtain ⟨v3, ev3, hq⟩ := Option.bind_eq_some_iff.mp hq
    refine jw_getI (o := (some x0)) dX2_append_8 ev3 fl_X2_23 rfl ?_
    refine jw_aload_n dX2_append_11 (o := (some x0)) rfl ?_
    obtain ⟨v4, ev4, hq⟩ := Option.bind_eq_some_iff.mp hq
    refine jw_getR (o := (some x0)) dX2_append_12 ev4 fl_X2_19 rfl ?_
    obtain ⟨v5, ev5, hq⟩ := Option.bind_eq_some_iff.mp hq
    refine jw_alen (o := v4) dX2_append_15 ev5 ?_
    rcases jw_if hq with ⟨c6, hq⟩ | ⟨c6, hq⟩
    · refine jw_icmp_ge_t (tgt := 43) dX2_append_16 (by decide) c6 ?_
      refine jw_forget [true, false] (L' := [some (.ref x0), none]) rfl ?_
      exact l_X2_append_b43  hq
    · refine jw_icmp_ge_f (tgt := 43) dX2_append_16 (by decide) c6 ?_
      refine jw_aload_n dX2_append_19 (o := (some x0)) rfl ?_
      obtain ⟨v7, ev7, hq⟩ := Option.bind_eq_some_iff.mp hq
      refine jw_getR (o := (some x0)) dX2_append_20 ev7 fl_X2_19 rfl ?_
      refine jw_aload_n dX2_append_23 (o := (some x0)) rfl ?_
      obtain ⟨v8, ev8, hq⟩ := Option.bind_eq_some_iff.mp hq
      refine jw_getI (o := (some x0)) dX2_append_24 ev8 fl_X2_23 rfl ?_
      refine jw_iload_n dX2_append_27 rfl ?_
      refine jw_i2b dX2_append_28 ?_
      obtain ⟨h9, eh9, hq⟩ := Option.bind_eq_some_iff.mp hq
      refine jw_bast (o := v7) rfl dX2_append_29 eh9 ?_
      refine jw_aload_n dX2_append_30 (o := (some x0)) rfl ?_
      refine jw_dup dX2_append_31 rfl ?_
      obtain ⟨v10, ev10, hq⟩ := Option.bind_eq_some_iff.mp hq
      refine jw_getI (o := (some x0)) dX2_append_32 ev10 fl_X2_23 rfl ?_
      refine jw_iconst dX2_append_35 (v := (1 : Int32)) (by decide) ?_
      refine jw_iadd dX2_append_36 ?_
      obtain ⟨h11, eh11, hq⟩ := Option.bind_eq_some_iff.mp hq
      refine jw_putI (o := (some x0)) dX2_append_37 eh11 fl_X2_23 rfl rfl ?_
      refine jw_goto (tgt := 48) dX2_append_40 (by decide) ?_
      cases hq
      exact jw_vret dX2_append_48 rfl

theorem c_X2_append {h : jw_H} {x0 : Nat} {x1 : Int32} {r : Unit} {h' : jw_H} (hq : f_X2_append h x0 x1 = some (r, h')) : jw_Con (Cond.code yX2_append cX2_append 2 none) yX2_append 0 [.ref x0, .int x1] h (.inl none) h' :=
  jw_con false (plainFor_of_name (by decide +kernel)) (fun z => nomatch z) (by simp [jw_ent, jw_sl0_nil, jw_sl0_int, jw_sl0_long, jw_sl0_ref, jw_sl0_rf, jw_sl0_scr, List.replicate]) (by simp [jw_sl0_nil, jw_sl0_int, jw_sl0_long, jw_sl0_ref, jw_sl0_rf, jw_sl0_scr]) (l_X2_append hq)


/-! X2_appendPut -/
noncomputable def g_X2_appendPut_b115 (k5 : jw_H → Nat → Option Nat → Int32 → Option (Unit × jw_H)) (h : jw_H) (x0 : Nat) (x1 : Option Nat) (x2 : Int32) : Option (Unit × jw_H) :=
 k5 h x0 x1 (x2 + (1 : Int32))

noncomputable def g_X2_appendPut_b107 (k5 : jw_H → Nat → Option Nat → Int32 → Option (Unit × jw_H)) (h : jw_H) (x0 : Nat) (x1 : Option Nat) (x2 : Int32) : Option (Unit × jw_H) :=
 g_X2_appendPut_b115 k5 h x0 x1 x2

noncomputable def g_X2_appendPut_b5 (k5 : jw_H → Nat → Option Nat → Int32 → Option (Unit × jw_H)) (h : jw_H) (x0 : Nat) (x1 : Option Nat) (x2 : Int32) : Option (Unit × jw_H) :=
 (jw_gI h 5 x1 8).bind fun v1 =>
 if v1 ≤ x2 then (some ((), h))
 else ((jw_gR h 2 (some x0) 0).bind fun v3 =>
 (jw_rc h 6 v3).bind fun a4 =>
 jw_b2 (f_X6_signAt h a4 x2) fun w6 h5 =>
 if w6 = (38 : Int32) then ((jw_gR h5 2 (some x0) 1).bind fun v27 =>
 (jw_gI h5 4 v27 6).bind fun v28 =>
 (jw_gR h5 2 (some x0) 1).bind fun v29 =>
 (jw_gI h5 4 v29 7).bind fun v30 =>
 (jw_rc h5 2 (some x0)).bind fun a31 =>
 jw_b2 (f_X2_appendRow h5 a31 v28 v30) fun w33 h32 =>
 g_X2_appendPut_b115 k5 h32 x0 x1 x2)
 else (if w6 = (92 : Int32) then ((jw_gR h5 2 (some x0) 0).bind fun v12 =>
 (jw_rc h5 6 v12).bind fun a13 =>
 jw_b2 (f_X6_signAt h5 a13 (x2 + (1 : Int32))) fun w15 h14 =>
 if (w15 - (48 : Int32)) < (1 : Int32) then (g_X2_appendPut_b107 k5 h14 x0 x1 (x2 + (1 : Int32)))
 else (if (2 : Int32) < (w15 - (48 : Int32)) then (g_X2_appendPut_b107 k5 h14 x0 x1 (x2 + (1 : Int32)))
 else ((jw_gR h14 2 (some x0) 1).bind fun v18 =>
 (jw_gR h14 4 v18 3).bind fun v19 =>
 (jw_ai h14 20 v19 (w15 - (48 : Int32))).bind fun v20 =>
 (jw_gR h14 2 (some x0) 1).bind fun v21 =>
 (jw_gR h14 4 v21 4).bind fun v22 =>
 (jw_ai h14 20 v22 (w15 - (48 : Int32))).bind fun v23 =>
 (jw_rc h14 2 (some x0)).bind fun a24 =>
 jw_b2 (f_X2_appendRow h14 a24 v20 v23) fun w26 h25 =>
 g_X2_appendPut_b107 k5 h25 x0 x1 (x2 + (1 : Int32)))))
 else ((jw_rc h5 2 (some x0)).bind fun a9 =>
 jw_b2 (f_X2_append h5 a9 w6) fun w11 h10 =>
 g_X2_appendPut_b115 k5 h10 x0 x1 x2)))

noncomputable def f_X2_appendPut_b5 (n : Nat) : jw_H → Nat → Option Nat → Int32 → Option (Unit × jw_H) :=
 Nat.rec (fun _ _ _ _ => none) (fun _ k5 => g_X2_appendPut_b5 k5) n

noncomputable def f_X2_appendPut (h : jw_H) (x0 : Nat) (x1 : Option Nat) : Option (Unit × jw_H) :=
 (jw_gI h 5 x1 7).bind fun v1 =>
 f_X2_appendPut_b5  jw_FU h x0 x1 v1

set_option maxRecDepth 100000 in
set_option maxHeartbeats 4000000 in
theorem l_X2_appendPut_b115 {hi : jw_H} {k5 : jw_H → Nat → Option Nat → Int32 → Option (Unit × jw_H)} (hk5 : ∀ (h : jw_H) (x0 : Nat) (x1 : Option Nat) (x2 : Int32) (r : Unit) (h' : jw_H), k5 h x0 x1 x2 = some (r, h') → jw_E 2 uX2_appendPut hi 5 [some (.ref x0), some (va_rf x1), some (.int x2), none, none] [] h (.inl none) h') {h : jw_H} {x0 : Nat} {x1 : Option Nat} {x2 : Int32} {r : Unit} {h' : jw_H} (hq : g_X2_appendPut_b115 k5 h x0 x1 x2 = some (r, h')) : jw_E 2 uX2_appendPut hi 115 [some (.ref x0), some (va_rf x1), some (.int x2), none, none] [] h (.inl none) h' := by
  unfold g_X2_appendPut_b115 at hq
  refine jw_iinc (L' := [some (.ref x0), some (va_rf x1), some (.int (x2 + (1 : Int32))), none, none]) dX2_appendPut_115 rfl (v := (1 : Int32)) (by decide) (Nat.le_of_ble_eq_true rfl) ((jw_st1_of (j := 1) jw_long_rf).trans rfl) ?_
  refine jw_goto (tgt := 5) dX2_appendPut_118 (by decide) ?_
  exact hk5 _ _ _ _ _ _ hq

set_option maxRecDepth 100000 in
set_option maxHeartbeats 4000000 in
theorem l_X2_appendPut_b107 {hi : jw_H} {k5 : jw_H → Nat → Option Nat → Int32 → Option (Unit × jw_H)} (hk5 : ∀ (h : jw_H) (x0 : Nat) (x1 : Option Nat) (x2 : Int32) (r : Unit) (h' : jw_H), k5 h x0 x1 x2 = some (r, h') → jw_E 2 uX2_appendPut hi 5 [some (.ref x0), some (va_rf x1), some (.int x2), none, none] [] h (.inl none) h') {h : jw_H} {x0 : Nat} {x1 : Option Nat} {x2 : Int32} {r : Unit} {h' : jw_H} (hq : g_X2_appendPut_b107 k5 h x0 x1 x2 = some (r, h')) : jw_E 2 uX2_appendPut hi 107 [some (.ref x0), some (va_rf x1), some (.int x2), none, none] [] h (.inl none) h' := by
  unfold g_X2_appendPut_b107 at hq
  refine jw_goto (tgt := 115) dX2_appendPut_107 (by decide) ?_
  exact l_X2_appendPut_b115 hk5 hq

set_option maxRecDepth 100000 in
set_option maxHeartbeats 4000000 in
theorem l_X2_appendPut_b5g {hi : jw_H} {k5 : jw_H → Nat → Option Nat → Int32 → Option (Unit × jw_H)} (hk5 : ∀ (h : jw_H) (x0 : Nat) (x1 : Option Nat) (x2 : Int32) (r : Unit) (h' : jw_H), k5 h x0 x1 x2 = some (r, h') → jw_E 2 uX2_appendPut hi 5 [some (.ref x0), some (va_rf x1), some (.int x2), none, none] [] h (.inl none) h') {h : jw_H} {x0 : Nat} {x1 : Option Nat} {x2 : Int32} {r : Unit} {h' : jw_H} (hq : g_X2_appendPut_b5 k5 h x0 x1 x2 = some (r, h')) : jw_E 2 uX2_appendPut hi 5 [some (.ref x0), some (va_rf x1), some (.int x2), none, none] [] h (.inl none) h' := by
  unfold g_X2_appendPut_b5 at hq
  refine jw_iload_n dX2_appendPut_5 rfl ?_
  refine jw_aload_n dX2_appendPut_6 (o := x1) rfl ?_
  obtain ⟨v1, ev1, hq⟩ := Option.bind_eq_some_iff.mp hq
  refine jw_getI (o := x1) dX2_appendPut_7 ev1 fl_X2_101 rfl ?_
  rcases jw_if hq with ⟨c2, hq⟩ | ⟨c2, hq⟩
  · refine jw_icmp_ge_t (tgt := 121) dX2_appendPut_10 (by decide) c2 ?_
    cases hq
    exact jw_vret dX2_appendPut_121 rfl
  · refine jw_icmp_ge_f (tgt := 121) dX2_appendPut_10 (by decide) c2 ?_
    refine jw_aload_n dX2_appendPut_13 (o := (some x0)) rfl ?_
    obtain ⟨v3, ev3, hq⟩ := Option.bind_eq_some_iff.mp hq
    refine jw_getR (o := (some x0)) dX2_appendPut_14 ev3 fl_X2_9 rfl ?_
    refine jw_iload_n dX2_appendPut_17 rfl ?_
    obtain ⟨a4, ea4, hq⟩ := Option.bind_eq_some_iff.mp hq
    obtain ⟨eoa4, eta4⟩ := jw_rc_spec ea4
    obtain ⟨w6, h5, ew6, hq⟩ := jw_b2_spec hq
    refine jw_callV (As := [.int x2]) (S := []) (a := a4) (v := some (.int w6)) dX2_appendPut_18 mt_X6_signAt in_X6_signAt se_X6_signAt lk_X2_104 (c_X6_signAt ew6) eta4 (by decide) rfl rfl (by decide) (Nat.le_of_ble_eq_true rfl) (by cases eoa4; rfl) ?_
    refine jw_istore_n (L' := [some (.ref x0), some (va_rf x1), some (.int x2), some (.int w6), none]) dX2_appendPut_21 (Nat.le_of_ble_eq_true rfl) rfl ?_
    refine jw_iload_n dX2_appendPut_22 rfl ?_
    refine jw_bipush dX2_appendPut_23 (v := (38 : Int32)) (by decide) ?_
    rcases jw_if hq with ⟨c7, hq⟩ | ⟨c7, hq⟩
    · refine jw_icmp_ne_f (tgt := 49) dX2_appendPut_25 (by decide) c7 ?_
      refine jw_aload_n dX2_appendPut_28 (o := (some x0)) rfl ?_
      refine jw_aload_n dX2_appendPut_29 (o := (some x0)) rfl ?_
      obtain ⟨v27, ev27, hq⟩ := Option.bind_eq_some_iff.mp hq
      refine jw_getR (o := (some x0)) dX2_appendPut_30 ev27 fl_X2_15 rfl ?_
      obtain ⟨v28, ev28, hq⟩ := Option.bind_eq_some_iff.mp hq
      refine jw_getI (o := v27) dX2_appendPut_33 ev28 fl_X2_84 rfl ?_
      refine jw_aload_n dX2_appendPut_36 (o := (some x0)) rfl ?_
      obtain ⟨v29, ev29, hq⟩ := Option.bind_eq_some_iff.mp hq
      refine jw_getR (o := (some x0)) dX2_appendPut_37 ev29 fl_X2_15 rfl ?_
      obtain ⟨v30, ev30, hq⟩ := Option.bind_eq_some_iff.mp hq
      refine jw_getI (o := v29) dX2_appendPut_40 ev30 fl_X2_77 rfl ?_
      obtain ⟨a31, ea31, hq⟩ := Option.bind_eq_some_iff.mp hq
      obtain ⟨eoa31, eta31⟩ := jw_rc_spec ea31
      obtain ⟨w33, h32, ew33, hq⟩ := jw_b2_spec hq
      refine jw_callV (As := [.int v28, .int v30]) (S := []) (a := a31) (v := none) dX2_appendPut_43 mt_X2_appendRow in_X2_appendRow se_X2_appendRow lk_X2_87 (c_X2_appendRow ew33) eta31 (by decide) rfl rfl (by decide) (Nat.le_of_ble_eq_true rfl) (by cases eoa31; rfl) ?_
      refine jw_goto (tgt := 115) dX2_appendPut_46 (by decide) ?_
      refine jw_forget [true, true, true, false, true] (L' := [some (.ref x0), some (va_rf x1), some (.int x2), none, none]) rfl ?_
      exact l_X2_appendPut_b115 hk5 hq
    · refine jw_icmp_ne_t (tgt := 49) dX2_appendPut_25 (by decide) c7 ?_
      refine jw_iload_n dX2_appendPut_49 rfl ?_
      refine jw_bipush dX2_appendPut_50 (v := (92 : Int32)) (by decide) ?_
      rcases jw_if hq with ⟨c8, hq⟩ | ⟨c8, hq⟩
      · refine jw_icmp_ne_f (tgt := 110) dX2_appendPut_52 (by decide) c8 ?_
        refine jw_iinc (L' := [some (.ref x0), some (va_rf x1), some (.int (x2 + (1 : Int32))), some (.int w6), none]) dX2_appendPut_55 rfl (v := (1 : Int32)) (by decide) (Nat.le_of_ble_eq_true rfl) ((jw_st1_of (j := 1) jw_long_rf).trans rfl) ?_
        refine jw_aload_n dX2_appendPut_58 (o := (some x0)) rfl ?_
        obtain ⟨v12, ev12, hq⟩ := Option.bind_eq_some_iff.mp hq
        refine jw_getR (o := (some x0)) dX2_appendPut_59 ev12 fl_X2_9 rfl ?_
        refine jw_iload_n dX2_appendPut_62 rfl ?_
        obtain ⟨a13, ea13, hq⟩ := Option.bind_eq_some_iff.mp hq
        obtain ⟨eoa13, eta13⟩ := jw_rc_spec ea13
        obtain ⟨w15, h14, ew15, hq⟩ := jw_b2_spec hq
        refine jw_callV (As := [.int (x2 + (1 : Int32))]) (S := []) (a := a13) (v := some (.int w15)) dX2_appendPut_63 mt_X6_signAt in_X6_signAt se_X6_signAt lk_X2_104 (c_X6_signAt ew15) eta13 (by decide) rfl rfl (by decide) (Nat.le_of_ble_eq_true rfl) (by cases eoa13; rfl) ?_
        refine jw_bipush dX2_appendPut_66 (v := (48 : Int32)) (by decide) ?_
        refine jw_isub dX2_appendPut_68 ?_
        refine jw_istore (L' := [some (.ref x0), some (va_rf x1), some (.int (x2 + (1 : Int32))), some (.int w6), some (.int (w15 - (48 : Int32)))]) dX2_appendPut_69 (Nat.le_of_ble_eq_true rfl) rfl ?_
        refine jw_iload dX2_appendPut_71 rfl ?_
        refine jw_iconst dX2_appendPut_73 (v := (1 : Int32)) (by decide) ?_
        rcases jw_if hq with ⟨c16, hq⟩ | ⟨c16, hq⟩
        · refine jw_icmp_lt_t (tgt := 107) dX2_appendPut_74 (by decide) c16 ?_
          refine jw_forget [true, true, true, false, false] (L' := [some (.ref x0), some (va_rf x1), some (.int (x2 + (1 : Int32))), none, none]) rfl ?_
          exact l_X2_appendPut_b107 hk5 hq
        · refine jw_icmp_lt_f (tgt := 107) dX2_appendPut_74 (by decide) c16 ?_
          refine jw_iload dX2_appendPut_77 rfl ?_
          refine jw_iconst dX2_appendPut_79 (v := (2 : Int32)) (by decide) ?_
          rcases jw_if hq with ⟨c17, hq⟩ | ⟨c17, hq⟩
          · refine jw_icmp_gt_t (tgt := 107) dX2_appendPut_80 (by decide) c17 ?_
            refine jw_forget [true, true, true, false, false] (L' := [some (.ref x0), some (va_rf x1), some (.int (x2 + (1 : Int32))), none, none]) rfl ?_
            exact l_X2_appendPut_b107 hk5 hq
          · refine jw_icmp_gt_f (tgt := 107) dX2_appendPut_80 (by decide) c17 ?_
            refine jw_aload_n dX2_appendPut_83 (o := (some x0)) rfl ?_
            refine jw_aload_n dX2_appendPut_84 (o := (some x0)) rfl ?_
            obtain ⟨v18, ev18, hq⟩ := Option.bind_eq_some_iff.mp hq
            refine jw_getR (o := (some x0)) dX2_appendPut_85 ev18 fl_X2_15 rfl ?_
            obtain ⟨v19, ev19, hq⟩ := Option.bind_eq_some_iff.mp hq
            refine jw_getR (o := v18) dX2_appendPut_88 ev19 fl_X2_110 rfl ?_
            refine jw_iload dX2_appendPut_91 rfl ?_
            obtain ⟨v20, ev20, hq⟩ := Option.bind_eq_some_iff.mp hq
            refine jw_iald (o := v19) dX2_appendPut_93 ev20 ?_
            refine jw_aload_n dX2_appendPut_94 (o := (some x0)) rfl ?_
            obtain ⟨v21, ev21, hq⟩ := Option.bind_eq_some_iff.mp hq
            refine jw_getR (o := (some x0)) dX2_appendPut_95 ev21 fl_X2_15 rfl ?_
            obtain ⟨v22, ev22, hq⟩ := Option.bind_eq_some_iff.mp hq
            refine jw_getR (o := v21) dX2_appendPut_98 ev22 fl_X2_114 rfl ?_
            refine jw_iload dX2_appendPut_101 rfl ?_
            obtain ⟨v23, ev23, hq⟩ := Option.bind_eq_some_iff.mp hq
            refine jw_iald (o := v22) dX2_appendPut_103 ev23 ?_
            obtain ⟨a24, ea24, hq⟩ := Option.bind_eq_some_iff.mp hq
            obtain ⟨eoa24, eta24⟩ := jw_rc_spec ea24
            obtain ⟨w26, h25, ew26, hq⟩ := jw_b2_spec hq
            refine jw_callV (As := [.int v20, .int v23]) (S := []) (a := a24) (v := none) dX2_appendPut_104 mt_X2_appendRow in_X2_appendRow se_X2_appendRow lk_X2_87 (c_X2_appendRow ew26) eta24 (by decide) rfl rfl (by decide) (Nat.le_of_ble_eq_true rfl) (by cases eoa24; rfl) ?_
            refine jw_forget [true, true, true, false, false] (L' := [some (.ref x0), some (va_rf x1), some (.int (x2 + (1 : Int32))), none, none]) rfl ?_
            exact l_X2_appendPut_b107 hk5 hq
      · refine jw_icmp_ne_t (tgt := 110) dX2_appendPut_52 (by decide) c8 ?_
        refine jw_aload_n dX2_appendPut_110 (o := (some x0)) rfl ?_
        refine jw_iload_n dX2_appendPut_111 rfl ?_
        obtain ⟨a9, ea9, hq⟩ := Option.bind_eq_some_iff.mp hq
        obtain ⟨eoa9, eta9⟩ := jw_rc_spec ea9
        obtain ⟨w11, h10, ew11, hq⟩ := jw_b2_spec hq
        refine jw_callV (As := [.int w6]) (S := []) (a := a9) (v := none) dX2_appendPut_112 mt_X2_append in_X2_append se_X2_append lk_X2_117 (c_X2_append ew11) eta9 (by decide) rfl rfl (by decide) (Nat.le_of_ble_eq_true rfl) (by cases eoa9; rfl) ?_
        refine jw_forget [true, true, true, false, true] (L' := [some (.ref x0), some (va_rf x1), some (.int x2), none, none]) rfl ?_
        exact l_X2_appendPut_b115 hk5 hq

theorem l_X2_appendPut_b5 {hi : jw_H} : ∀ (n : Nat) (h : jw_H) (x0 : Nat) (x1 : Option Nat) (x2 : Int32) (r : Unit) (h' : jw_H), f_X2_appendPut_b5  n h x0 x1 x2 = some (r, h') → jw_E 2 uX2_appendPut hi 5 [some (.ref x0), some (va_rf x1), some (.int x2), none, none] [] h (.inl none) h' := by
  intro n
  induction n with
  | zero => intro h x0 x1 x2 r h' hq; exact nomatch hq
  | succ n ih => intro h x0 x1 x2 r h' hq; exact l_X2_appendPut_b5g ih hq

set_option maxRecDepth 100000 in
set_option maxHeartbeats 4000000 in
theorem l_X2_appendPut {hi : jw_H} {h : jw_H} {x0 : Nat} {x1 : Option Nat} {r : Unit} {h' : jw_H} (hq : f_X2_appendPut  h x0 x1 = some (r, h')) : jw_E 2 uX2_appendPut hi 0 [some (.ref x0), some (va_rf x1), none, none, none] [] h (.inl none) h' := by
  unfold f_X2_appendPut at hq
  refine jw_aload_n dX2_appendPut_0 (o := x1) rfl ?_
  obtain ⟨v1, ev1, hq⟩ := Option.bind_eq_some_iff.mp hq
  refine jw_getI (o := x1) dX2_appendPut_1 ev1 fl_X2_98 rfl ?_
  refine jw_istore_n (L' := [some (.ref x0), some (va_rf x1), some (.int v1), none, none]) dX2_appendPut_4 (Nat.le_of_ble_eq_true rfl) ((jw_st1_of (j := 1) jw_long_rf).trans rfl) ?_
  exact l_X2_appendPut_b5  jw_FU _ _ _ _ _ _ hq

theorem c_X2_appendPut {h : jw_H} {x0 : Nat} {x1 : Option Nat} {r : Unit} {h' : jw_H} (hq : f_X2_appendPut h x0 x1 = some (r, h')) : jw_Con (Cond.code yX2_appendPut cX2_appendPut 5 none) yX2_appendPut 2 [.ref x0, va_rf x1] h (.inl none) h' :=
  jw_con false (plainFor_of_name (by decide +kernel)) (fun z => nomatch z) (by simp [jw_ent, jw_sl0_nil, jw_sl0_int, jw_sl0_long, jw_sl0_ref, jw_sl0_rf, jw_sl0_scr, List.replicate]) (by simp [jw_sl0_nil, jw_sl0_int, jw_sl0_long, jw_sl0_ref, jw_sl0_rf, jw_sl0_scr]) (l_X2_appendPut hq)


/-! X2_replace -/
noncomputable def g_X2_replace_b113 (h : jw_H) (x0 : Nat) (x2 : Int32) : Option (Unit × jw_H) :=
 (jw_gR h 2 (some x0) 1).bind fun v1 =>
 (jw_gI h 4 v1 5).bind fun v2 =>
 (jw_rc h 2 (some x0)).bind fun a3 =>
 jw_b2 (f_X2_appendRow h a3 x2 v2) fun w5 h4 =>
 some ((), h4)

noncomputable def g_X2_replace_b95 (k7 : jw_H → Nat → Option Nat → Int32 → Int32 → Int32 → Option (Unit × jw_H)) (h : jw_H) (x0 : Nat) (x1 : Option Nat) (x2 : Int32) (x3 : Int32) (x4 : Int32) : Option (Unit × jw_H) :=
 (jw_gI h 5 x1 5).bind fun v1 =>
 if v1 = x4 then (g_X2_replace_b113  h x0 x2)
 else (k7 h x0 x1 x2 x3 (x4 + (1 : Int32)))

noncomputable def g_X2_replace_b65 (k7 : jw_H → Nat → Option Nat → Int32 → Int32 → Int32 → Option (Unit × jw_H)) (h : jw_H) (x0 : Nat) (x1 : Option Nat) (x2 : Int32) (x3 : Int32) (x4 : Int32) : Option (Unit × jw_H) :=
 (jw_gR h 2 (some x0) 1).bind fun v1 =>
 (jw_gI h 4 v1 6).bind fun v2 =>
 (jw_rc h 2 (some x0)).bind fun a3 =>
 jw_b2 (f_X2_appendRow h a3 x2 v2) fun w5 h4 =>
 (jw_rc h4 2 (some x0)).bind fun a6 =>
 jw_b2 (f_X2_appendPut h4 a6 x1) fun w8 h7 =>
 (jw_gR h7 2 (some x0) 1).bind fun v9 =>
 (jw_gI h7 4 v9 7).bind fun v10 =>
 (jw_pB h7 2 (some x0) 5 (1 : Int32)).bind fun h11 =>
 g_X2_replace_b95 k7 h11 x0 x1 v10 x3 x4

noncomputable def g_X2_replace_b37 (k7 : jw_H → Nat → Option Nat → Int32 → Int32 → Int32 → Option (Unit × jw_H)) (h : jw_H) (x0 : Nat) (x1 : Option Nat) (x2 : Int32) (x3 : Int32) (x4 : Int32) (t0 : Option Nat) (t1 : Int32) (t2 : Int32) : Option (Unit × jw_H) :=
 (jw_rc h 4 t0).bind fun a1 =>
 jw_b2 (f_X4_search h a1 t1 t2 x3) fun w3 h2 =>
 if w3 = 0 then (g_X2_replace_b113  h2 x0 x2)
 else ((jw_gI h2 5 x1 5).bind fun v5 =>
 if v5 = 0 then (g_X2_replace_b65 k7 h2 x0 x1 x2 (1 : Int32) x4)
 else ((jw_gI h2 5 x1 5).bind fun v7 =>
 if v7 = x4 then (g_X2_replace_b65 k7 h2 x0 x1 x2 (1 : Int32) x4)
 else (g_X2_replace_b95 k7 h2 x0 x1 x2 (1 : Int32) x4)))

noncomputable def g_X2_replace_b7 (k7 : jw_H → Nat → Option Nat → Int32 → Int32 → Int32 → Option (Unit × jw_H)) (h : jw_H) (x0 : Nat) (x1 : Option Nat) (x2 : Int32) (x3 : Int32) (x4 : Int32) : Option (Unit × jw_H) :=
 if (31 : Int32) < x4 then (g_X2_replace_b113  h x0 x2)
 else ((jw_gR h 2 (some x0) 1).bind fun v2 =>
 (jw_gI h 5 x1 6).bind fun v3 =>
 if x3 = 0 then (g_X2_replace_b37 k7 h x0 x1 x2 x3 x4 v2 v3 (0 : Int32))
 else ((jw_gR h 2 (some x0) 1).bind fun v5 =>
 (jw_gI h 4 v5 7).bind fun v6 =>
 g_X2_replace_b37 k7 h x0 x1 x2 x3 x4 v2 v3 v6))

noncomputable def f_X2_replace_b7 (n : Nat) : jw_H → Nat → Option Nat → Int32 → Int32 → Int32 → Option (Unit × jw_H) :=
 Nat.rec (fun _ _ _ _ _ _ => none) (fun _ k7 => g_X2_replace_b7 k7) n

noncomputable def f_X2_replace (h : jw_H) (x0 : Nat) (x1 : Option Nat) : Option (Unit × jw_H) :=
 f_X2_replace_b7  jw_FU h x0 x1 (0 : Int32) (0 : Int32) (1 : Int32)

set_option maxRecDepth 100000 in
set_option maxHeartbeats 4000000 in
theorem l_X2_replace_b113 {hi : jw_H} {h : jw_H} {x0 : Nat} {x2 : Int32} {r : Unit} {h' : jw_H} (hq : g_X2_replace_b113  h x0 x2 = some (r, h')) : jw_E 8 uX2_replace hi 113 [some (.ref x0), none, some (.int x2), none, none] [] h (.inl none) h' := by
  unfold g_X2_replace_b113 at hq
  refine jw_aload_n dX2_replace_113 (o := (some x0)) rfl ?_
  refine jw_iload_n dX2_replace_114 rfl ?_
  refine jw_aload_n dX2_replace_115 (o := (some x0)) rfl ?_
  obtain ⟨v1, ev1, hq⟩ := Option.bind_eq_some_iff.mp hq
  refine jw_getR (o := (some x0)) dX2_replace_116 ev1 fl_X2_15 rfl ?_
  obtain ⟨v2, ev2, hq⟩ := Option.bind_eq_some_iff.mp hq
  refine jw_getI (o := v1) dX2_replace_119 ev2 fl_X2_97 rfl ?_
  obtain ⟨a3, ea3, hq⟩ := Option.bind_eq_some_iff.mp hq
  obtain ⟨eoa3, eta3⟩ := jw_rc_spec ea3
  obtain ⟨w5, h4, ew5, hq⟩ := jw_b2_spec hq
  refine jw_callV (As := [.int x2, .int v2]) (S := []) (a := a3) (v := none) dX2_replace_122 mt_X2_appendRow in_X2_appendRow se_X2_appendRow lk_X2_87 (c_X2_appendRow ew5) eta3 (by decide) rfl rfl (by decide) (Nat.le_of_ble_eq_true rfl) (by cases eoa3; rfl) ?_
  cases hq
  exact jw_vret dX2_replace_125 rfl

set_option maxRecDepth 100000 in
set_option maxHeartbeats 4000000 in
theorem l_X2_replace_b95 {hi : jw_H} {k7 : jw_H → Nat → Option Nat → Int32 → Int32 → Int32 → Option (Unit × jw_H)} (hk7 : ∀ (h : jw_H) (x0 : Nat) (x1 : Option Nat) (x2 : Int32) (x3 : Int32) (x4 : Int32) (r : Unit) (h' : jw_H), k7 h x0 x1 x2 x3 x4 = some (r, h') → jw_E 8 uX2_replace hi 7 [some (.ref x0), some (va_rf x1), some (.int x2), some (.int x3), some (.int x4)] [] h (.inl none) h') {h : jw_H} {x0 : Nat} {x1 : Option Nat} {x2 : Int32} {x3 : Int32} {x4 : Int32} {r : Unit} {h' : jw_H} (hq : g_X2_replace_b95 k7 h x0 x1 x2 x3 x4 = some (r, h')) : jw_E 8 uX2_replace hi 95 [some (.ref x0), some (va_rf x1), some (.int x2), some (.int x3), some (.int x4)] [] h (.inl none) h' := by
  unfold g_X2_replace_b95 at hq
  refine jw_aload_n dX2_replace_95 (o := x1) rfl ?_
  obtain ⟨v1, ev1, hq⟩ := Option.bind_eq_some_iff.mp hq
  refine jw_getI (o := x1) dX2_replace_96 ev1 fl_X2_49 rfl ?_
  refine jw_iload dX2_replace_99 rfl ?_
  rcases jw_if hq with ⟨c2, hq⟩ | ⟨c2, hq⟩
  · refine jw_icmp_ne_f (tgt := 107) dX2_replace_101 (by decide) c2 ?_
    refine jw_goto (tgt := 113) dX2_replace_104 (by decide) ?_
    refine jw_forget [true, false, true, false, false] (L' := [some (.ref x0), none, some (.int x2), none, none]) rfl ?_
    exact l_X2_replace_b113  hq
  · refine jw_icmp_ne_t (tgt := 107) dX2_replace_101 (by decide) c2 ?_
    refine jw_iinc (L' := [some (.ref x0), some (va_rf x1), some (.int x2), some (.int x3), some (.int (x4 + (1 : Int32)))]) dX2_replace_107 rfl (v := (1 : Int32)) (by decide) (Nat.le_of_ble_eq_true rfl) rfl ?_
    refine jw_goto (tgt := 7) dX2_replace_110 (by decide) ?_
    exact hk7 _ _ _ _ _ _ _ _ hq

set_option maxRecDepth 100000 in
set_option maxHeartbeats 4000000 in
theorem l_X2_replace_b65 {hi : jw_H} {k7 : jw_H → Nat → Option Nat → Int32 → Int32 → Int32 → Option (Unit × jw_H)} (hk7 : ∀ (h : jw_H) (x0 : Nat) (x1 : Option Nat) (x2 : Int32) (x3 : Int32) (x4 : Int32) (r : Unit) (h' : jw_H), k7 h x0 x1 x2 x3 x4 = some (r, h') → jw_E 8 uX2_replace hi 7 [some (.ref x0), some (va_rf x1), some (.int x2), some (.int x3), some (.int x4)] [] h (.inl none) h') {h : jw_H} {x0 : Nat} {x1 : Option Nat} {x2 : Int32} {x3 : Int32} {x4 : Int32} {r : Unit} {h' : jw_H} (hq : g_X2_replace_b65 k7 h x0 x1 x2 x3 x4 = some (r, h')) : jw_E 8 uX2_replace hi 65 [some (.ref x0), some (va_rf x1), some (.int x2), some (.int x3), some (.int x4)] [] h (.inl none) h' := by
  unfold g_X2_replace_b65 at hq
  refine jw_aload_n dX2_replace_65 (o := (some x0)) rfl ?_
  refine jw_iload_n dX2_replace_66 rfl ?_
  refine jw_aload_n dX2_replace_67 (o := (some x0)) rfl ?_
  obtain ⟨v1, ev1, hq⟩ := Option.bind_eq_some_iff.mp hq
  refine jw_getR (o := (some x0)) dX2_replace_68 ev1 fl_X2_15 rfl ?_
  obtain ⟨v2, ev2, hq⟩ := Option.bind_eq_some_iff.mp hq
  refine jw_getI (o := v1) dX2_replace_71 ev2 fl_X2_84 rfl ?_
  obtain ⟨a3, ea3, hq⟩ := Option.bind_eq_some_iff.mp hq
  obtain ⟨eoa3, eta3⟩ := jw_rc_spec ea3
  obtain ⟨w5, h4, ew5, hq⟩ := jw_b2_spec hq
  refine jw_callV (As := [.int x2, .int v2]) (S := []) (a := a3) (v := none) dX2_replace_74 mt_X2_appendRow in_X2_appendRow se_X2_appendRow lk_X2_87 (c_X2_appendRow ew5) eta3 (by decide) rfl rfl (by decide) (Nat.le_of_ble_eq_true rfl) (by cases eoa3; rfl) ?_
  refine jw_aload_n dX2_replace_77 (o := (some x0)) rfl ?_
  refine jw_aload_n dX2_replace_78 (o := x1) rfl ?_
  obtain ⟨a6, ea6, hq⟩ := Option.bind_eq_some_iff.mp hq
  obtain ⟨eoa6, eta6⟩ := jw_rc_spec ea6
  obtain ⟨w8, h7, ew8, hq⟩ := jw_b2_spec hq
  refine jw_callV (As := [va_rf x1]) (S := []) (a := a6) (v := none) dX2_replace_79 mt_X2_appendPut in_X2_appendPut se_X2_appendPut lk_X2_91 (c_X2_appendPut ew8) eta6 (by decide) rfl rfl (by decide) (Nat.le_of_ble_eq_true rfl) (by cases eoa6; rfl) ?_
  refine jw_aload_n dX2_replace_82 (o := (some x0)) rfl ?_
  obtain ⟨v9, ev9, hq⟩ := Option.bind_eq_some_iff.mp hq
  refine jw_getR (o := (some x0)) dX2_replace_83 ev9 fl_X2_15 rfl ?_
  obtain ⟨v10, ev10, hq⟩ := Option.bind_eq_some_iff.mp hq
  refine jw_getI (o := v9) dX2_replace_86 ev10 fl_X2_77 rfl ?_
  refine jw_istore_n (L' := [some (.ref x0), some (va_rf x1), some (.int v10), some (.int x3), some (.int x4)]) dX2_replace_89 (Nat.le_of_ble_eq_true rfl) ((jw_st1_of (j := 1) jw_long_rf).trans rfl) ?_
  refine jw_aload_n dX2_replace_90 (o := (some x0)) rfl ?_
  refine jw_iconst dX2_replace_91 (v := (1 : Int32)) (by decide) ?_
  obtain ⟨h11, eh11, hq⟩ := Option.bind_eq_some_iff.mp hq
  refine jw_putB (o := (some x0)) dX2_replace_92 eh11 fl_X2_94 rfl rfl ?_
  exact l_X2_replace_b95 hk7 hq

set_option maxRecDepth 100000 in
set_option maxHeartbeats 4000000 in
theorem l_X2_replace_b37 {hi : jw_H} {k7 : jw_H → Nat → Option Nat → Int32 → Int32 → Int32 → Option (Unit × jw_H)} (hk7 : ∀ (h : jw_H) (x0 : Nat) (x1 : Option Nat) (x2 : Int32) (x3 : Int32) (x4 : Int32) (r : Unit) (h' : jw_H), k7 h x0 x1 x2 x3 x4 = some (r, h') → jw_E 8 uX2_replace hi 7 [some (.ref x0), some (va_rf x1), some (.int x2), some (.int x3), some (.int x4)] [] h (.inl none) h') {h : jw_H} {x0 : Nat} {x1 : Option Nat} {x2 : Int32} {x3 : Int32} {x4 : Int32} {t0 : Option Nat} {t1 : Int32} {t2 : Int32} {r : Unit} {h' : jw_H} (hq : g_X2_replace_b37 k7 h x0 x1 x2 x3 x4 t0 t1 t2 = some (r, h')) : jw_E 8 uX2_replace hi 37 [some (.ref x0), some (va_rf x1), some (.int x2), some (.int x3), some (.int x4)] [.int t2, .int t1, va_rf t0] h (.inl none) h' := by
  unfold g_X2_replace_b37 at hq
  refine jw_iload_n dX2_replace_37 rfl ?_
  obtain ⟨a1, ea1, hq⟩ := Option.bind_eq_some_iff.mp hq
  obtain ⟨eoa1, eta1⟩ := jw_rc_spec ea1
  obtain ⟨w3, h2, ew3, hq⟩ := jw_b2_spec hq
  refine jw_callV (As := [.int t1, .int t2, .int x3]) (S := []) (a := a1) (v := some (.int w3)) dX2_replace_38 mt_X4_search in_X4_search se_X4_search lk_X2_80 (c_X4_search ew3) eta1 (by decide) rfl rfl (by decide) (Nat.le_of_ble_eq_true rfl) (by cases eoa1; rfl) ?_
  rcases jw_if hq with ⟨c4, hq⟩ | ⟨c4, hq⟩
  · refine jw_if_ne_f (tgt := 47) dX2_replace_41 (by decide) c4 ?_
    refine jw_goto (tgt := 113) dX2_replace_44 (by decide) ?_
    refine jw_forget [true, false, true, false, false] (L' := [some (.ref x0), none, some (.int x2), none, none]) rfl ?_
    exact l_X2_replace_b113  hq
  · refine jw_if_ne_t (tgt := 47) dX2_replace_41 (by decide) c4 ?_
    refine jw_iconst dX2_replace_47 (v := (1 : Int32)) (by decide) ?_
    refine jw_istore_n (L' := [some (.ref x0), some (va_rf x1), some (.int x2), some (.int (1 : Int32)), some (.int x4)]) dX2_replace_48 (Nat.le_of_ble_eq_true rfl) rfl ?_
    refine jw_aload_n dX2_replace_49 (o := x1) rfl ?_
    obtain ⟨v5, ev5, hq⟩ := Option.bind_eq_some_iff.mp hq
    refine jw_getI (o := x1) dX2_replace_50 ev5 fl_X2_49 rfl ?_
    rcases jw_if hq with ⟨c6, hq⟩ | ⟨c6, hq⟩
    · refine jw_if_eq_t (tgt := 65) dX2_replace_53 (by decide) c6 ?_
      exact l_X2_replace_b65 hk7 hq
    · refine jw_if_eq_f (tgt := 65) dX2_replace_53 (by decide) c6 ?_
      refine jw_aload_n dX2_replace_56 (o := x1) rfl ?_
      obtain ⟨v7, ev7, hq⟩ := Option.bind_eq_some_iff.mp hq
      refine jw_getI (o := x1) dX2_replace_57 ev7 fl_X2_49 rfl ?_
      refine jw_iload dX2_replace_60 rfl ?_
      rcases jw_if hq with ⟨c8, hq⟩ | ⟨c8, hq⟩
      · refine jw_icmp_ne_f (tgt := 95) dX2_replace_62 (by decide) c8 ?_
        exact l_X2_replace_b65 hk7 hq
      · refine jw_icmp_ne_t (tgt := 95) dX2_replace_62 (by decide) c8 ?_
        exact l_X2_replace_b95 hk7 hq

set_option maxRecDepth 100000 in
set_option maxHeartbeats 4000000 in
theorem l_X2_replace_b7g {hi : jw_H} {k7 : jw_H → Nat → Option Nat → Int32 → Int32 → Int32 → Option (Unit × jw_H)} (hk7 : ∀ (h : jw_H) (x0 : Nat) (x1 : Option Nat) (x2 : Int32) (x3 : Int32) (x4 : Int32) (r : Unit) (h' : jw_H), k7 h x0 x1 x2 x3 x4 = some (r, h') → jw_E 8 uX2_replace hi 7 [some (.ref x0), some (va_rf x1), some (.int x2), some (.int x3), some (.int x4)] [] h (.inl none) h') {h : jw_H} {x0 : Nat} {x1 : Option Nat} {x2 : Int32} {x3 : Int32} {x4 : Int32} {r : Unit} {h' : jw_H} (hq : g_X2_replace_b7 k7 h x0 x1 x2 x3 x4 = some (r, h')) : jw_E 8 uX2_replace hi 7 [some (.ref x0), some (va_rf x1), some (.int x2), some (.int x3), some (.int x4)] [] h (.inl none) h' := by
  unfold g_X2_replace_b7 at hq
  refine jw_iload dX2_replace_7 rfl ?_
  refine jw_bipush dX2_replace_9 (v := (31 : Int32)) (by decide) ?_
  rcases jw_if hq with ⟨c1, hq⟩ | ⟨c1, hq⟩
  · refine jw_icmp_gt_t (tgt := 113) dX2_replace_11 (by decide) c1 ?_
    refine jw_forget [true, false, true, false, false] (L' := [some (.ref x0), none, some (.int x2), none, none]) rfl ?_
    exact l_X2_replace_b113  hq
  · refine jw_icmp_gt_f (tgt := 113) dX2_replace_11 (by decide) c1 ?_
    refine jw_aload_n dX2_replace_14 (o := (some x0)) rfl ?_
    obtain ⟨v2, ev2, hq⟩ := Option.bind_eq_some_iff.mp hq
    refine jw_getR (o := (some x0)) dX2_replace_15 ev2 fl_X2_15 rfl ?_
    refine jw_aload_n dX2_replace_18 (o := x1) rfl ?_
    obtain ⟨v3, ev3, hq⟩ := Option.bind_eq_some_iff.mp hq
    refine jw_getI (o := x1) dX2_replace_19 ev3 fl_X2_74 rfl ?_
    refine jw_iload_n dX2_replace_22 rfl ?_
    rcases jw_if hq with ⟨c4, hq⟩ | ⟨c4, hq⟩
    · refine jw_if_eq_t (tgt := 36) dX2_replace_23 (by decide) c4 ?_
      refine jw_iconst dX2_replace_36 (v := (0 : Int32)) (by decide) ?_
      exact l_X2_replace_b37 hk7 hq
    · refine jw_if_eq_f (tgt := 36) dX2_replace_23 (by decide) c4 ?_
      refine jw_aload_n dX2_replace_26 (o := (some x0)) rfl ?_
      obtain ⟨v5, ev5, hq⟩ := Option.bind_eq_some_iff.mp hq
      refine jw_getR (o := (some x0)) dX2_replace_27 ev5 fl_X2_15 rfl ?_
      obtain ⟨v6, ev6, hq⟩ := Option.bind_eq_some_iff.mp hq
      refine jw_getI (o := v5) dX2_replace_30 ev6 fl_X2_77 rfl ?_
      refine jw_goto (tgt := 37) dX2_replace_33 (by decide) ?_
      exact l_X2_replace_b37 hk7 hq

theorem l_X2_replace_b7 {hi : jw_H} : ∀ (n : Nat) (h : jw_H) (x0 : Nat) (x1 : Option Nat) (x2 : Int32) (x3 : Int32) (x4 : Int32) (r : Unit) (h' : jw_H), f_X2_replace_b7  n h x0 x1 x2 x3 x4 = some (r, h') → jw_E 8 uX2_replace hi 7 [some (.ref x0), some (va_rf x1), some (.int x2), some (.int x3), some (.int x4)] [] h (.inl none) h' := by
  intro n
  induction n with
  | zero => intro h x0 x1 x2 x3 x4 r h' hq; exact nomatch hq
  | succ n ih => intro h x0 x1 x2 x3 x4 r h' hq; exact l_X2_replace_b7g ih hq

set_option maxRecDepth 100000 in
set_option maxHeartbeats 4000000 in
theorem l_X2_replace {hi : jw_H} {h : jw_H} {x0 : Nat} {x1 : Option Nat} {r : Unit} {h' : jw_H} (hq : f_X2_replace  h x0 x1 = some (r, h')) : jw_E 8 uX2_replace hi 0 [some (.ref x0), some (va_rf x1), none, none, none] [] h (.inl none) h' := by
  unfold f_X2_replace at hq
  refine jw_iconst dX2_replace_0 (v := (0 : Int32)) (by decide) ?_
  refine jw_istore_n (L' := [some (.ref x0), some (va_rf x1), some (.int (0 : Int32)), none, none]) dX2_replace_1 (Nat.le_of_ble_eq_true rfl) ((jw_st1_of (j := 1) jw_long_rf).trans rfl) ?_
  refine jw_iconst dX2_replace_2 (v := (0 : Int32)) (by decide) ?_
  refine jw_istore_n (L' := [some (.ref x0), some (va_rf x1), some (.int (0 : Int32)), some (.int (0 : Int32)), none]) dX2_replace_3 (Nat.le_of_ble_eq_true rfl) rfl ?_
  refine jw_iconst dX2_replace_4 (v := (1 : Int32)) (by decide) ?_
  refine jw_istore (L' := [some (.ref x0), some (va_rf x1), some (.int (0 : Int32)), some (.int (0 : Int32)), some (.int (1 : Int32))]) dX2_replace_5 (Nat.le_of_ble_eq_true rfl) rfl ?_
  exact l_X2_replace_b7  jw_FU _ _ _ _ _ _ _ _ hq

theorem c_X2_replace {h : jw_H} {x0 : Nat} {x1 : Option Nat} {r : Unit} {h' : jw_H} (hq : f_X2_replace h x0 x1 = some (r, h')) : jw_Con (Cond.code yX2_replace cX2_replace 5 none) yX2_replace 8 [.ref x0, va_rf x1] h (.inl none) h' :=
  jw_con false (plainFor_of_name (by decide +kernel)) (fun z => nomatch z) (by simp [jw_ent, jw_sl0_nil, jw_sl0_int, jw_sl0_long, jw_sl0_ref, jw_sl0_rf, jw_sl0_scr, List.replicate]) (by simp [jw_sl0_nil, jw_sl0_int, jw_sl0_long, jw_sl0_ref, jw_sl0_rf, jw_sl0_scr]) (l_X2_replace hq)


/-! X2_turn -/
noncomputable def g_X2_turn_b85 (k46 : jw_H → Nat → Option Nat → Int32 → Int32 → Int32 → Int32 → Option (Unit × jw_H)) (h : jw_H) (x0 : Nat) (x1 : Option Nat) (x2 : Int32) (x3 : Int32) (x4 : Int32) (x5 : Int32) : Option (Unit × jw_H) :=
 k46 h x0 x1 x2 x3 x4 (x5 + (-1 : Int32))

noncomputable def g_X2_turn_b46 (k2 : jw_H → Nat → Option Nat → Int32 → Option (Unit × jw_H)) (k46 : jw_H → Nat → Option Nat → Int32 → Int32 → Int32 → Int32 → Option (Unit × jw_H)) (h : jw_H) (x0 : Nat) (x1 : Option Nat) (x2 : Int32) (x3 : Int32) (x4 : Int32) (x5 : Int32) : Option (Unit × jw_H) :=
 if x5 < 0 then ((jw_rc h 2 (some x0)).bind fun a2 =>
 jw_b2 (f_X2_append h a2 x4) fun w4 h3 =>
 k2 h3 x0 x1 (x2 + (1 : Int32)))
 else ((jw_gR h 2 (some x0) 0).bind fun v5 =>
 (jw_gI h 5 x1 7).bind fun v6 =>
 (jw_rc h 6 v5).bind fun a7 =>
 jw_b2 (f_X6_signAt h a7 (v6 + x5)) fun w9 h8 =>
 if w9 = x3 then ((jw_gR h8 2 (some x0) 0).bind fun v11 =>
 (jw_gI h8 5 x1 8).bind fun v12 =>
 (jw_rc h8 6 v11).bind fun a13 =>
 jw_b2 (f_X6_signAt h8 a13 (v12 + x5)) fun w15 h14 =>
 g_X2_turn_b85 k46 h14 x0 x1 x2 x3 w15 x5)
 else (g_X2_turn_b85 k46 h8 x0 x1 x2 x3 x4 x5))

noncomputable def f_X2_turn_b46 (k2 : jw_H → Nat → Option Nat → Int32 → Option (Unit × jw_H)) (n : Nat) : jw_H → Nat → Option Nat → Int32 → Int32 → Int32 → Int32 → Option (Unit × jw_H) :=
 Nat.rec (fun _ _ _ _ _ _ _ => none) (fun _ k46 => g_X2_turn_b46 k2 k46) n

noncomputable def g_X2_turn_b2 (k2 : jw_H → Nat → Option Nat → Int32 → Option (Unit × jw_H)) (h : jw_H) (x0 : Nat) (x1 : Option Nat) (x2 : Int32) : Option (Unit × jw_H) :=
 (jw_gR h 2 (some x0) 1).bind fun v1 =>
 (jw_gI h 4 v1 5).bind fun v2 =>
 if v2 ≤ x2 then (some ((), h))
 else ((jw_gR h 2 (some x0) 1).bind fun v4 =>
 (jw_gR h 4 v4 1).bind fun v5 =>
 (jw_ln h v5).bind fun v6 =>
 if v6 ≤ x2 then (some ((), h))
 else ((jw_gR h 2 (some x0) 1).bind fun v8 =>
 (jw_gR h 4 v8 1).bind fun v9 =>
 (jw_ai h 21 v9 x2).bind fun v10 =>
 (jw_gI h 5 x1 5).bind fun v11 =>
 f_X2_turn_b46 k2 jw_FU h x0 x1 x2 v10 v10 (v11 - (1 : Int32))))

noncomputable def f_X2_turn_b2 (n : Nat) : jw_H → Nat → Option Nat → Int32 → Option (Unit × jw_H) :=
 Nat.rec (fun _ _ _ _ => none) (fun _ k2 => g_X2_turn_b2 k2) n

noncomputable def f_X2_turn (h : jw_H) (x0 : Nat) (x1 : Option Nat) : Option (Unit × jw_H) :=
 f_X2_turn_b2  jw_FU h x0 x1 (0 : Int32)

set_option maxRecDepth 100000 in
set_option maxHeartbeats 4000000 in
theorem l_X2_turn_b85 {hi : jw_H} {k46 : jw_H → Nat → Option Nat → Int32 → Int32 → Int32 → Int32 → Option (Unit × jw_H)} (hk46 : ∀ (h : jw_H) (x0 : Nat) (x1 : Option Nat) (x2 : Int32) (x3 : Int32) (x4 : Int32) (x5 : Int32) (r : Unit) (h' : jw_H), k46 h x0 x1 x2 x3 x4 x5 = some (r, h') → jw_E 1 uX2_turn hi 46 [some (.ref x0), some (va_rf x1), some (.int x2), some (.int x3), some (.int x4), some (.int x5)] [] h (.inl none) h') {h : jw_H} {x0 : Nat} {x1 : Option Nat} {x2 : Int32} {x3 : Int32} {x4 : Int32} {x5 : Int32} {r : Unit} {h' : jw_H} (hq : g_X2_turn_b85 k46 h x0 x1 x2 x3 x4 x5 = some (r, h')) : jw_E 1 uX2_turn hi 85 [some (.ref x0), some (va_rf x1), some (.int x2), some (.int x3), some (.int x4), some (.int x5)] [] h (.inl none) h' := by
  unfold g_X2_turn_b85 at hq
  refine jw_iinc (L' := [some (.ref x0), some (va_rf x1), some (.int x2), some (.int x3), some (.int x4), some (.int (x5 + (-1 : Int32)))]) dX2_turn_85 rfl (v := (-1 : Int32)) (by decide) (Nat.le_of_ble_eq_true rfl) rfl ?_
  refine jw_goto (tgt := 46) dX2_turn_88 (by decide) ?_
  exact hk46 _ _ _ _ _ _ _ _ _ hq

set_option maxRecDepth 100000 in
set_option maxHeartbeats 4000000 in
theorem l_X2_turn_b46g {hi : jw_H} {k2 : jw_H → Nat → Option Nat → Int32 → Option (Unit × jw_H)} (hk2 : ∀ (h : jw_H) (x0 : Nat) (x1 : Option Nat) (x2 : Int32) (r : Unit) (h' : jw_H), k2 h x0 x1 x2 = some (r, h') → jw_E 1 uX2_turn hi 2 [some (.ref x0), some (va_rf x1), some (.int x2), none, none, none] [] h (.inl none) h') {k46 : jw_H → Nat → Option Nat → Int32 → Int32 → Int32 → Int32 → Option (Unit × jw_H)} (hk46 : ∀ (h : jw_H) (x0 : Nat) (x1 : Option Nat) (x2 : Int32) (x3 : Int32) (x4 : Int32) (x5 : Int32) (r : Unit) (h' : jw_H), k46 h x0 x1 x2 x3 x4 x5 = some (r, h') → jw_E 1 uX2_turn hi 46 [some (.ref x0), some (va_rf x1), some (.int x2), some (.int x3), some (.int x4), some (.int x5)] [] h (.inl none) h') {h : jw_H} {x0 : Nat} {x1 : Option Nat} {x2 : Int32} {x3 : Int32} {x4 : Int32} {x5 : Int32} {r : Unit} {h' : jw_H} (hq : g_X2_turn_b46 k2 k46 h x0 x1 x2 x3 x4 x5 = some (r, h')) : jw_E 1 uX2_turn hi 46 [some (.ref x0), some (va_rf x1), some (.int x2), some (.int x3), some (.int x4), some (.int x5)] [] h (.inl none) h' := by
  unfold g_X2_turn_b46 at hq
  refine jw_iload dX2_turn_46 rfl ?_
  rcases jw_if hq with ⟨c1, hq⟩ | ⟨c1, hq⟩
  · refine jw_if_lt_t (tgt := 91) dX2_turn_48 (by decide) c1 ?_
    refine jw_aload_n dX2_turn_91 (o := (some x0)) rfl ?_
    refine jw_iload dX2_turn_92 rfl ?_
    obtain ⟨a2, ea2, hq⟩ := Option.bind_eq_some_iff.mp hq
    obtain ⟨eoa2, eta2⟩ := jw_rc_spec ea2
    obtain ⟨w4, h3, ew4, hq⟩ := jw_b2_spec hq
    refine jw_callV (As := [.int x4]) (S := []) (a := a2) (v := none) dX2_turn_94 mt_X2_append in_X2_append se_X2_append lk_X2_117 (c_X2_append ew4) eta2 (by decide) rfl rfl (by decide) (Nat.le_of_ble_eq_true rfl) (by cases eoa2; rfl) ?_
    refine jw_iinc (L' := [some (.ref x0), some (va_rf x1), some (.int (x2 + (1 : Int32))), some (.int x3), some (.int x4), some (.int x5)]) dX2_turn_97 rfl (v := (1 : Int32)) (by decide) (Nat.le_of_ble_eq_true rfl) ((jw_st1_of (j := 1) jw_long_rf).trans rfl) ?_
    refine jw_goto (tgt := 2) dX2_turn_100 (by decide) ?_
    refine jw_forget [true, true, true, false, false, false] (L' := [some (.ref x0), some (va_rf x1), some (.int (x2 + (1 : Int32))), none, none, none]) rfl ?_
    exact hk2 _ _ _ _ _ _ hq
  · refine jw_if_lt_f (tgt := 91) dX2_turn_48 (by decide) c1 ?_
    refine jw_aload_n dX2_turn_51 (o := (some x0)) rfl ?_
    obtain ⟨v5, ev5, hq⟩ := Option.bind_eq_some_iff.mp hq
    refine jw_getR (o := (some x0)) dX2_turn_52 ev5 fl_X2_9 rfl ?_
    refine jw_aload_n dX2_turn_55 (o := x1) rfl ?_
    obtain ⟨v6, ev6, hq⟩ := Option.bind_eq_some_iff.mp hq
    refine jw_getI (o := x1) dX2_turn_56 ev6 fl_X2_98 rfl ?_
    refine jw_iload dX2_turn_59 rfl ?_
    refine jw_iadd dX2_turn_61 ?_
    obtain ⟨a7, ea7, hq⟩ := Option.bind_eq_some_iff.mp hq
    obtain ⟨eoa7, eta7⟩ := jw_rc_spec ea7
    obtain ⟨w9, h8, ew9, hq⟩ := jw_b2_spec hq
    refine jw_callV (As := [.int (v6 + x5)]) (S := []) (a := a7) (v := some (.int w9)) dX2_turn_62 mt_X6_signAt in_X6_signAt se_X6_signAt lk_X2_104 (c_X6_signAt ew9) eta7 (by decide) rfl rfl (by decide) (Nat.le_of_ble_eq_true rfl) (by cases eoa7; rfl) ?_
    refine jw_iload_n dX2_turn_65 rfl ?_
    rcases jw_if hq with ⟨c10, hq⟩ | ⟨c10, hq⟩
    · refine jw_icmp_ne_f (tgt := 85) dX2_turn_66 (by decide) c10 ?_
      refine jw_aload_n dX2_turn_69 (o := (some x0)) rfl ?_
      obtain ⟨v11, ev11, hq⟩ := Option.bind_eq_some_iff.mp hq
      refine jw_getR (o := (some x0)) dX2_turn_70 ev11 fl_X2_9 rfl ?_
      refine jw_aload_n dX2_turn_73 (o := x1) rfl ?_
      obtain ⟨v12, ev12, hq⟩ := Option.bind_eq_some_iff.mp hq
      refine jw_getI (o := x1) dX2_turn_74 ev12 fl_X2_101 rfl ?_
      refine jw_iload dX2_turn_77 rfl ?_
      refine jw_iadd dX2_turn_79 ?_
      obtain ⟨a13, ea13, hq⟩ := Option.bind_eq_some_iff.mp hq
      obtain ⟨eoa13, eta13⟩ := jw_rc_spec ea13
      obtain ⟨w15, h14, ew15, hq⟩ := jw_b2_spec hq
      refine jw_callV (As := [.int (v12 + x5)]) (S := []) (a := a13) (v := some (.int w15)) dX2_turn_80 mt_X6_signAt in_X6_signAt se_X6_signAt lk_X2_104 (c_X6_signAt ew15) eta13 (by decide) rfl rfl (by decide) (Nat.le_of_ble_eq_true rfl) (by cases eoa13; rfl) ?_
      refine jw_istore (L' := [some (.ref x0), some (va_rf x1), some (.int x2), some (.int x3), some (.int w15), some (.int x5)]) dX2_turn_83 (Nat.le_of_ble_eq_true rfl) rfl ?_
      exact l_X2_turn_b85 hk46 hq
    · refine jw_icmp_ne_t (tgt := 85) dX2_turn_66 (by decide) c10 ?_
      exact l_X2_turn_b85 hk46 hq

theorem l_X2_turn_b46 {hi : jw_H} {k2 : jw_H → Nat → Option Nat → Int32 → Option (Unit × jw_H)} (hk2 : ∀ (h : jw_H) (x0 : Nat) (x1 : Option Nat) (x2 : Int32) (r : Unit) (h' : jw_H), k2 h x0 x1 x2 = some (r, h') → jw_E 1 uX2_turn hi 2 [some (.ref x0), some (va_rf x1), some (.int x2), none, none, none] [] h (.inl none) h') : ∀ (n : Nat) (h : jw_H) (x0 : Nat) (x1 : Option Nat) (x2 : Int32) (x3 : Int32) (x4 : Int32) (x5 : Int32) (r : Unit) (h' : jw_H), f_X2_turn_b46 k2 n h x0 x1 x2 x3 x4 x5 = some (r, h') → jw_E 1 uX2_turn hi 46 [some (.ref x0), some (va_rf x1), some (.int x2), some (.int x3), some (.int x4), some (.int x5)] [] h (.inl none) h' := by
  intro n
  induction n with
  | zero => intro h x0 x1 x2 x3 x4 x5 r h' hq; exact nomatch hq
  | succ n ih => intro h x0 x1 x2 x3 x4 x5 r h' hq; exact l_X2_turn_b46g hk2 ih hq

set_option maxRecDepth 100000 in
set_option maxHeartbeats 4000000 in
theorem l_X2_turn_b2g {hi : jw_H} {k2 : jw_H → Nat → Option Nat → Int32 → Option (Unit × jw_H)} (hk2 : ∀ (h : jw_H) (x0 : Nat) (x1 : Option Nat) (x2 : Int32) (r : Unit) (h' : jw_H), k2 h x0 x1 x2 = some (r, h') → jw_E 1 uX2_turn hi 2 [some (.ref x0), some (va_rf x1), some (.int x2), none, none, none] [] h (.inl none) h') {h : jw_H} {x0 : Nat} {x1 : Option Nat} {x2 : Int32} {r : Unit} {h' : jw_H} (hq : g_X2_turn_b2 k2 h x0 x1 x2 = some (r, h')) : jw_E 1 uX2_turn hi 2 [some (.ref x0), some (va_rf x1), some (.int x2), none, none, none] [] h (.inl none) h' := by
  unfold g_X2_turn_b2 at hq
  refine jw_iload_n dX2_turn_2 rfl ?_
  refine jw_aload_n dX2_turn_3 (o := (some x0)) rfl ?_
  obtain ⟨v1, ev1, hq⟩ := Option.bind_eq_some_iff.mp hq
  refine jw_getR (o := (some x0)) dX2_turn_4 ev1 fl_X2_15 rfl ?_
  obtain ⟨v2, ev2, hq⟩ := Option.bind_eq_some_iff.mp hq
  refine jw_getI (o := v1) dX2_turn_7 ev2 fl_X2_97 rfl ?_
  rcases jw_if hq with ⟨c3, hq⟩ | ⟨c3, hq⟩
  · refine jw_icmp_ge_t (tgt := 103) dX2_turn_10 (by decide) c3 ?_
    cases hq
    exact jw_vret dX2_turn_103 rfl
  · refine jw_icmp_ge_f (tgt := 103) dX2_turn_10 (by decide) c3 ?_
    refine jw_iload_n dX2_turn_13 rfl ?_
    refine jw_aload_n dX2_turn_14 (o := (some x0)) rfl ?_
    obtain ⟨v4, ev4, hq⟩ := Option.bind_eq_some_iff.mp hq
    refine jw_getR (o := (some x0)) dX2_turn_15 ev4 fl_X2_15 rfl ?_
    obtain ⟨v5, ev5, hq⟩ := Option.bind_eq_some_iff.mp hq
    refine jw_getR (o := v4) dX2_turn_18 ev5 fl_X2_65 rfl ?_
    obtain ⟨v6, ev6, hq⟩ := Option.bind_eq_some_iff.mp hq
    refine jw_alen (o := v5) dX2_turn_21 ev6 ?_
    rcases jw_if hq with ⟨c7, hq⟩ | ⟨c7, hq⟩
    · refine jw_icmp_ge_t (tgt := 103) dX2_turn_22 (by decide) c7 ?_
      cases hq
      exact jw_vret dX2_turn_103 rfl
    · refine jw_icmp_ge_f (tgt := 103) dX2_turn_22 (by decide) c7 ?_
      refine jw_aload_n dX2_turn_25 (o := (some x0)) rfl ?_
      obtain ⟨v8, ev8, hq⟩ := Option.bind_eq_some_iff.mp hq
      refine jw_getR (o := (some x0)) dX2_turn_26 ev8 fl_X2_15 rfl ?_
      obtain ⟨v9, ev9, hq⟩ := Option.bind_eq_some_iff.mp hq
      refine jw_getR (o := v8) dX2_turn_29 ev9 fl_X2_65 rfl ?_
      refine jw_iload_n dX2_turn_32 rfl ?_
      obtain ⟨v10, ev10, hq⟩ := Option.bind_eq_some_iff.mp hq
      refine jw_bald (o := v9) dX2_turn_33 ev10 ?_
      refine jw_istore_n (L' := [some (.ref x0), some (va_rf x1), some (.int x2), some (.int v10), none, none]) dX2_turn_34 (Nat.le_of_ble_eq_true rfl) rfl ?_
      refine jw_iload_n dX2_turn_35 rfl ?_
      refine jw_istore (L' := [some (.ref x0), some (va_rf x1), some (.int x2), some (.int v10), some (.int v10), none]) dX2_turn_36 (Nat.le_of_ble_eq_true rfl) rfl ?_
      refine jw_aload_n dX2_turn_38 (o := x1) rfl ?_
      obtain ⟨v11, ev11, hq⟩ := Option.bind_eq_some_iff.mp hq
      refine jw_getI (o := x1) dX2_turn_39 ev11 fl_X2_49 rfl ?_
      refine jw_iconst dX2_turn_42 (v := (1 : Int32)) (by decide) ?_
      refine jw_isub dX2_turn_43 ?_
      refine jw_istore (L' := [some (.ref x0), some (va_rf x1), some (.int x2), some (.int v10), some (.int v10), some (.int (v11 - (1 : Int32)))]) dX2_turn_44 (Nat.le_of_ble_eq_true rfl) rfl ?_
      exact l_X2_turn_b46 hk2 jw_FU _ _ _ _ _ _ _ _ _ hq

theorem l_X2_turn_b2 {hi : jw_H} : ∀ (n : Nat) (h : jw_H) (x0 : Nat) (x1 : Option Nat) (x2 : Int32) (r : Unit) (h' : jw_H), f_X2_turn_b2  n h x0 x1 x2 = some (r, h') → jw_E 1 uX2_turn hi 2 [some (.ref x0), some (va_rf x1), some (.int x2), none, none, none] [] h (.inl none) h' := by
  intro n
  induction n with
  | zero => intro h x0 x1 x2 r h' hq; exact nomatch hq
  | succ n ih => intro h x0 x1 x2 r h' hq; exact l_X2_turn_b2g ih hq

set_option maxRecDepth 100000 in
set_option maxHeartbeats 4000000 in
theorem l_X2_turn {hi : jw_H} {h : jw_H} {x0 : Nat} {x1 : Option Nat} {r : Unit} {h' : jw_H} (hq : f_X2_turn  h x0 x1 = some (r, h')) : jw_E 1 uX2_turn hi 0 [some (.ref x0), some (va_rf x1), none, none, none, none] [] h (.inl none) h' := by
  unfold f_X2_turn at hq
  refine jw_iconst dX2_turn_0 (v := (0 : Int32)) (by decide) ?_
  refine jw_istore_n (L' := [some (.ref x0), some (va_rf x1), some (.int (0 : Int32)), none, none, none]) dX2_turn_1 (Nat.le_of_ble_eq_true rfl) ((jw_st1_of (j := 1) jw_long_rf).trans rfl) ?_
  exact l_X2_turn_b2  jw_FU _ _ _ _ _ _ hq

theorem c_X2_turn {h : jw_H} {x0 : Nat} {x1 : Option Nat} {r : Unit} {h' : jw_H} (hq : f_X2_turn h x0 x1 = some (r, h')) : jw_Con (Cond.code yX2_turn cX2_turn 6 none) yX2_turn 1 [.ref x0, va_rf x1] h (.inl none) h' :=
  jw_con false (plainFor_of_name (by decide +kernel)) (fun z => nomatch z) (by simp [jw_ent, jw_sl0_nil, jw_sl0_int, jw_sl0_long, jw_sl0_ref, jw_sl0_rf, jw_sl0_scr, List.replicate]) (by simp [jw_sl0_nil, jw_sl0_int, jw_sl0_long, jw_sl0_ref, jw_sl0_rf, jw_sl0_scr]) (l_X2_turn hq)


/-! X2_shiftBehind -/
noncomputable def g_X2_shiftBehind_b2 (k2 : jw_H → Nat → Int32 → Int32 → Option (Unit × jw_H)) (h : jw_H) (x0 : Nat) (x1 : Int32) (x2 : Int32) : Option (Unit × jw_H) :=
 if x1 ≤ x2 then ((jw_gR h 2 (some x0) 1).bind fun v2 =>
 (jw_gI h 4 v2 5).bind fun v3 =>
 (jw_rc h 2 (some x0)).bind fun a4 =>
 jw_b2 (f_X2_appendRow h a4 (0 : Int32) v3) fun w6 h5 =>
 some ((), h5))
 else ((jw_rc h 2 (some x0)).bind fun a7 =>
 jw_b2 (f_X2_append h a7 (32 : Int32)) fun w9 h8 =>
 k2 h8 x0 x1 (x2 + (1 : Int32)))

noncomputable def f_X2_shiftBehind_b2 (n : Nat) : jw_H → Nat → Int32 → Int32 → Option (Unit × jw_H) :=
 Nat.rec (fun _ _ _ _ => none) (fun _ k2 => g_X2_shiftBehind_b2 k2) n

noncomputable def f_X2_shiftBehind (h : jw_H) (x0 : Nat) (x1 : Int32) : Option (Unit × jw_H) :=
 f_X2_shiftBehind_b2  jw_FU h x0 x1 (0 : Int32)

set_option maxRecDepth 100000 in
set_option maxHeartbeats 4000000 in
theorem l_X2_shiftBehind_b2g {hi : jw_H} {k2 : jw_H → Nat → Int32 → Int32 → Option (Unit × jw_H)} (hk2 : ∀ (h : jw_H) (x0 : Nat) (x1 : Int32) (x2 : Int32) (r : Unit) (h' : jw_H), k2 h x0 x1 x2 = some (r, h') → jw_E 2 uX2_shiftBehind hi 2 [some (.ref x0), some (.int x1), some (.int x2)] [] h (.inl none) h') {h : jw_H} {x0 : Nat} {x1 : Int32} {x2 : Int32} {r : Unit} {h' : jw_H} (hq : g_X2_shiftBehind_b2 k2 h x0 x1 x2 = some (r, h')) : jw_E 2 uX2_shiftBehind hi 2 [some (.ref x0), some (.int x1), some (.int x2)] [] h (.inl none) h' := by
  unfold g_X2_shiftBehind_b2 at hq
  refine jw_iload_n dX2_shiftBehind_2 rfl ?_
  refine jw_iload_n dX2_shiftBehind_3 rfl ?_
  rcases jw_if hq with ⟨c1, hq⟩ | ⟨c1, hq⟩
  · refine jw_icmp_ge_t (tgt := 19) dX2_shiftBehind_4 (by decide) c1 ?_
    refine jw_aload_n dX2_shiftBehind_19 (o := (some x0)) rfl ?_
    refine jw_iconst dX2_shiftBehind_20 (v := (0 : Int32)) (by decide) ?_
    refine jw_aload_n dX2_shiftBehind_21 (o := (some x0)) rfl ?_
    obtain ⟨v2, ev2, hq⟩ := Option.bind_eq_some_iff.mp hq
    refine jw_getR (o := (some x0)) dX2_shiftBehind_22 ev2 fl_X2_15 rfl ?_
    obtain ⟨v3, ev3, hq⟩ := Option.bind_eq_some_iff.mp hq
    refine jw_getI (o := v2) dX2_shiftBehind_25 ev3 fl_X2_97 rfl ?_
    obtain ⟨a4, ea4, hq⟩ := Option.bind_eq_some_iff.mp hq
    obtain ⟨eoa4, eta4⟩ := jw_rc_spec ea4
    obtain ⟨w6, h5, ew6, hq⟩ := jw_b2_spec hq
    refine jw_callV (As := [.int (0 : Int32), .int v3]) (S := []) (a := a4) (v := none) dX2_shiftBehind_28 mt_X2_appendRow in_X2_appendRow se_X2_appendRow lk_X2_87 (c_X2_appendRow ew6) eta4 (by decide) rfl rfl (by decide) (Nat.le_of_ble_eq_true rfl) (by cases eoa4; rfl) ?_
    cases hq
    exact jw_vret dX2_shiftBehind_31 rfl
  · refine jw_icmp_ge_f (tgt := 19) dX2_shiftBehind_4 (by decide) c1 ?_
    refine jw_aload_n dX2_shiftBehind_7 (o := (some x0)) rfl ?_
    refine jw_bipush dX2_shiftBehind_8 (v := (32 : Int32)) (by decide) ?_
    obtain ⟨a7, ea7, hq⟩ := Option.bind_eq_some_iff.mp hq
    obtain ⟨eoa7, eta7⟩ := jw_rc_spec ea7
    obtain ⟨w9, h8, ew9, hq⟩ := jw_b2_spec hq
    refine jw_callV (As := [.int (32 : Int32)]) (S := []) (a := a7) (v := none) dX2_shiftBehind_10 mt_X2_append in_X2_append se_X2_append lk_X2_117 (c_X2_append ew9) eta7 (by decide) rfl rfl (by decide) (Nat.le_of_ble_eq_true rfl) (by cases eoa7; rfl) ?_
    refine jw_iinc (L' := [some (.ref x0), some (.int x1), some (.int (x2 + (1 : Int32)))]) dX2_shiftBehind_13 rfl (v := (1 : Int32)) (by decide) (Nat.le_of_ble_eq_true rfl) rfl ?_
    refine jw_goto (tgt := 2) dX2_shiftBehind_16 (by decide) ?_
    exact hk2 _ _ _ _ _ _ hq

theorem l_X2_shiftBehind_b2 {hi : jw_H} : ∀ (n : Nat) (h : jw_H) (x0 : Nat) (x1 : Int32) (x2 : Int32) (r : Unit) (h' : jw_H), f_X2_shiftBehind_b2  n h x0 x1 x2 = some (r, h') → jw_E 2 uX2_shiftBehind hi 2 [some (.ref x0), some (.int x1), some (.int x2)] [] h (.inl none) h' := by
  intro n
  induction n with
  | zero => intro h x0 x1 x2 r h' hq; exact nomatch hq
  | succ n ih => intro h x0 x1 x2 r h' hq; exact l_X2_shiftBehind_b2g ih hq

set_option maxRecDepth 100000 in
set_option maxHeartbeats 4000000 in
theorem l_X2_shiftBehind {hi : jw_H} {h : jw_H} {x0 : Nat} {x1 : Int32} {r : Unit} {h' : jw_H} (hq : f_X2_shiftBehind  h x0 x1 = some (r, h')) : jw_E 2 uX2_shiftBehind hi 0 [some (.ref x0), some (.int x1), none] [] h (.inl none) h' := by
  unfold f_X2_shiftBehind at hq
  refine jw_iconst dX2_shiftBehind_0 (v := (0 : Int32)) (by decide) ?_
  refine jw_istore_n (L' := [some (.ref x0), some (.int x1), some (.int (0 : Int32))]) dX2_shiftBehind_1 (Nat.le_of_ble_eq_true rfl) rfl ?_
  exact l_X2_shiftBehind_b2  jw_FU _ _ _ _ _ _ hq

theorem c_X2_shiftBehind {h : jw_H} {x0 : Nat} {x1 : Int32} {r : Unit} {h' : jw_H} (hq : f_X2_shiftBehind h x0 x1 = some (r, h')) : jw_Con (Cond.code yX2_shiftBehind cX2_shiftBehind 3 none) yX2_shiftBehind 2 [.ref x0, .int x1] h (.inl none) h' :=
  jw_con false (plainFor_of_name (by decide +kernel)) (fun z => nomatch z) (by simp [jw_ent, jw_sl0_nil, jw_sl0_int, jw_sl0_long, jw_sl0_ref, jw_sl0_rf, jw_sl0_scr, List.replicate]) (by simp [jw_sl0_nil, jw_sl0_int, jw_sl0_long, jw_sl0_ref, jw_sl0_rf, jw_sl0_scr]) (l_X2_shiftBehind hq)


/-! X2_shiftAhead -/
noncomputable def g_X2_shiftAhead_b58 (h : jw_H) (x0 : Nat) (x2 : Int32) : Option (Unit × jw_H) :=
 (jw_gR h 2 (some x0) 1).bind fun v1 =>
 (jw_gI h 4 v1 5).bind fun v2 =>
 (jw_rc h 2 (some x0)).bind fun a3 =>
 jw_b2 (f_X2_appendRow h a3 x2 v2) fun w5 h4 =>
 some ((), h4)

noncomputable def g_X2_shiftAhead_b4 (k4 : jw_H → Nat → Int32 → Int32 → Int32 → Option (Unit × jw_H)) (h : jw_H) (x0 : Nat) (x1 : Int32) (x2 : Int32) (x3 : Int32) : Option (Unit × jw_H) :=
 if x1 ≤ x3 then (g_X2_shiftAhead_b58  h x0 x2)
 else ((jw_gR h 2 (some x0) 1).bind fun v2 =>
 (jw_gI h 4 v2 5).bind fun v3 =>
 if v3 ≤ x3 then (g_X2_shiftAhead_b58  h x0 x2)
 else ((jw_gR h 2 (some x0) 1).bind fun v5 =>
 (jw_gR h 4 v5 1).bind fun v6 =>
 (jw_ln h v6).bind fun v7 =>
 if v7 ≤ x3 then (g_X2_shiftAhead_b58  h x0 x2)
 else ((jw_gR h 2 (some x0) 1).bind fun v9 =>
 (jw_gR h 4 v9 1).bind fun v10 =>
 (jw_ai h 21 v10 x3).bind fun v11 =>
 if v11 = (32 : Int32) then (k4 h x0 x1 (x2 + (1 : Int32)) (x3 + (1 : Int32)))
 else (g_X2_shiftAhead_b58  h x0 x2))))

noncomputable def f_X2_shiftAhead_b4 (n : Nat) : jw_H → Nat → Int32 → Int32 → Int32 → Option (Unit × jw_H) :=
 Nat.rec (fun _ _ _ _ _ => none) (fun _ k4 => g_X2_shiftAhead_b4 k4) n

noncomputable def f_X2_shiftAhead (h : jw_H) (x0 : Nat) (x1 : Int32) : Option (Unit × jw_H) :=
 f_X2_shiftAhead_b4  jw_FU h x0 x1 (0 : Int32) (0 : Int32)

set_option maxRecDepth 100000 in
set_option maxHeartbeats 4000000 in
theorem l_X2_shiftAhead_b58 {hi : jw_H} {h : jw_H} {x0 : Nat} {x2 : Int32} {r : Unit} {h' : jw_H} (hq : g_X2_shiftAhead_b58  h x0 x2 = some (r, h')) : jw_E 2 uX2_shiftAhead hi 58 [some (.ref x0), none, some (.int x2), none] [] h (.inl none) h' := by
  unfold g_X2_shiftAhead_b58 at hq
  refine jw_aload_n dX2_shiftAhead_58 (o := (some x0)) rfl ?_
  refine jw_iload_n dX2_shiftAhead_59 rfl ?_
  refine jw_aload_n dX2_shiftAhead_60 (o := (some x0)) rfl ?_
  obtain ⟨v1, ev1, hq⟩ := Option.bind_eq_some_iff.mp hq
  refine jw_getR (o := (some x0)) dX2_shiftAhead_61 ev1 fl_X2_15 rfl ?_
  obtain ⟨v2, ev2, hq⟩ := Option.bind_eq_some_iff.mp hq
  refine jw_getI (o := v1) dX2_shiftAhead_64 ev2 fl_X2_97 rfl ?_
  obtain ⟨a3, ea3, hq⟩ := Option.bind_eq_some_iff.mp hq
  obtain ⟨eoa3, eta3⟩ := jw_rc_spec ea3
  obtain ⟨w5, h4, ew5, hq⟩ := jw_b2_spec hq
  refine jw_callV (As := [.int x2, .int v2]) (S := []) (a := a3) (v := none) dX2_shiftAhead_67 mt_X2_appendRow in_X2_appendRow se_X2_appendRow lk_X2_87 (c_X2_appendRow ew5) eta3 (by decide) rfl rfl (by decide) (Nat.le_of_ble_eq_true rfl) (by cases eoa3; rfl) ?_
  cases hq
  exact jw_vret dX2_shiftAhead_70 rfl

set_option maxRecDepth 100000 in
set_option maxHeartbeats 4000000 in
theorem l_X2_shiftAhead_b4g {hi : jw_H} {k4 : jw_H → Nat → Int32 → Int32 → Int32 → Option (Unit × jw_H)} (hk4 : ∀ (h : jw_H) (x0 : Nat) (x1 : Int32) (x2 : Int32) (x3 : Int32) (r : Unit) (h' : jw_H), k4 h x0 x1 x2 x3 = some (r, h') → jw_E 2 uX2_shiftAhead hi 4 [some (.ref x0), some (.int x1), some (.int x2), some (.int x3)] [] h (.inl none) h') {h : jw_H} {x0 : Nat} {x1 : Int32} {x2 : Int32} {x3 : Int32} {r : Unit} {h' : jw_H} (hq : g_X2_shiftAhead_b4 k4 h x0 x1 x2 x3 = some (r, h')) : jw_E 2 uX2_shiftAhead hi 4 [some (.ref x0), some (.int x1), some (.int x2), some (.int x3)] [] h (.inl none) h' := by
  unfold g_X2_shiftAhead_b4 at hq
  refine jw_iload_n dX2_shiftAhead_4 rfl ?_
  refine jw_iload_n dX2_shiftAhead_5 rfl ?_
  rcases jw_if hq with ⟨c1, hq⟩ | ⟨c1, hq⟩
  · refine jw_icmp_ge_t (tgt := 58) dX2_shiftAhead_6 (by decide) c1 ?_
    refine jw_forget [true, false, true, false] (L' := [some (.ref x0), none, some (.int x2), none]) rfl ?_
    exact l_X2_shiftAhead_b58  hq
  · refine jw_icmp_ge_f (tgt := 58) dX2_shiftAhead_6 (by decide) c1 ?_
    refine jw_iload_n dX2_shiftAhead_9 rfl ?_
    refine jw_aload_n dX2_shiftAhead_10 (o := (some x0)) rfl ?_
    obtain ⟨v2, ev2, hq⟩ := Option.bind_eq_some_iff.mp hq
    refine jw_getR (o := (some x0)) dX2_shiftAhead_11 ev2 fl_X2_15 rfl ?_
    obtain ⟨v3, ev3, hq⟩ := Option.bind_eq_some_iff.mp hq
    refine jw_getI (o := v2) dX2_shiftAhead_14 ev3 fl_X2_97 rfl ?_
    rcases jw_if hq with ⟨c4, hq⟩ | ⟨c4, hq⟩
    · refine jw_icmp_ge_t (tgt := 58) dX2_shiftAhead_17 (by decide) c4 ?_
      refine jw_forget [true, false, true, false] (L' := [some (.ref x0), none, some (.int x2), none]) rfl ?_
      exact l_X2_shiftAhead_b58  hq
    · refine jw_icmp_ge_f (tgt := 58) dX2_shiftAhead_17 (by decide) c4 ?_
      refine jw_iload_n dX2_shiftAhead_20 rfl ?_
      refine jw_aload_n dX2_shiftAhead_21 (o := (some x0)) rfl ?_
      obtain ⟨v5, ev5, hq⟩ := Option.bind_eq_some_iff.mp hq
      refine jw_getR (o := (some x0)) dX2_shiftAhead_22 ev5 fl_X2_15 rfl ?_
      obtain ⟨v6, ev6, hq⟩ := Option.bind_eq_some_iff.mp hq
      refine jw_getR (o := v5) dX2_shiftAhead_25 ev6 fl_X2_65 rfl ?_
      obtain ⟨v7, ev7, hq⟩ := Option.bind_eq_some_iff.mp hq
      refine jw_alen (o := v6) dX2_shiftAhead_28 ev7 ?_
      rcases jw_if hq with ⟨c8, hq⟩ | ⟨c8, hq⟩
      · refine jw_icmp_ge_t (tgt := 58) dX2_shiftAhead_29 (by decide) c8 ?_
        refine jw_forget [true, false, true, false] (L' := [some (.ref x0), none, some (.int x2), none]) rfl ?_
        exact l_X2_shiftAhead_b58  hq
      · refine jw_icmp_ge_f (tgt := 58) dX2_shiftAhead_29 (by decide) c8 ?_
        refine jw_aload_n dX2_shiftAhead_32 (o := (some x0)) rfl ?_
        obtain ⟨v9, ev9, hq⟩ := Option.bind_eq_some_iff.mp hq
        refine jw_getR (o := (some x0)) dX2_shiftAhead_33 ev9 fl_X2_15 rfl ?_
        obtain ⟨v10, ev10, hq⟩ := Option.bind_eq_some_iff.mp hq
        refine jw_getR (o := v9) dX2_shiftAhead_36 ev10 fl_X2_65 rfl ?_
        refine jw_iload_n dX2_shiftAhead_39 rfl ?_
        obtain ⟨v11, ev11, hq⟩ := Option.bind_eq_some_iff.mp hq
        refine jw_bald (o := v10) dX2_shiftAhead_40 ev11 ?_
        refine jw_bipush dX2_shiftAhead_41 (v := (32 : Int32)) (by decide) ?_
        rcases jw_if hq with ⟨c12, hq⟩ | ⟨c12, hq⟩
        · refine jw_icmp_eq_t (tgt := 49) dX2_shiftAhead_43 (by decide) c12 ?_
          refine jw_iinc (L' := [some (.ref x0), some (.int x1), some (.int (x2 + (1 : Int32))), some (.int x3)]) dX2_shiftAhead_49 rfl (v := (1 : Int32)) (by decide) (Nat.le_of_ble_eq_true rfl) rfl ?_
          refine jw_iinc (L' := [some (.ref x0), some (.int x1), some (.int (x2 + (1 : Int32))), some (.int (x3 + (1 : Int32)))]) dX2_shiftAhead_52 rfl (v := (1 : Int32)) (by decide) (Nat.le_of_ble_eq_true rfl) rfl ?_
          refine jw_goto (tgt := 4) dX2_shiftAhead_55 (by decide) ?_
          exact hk4 _ _ _ _ _ _ _ hq
        · refine jw_icmp_eq_f (tgt := 49) dX2_shiftAhead_43 (by decide) c12 ?_
          refine jw_goto (tgt := 58) dX2_shiftAhead_46 (by decide) ?_
          refine jw_forget [true, false, true, false] (L' := [some (.ref x0), none, some (.int x2), none]) rfl ?_
          exact l_X2_shiftAhead_b58  hq

theorem l_X2_shiftAhead_b4 {hi : jw_H} : ∀ (n : Nat) (h : jw_H) (x0 : Nat) (x1 : Int32) (x2 : Int32) (x3 : Int32) (r : Unit) (h' : jw_H), f_X2_shiftAhead_b4  n h x0 x1 x2 x3 = some (r, h') → jw_E 2 uX2_shiftAhead hi 4 [some (.ref x0), some (.int x1), some (.int x2), some (.int x3)] [] h (.inl none) h' := by
  intro n
  induction n with
  | zero => intro h x0 x1 x2 x3 r h' hq; exact nomatch hq
  | succ n ih => intro h x0 x1 x2 x3 r h' hq; exact l_X2_shiftAhead_b4g ih hq

set_option maxRecDepth 100000 in
set_option maxHeartbeats 4000000 in
theorem l_X2_shiftAhead {hi : jw_H} {h : jw_H} {x0 : Nat} {x1 : Int32} {r : Unit} {h' : jw_H} (hq : f_X2_shiftAhead  h x0 x1 = some (r, h')) : jw_E 2 uX2_shiftAhead hi 0 [some (.ref x0), some (.int x1), none, none] [] h (.inl none) h' := by
  unfold f_X2_shiftAhead at hq
  refine jw_iconst dX2_shiftAhead_0 (v := (0 : Int32)) (by decide) ?_
  refine jw_istore_n (L' := [some (.ref x0), some (.int x1), some (.int (0 : Int32)), none]) dX2_shiftAhead_1 (Nat.le_of_ble_eq_true rfl) rfl ?_
  refine jw_iconst dX2_shiftAhead_2 (v := (0 : Int32)) (by decide) ?_
  refine jw_istore_n (L' := [some (.ref x0), some (.int x1), some (.int (0 : Int32)), some (.int (0 : Int32))]) dX2_shiftAhead_3 (Nat.le_of_ble_eq_true rfl) rfl ?_
  exact l_X2_shiftAhead_b4  jw_FU _ _ _ _ _ _ _ hq

theorem c_X2_shiftAhead {h : jw_H} {x0 : Nat} {x1 : Int32} {r : Unit} {h' : jw_H} (hq : f_X2_shiftAhead h x0 x1 = some (r, h')) : jw_Con (Cond.code yX2_shiftAhead cX2_shiftAhead 4 none) yX2_shiftAhead 2 [.ref x0, .int x1] h (.inl none) h' :=
  jw_con false (plainFor_of_name (by decide +kernel)) (fun z => nomatch z) (by simp [jw_ent, jw_sl0_nil, jw_sl0_int, jw_sl0_long, jw_sl0_ref, jw_sl0_rf, jw_sl0_scr, List.replicate]) (by simp [jw_sl0_nil, jw_sl0_int, jw_sl0_long, jw_sl0_ref, jw_sl0_rf, jw_sl0_scr]) (l_X2_shiftAhead hq)


/-! X7_write -/
noncomputable def f_X7_write (h : jw_H) (x0 : Nat) (x1 : Int32) (x2 : Option Nat) (x3 : Int32) (x4 : Int32) : Option (Unit × jw_H) :=
 if x1 < (1 : Int32) then (some ((), h))
 else ((jw_gI h 7 (some x0) 2).bind fun v2 =>
 if v2 < x1 then (some ((), h))
 else ((jw_gR h 7 (some x0) 0).bind fun v4 =>
 (jw_ln h v4).bind fun v5 =>
 if x1 ≤ v5 then (if x4 < 0 then (some ((), h))
 else (if (30 : Int32) < x4 then (some ((), h))
 else (if x3 < 0 then (some ((), h))
 else ((jw_ln h x2).bind fun v10 =>
 if x3 ≤ (v10 - x4) then ((jw_gR h 7 (some x0) 1).bind fun v12 =>
 (jw_cp h 21 x2 x3 v12 ((x1 - (1 : Int32)) * (30 : Int32)) x4).bind fun h13 =>
 (jw_gR h13 7 (some x0) 0).bind fun v14 =>
 (jw_si h13 20 v14 (x1 - (1 : Int32)) x4).bind fun h15 =>
 some ((), h15))
 else (some ((), h))))))
 else (some ((), h))))

set_option maxRecDepth 100000 in
set_option maxHeartbeats 4000000 in
theorem l_X7_write {hi : jw_H} {h : jw_H} {x0 : Nat} {x1 : Int32} {x2 : Option Nat} {x3 : Int32} {x4 : Int32} {r : Unit} {h' : jw_H} (hq : f_X7_write  h x0 x1 x2 x3 x4 = some (r, h')) : jw_E 1 uX7_write hi 0 [some (.ref x0), some (.int x1), some (va_rf x2), some (.int x3), some (.int x4)] [] h (.inl none) h' := by
  unfold f_X7_write at hq
  refine jw_iload_n dX7_write_0 rfl ?_
  refine jw_iconst dX7_write_1 (v := (1 : Int32)) (by decide) ?_
  rcases jw_if hq with ⟨c1, hq⟩ | ⟨c1, hq⟩
  · refine jw_icmp_lt_t (tgt := 22) dX7_write_2 (by decide) c1 ?_
    cases hq
    exact jw_vret dX7_write_22 rfl
  · refine jw_icmp_lt_f (tgt := 22) dX7_write_2 (by decide) c1 ?_
    refine jw_iload_n dX7_write_5 rfl ?_
    refine jw_aload_n dX7_write_6 (o := (some x0)) rfl ?_
    obtain ⟨v2, ev2, hq⟩ := Option.bind_eq_some_iff.mp hq
    refine jw_getI (o := (some x0)) dX7_write_7 ev2 fl_X7_25 rfl ?_
    rcases jw_if hq with ⟨c3, hq⟩ | ⟨c3, hq⟩
    · refine jw_icmp_gt_t (tgt := 22) dX7_write_10 (by decide) c3 ?_
      cases hq
      exact jw_vret dX7_write_22 rfl
    · refine jw_icmp_gt_f (tgt := 22) dX7_write_10 (by decide) c3 ?_
      refine jw_iload_n dX7_write_13 rfl ?_
      refine jw_aload_n dX7_write_14 (o := (some x0)) rfl ?_
      obtain ⟨v4, ev4, hq⟩ := Option.bind_eq_some_iff.mp hq
      refine jw_getR (o := (some x0)) dX7_write_15 ev4 fl_X7_15 rfl ?_
      obtain ⟨v5, ev5, hq⟩ := Option.bind_eq_some_iff.mp hq
      refine jw_alen (o := v4) dX7_write_18 ev5 ?_
      rcases jw_if hq with ⟨c6, hq⟩ | ⟨c6, hq⟩
      · refine jw_icmp_le_t (tgt := 23) dX7_write_19 (by decide) c6 ?_
        refine jw_iload dX7_write_23 rfl ?_
        rcases jw_if hq with ⟨c7, hq⟩ | ⟨c7, hq⟩
        · refine jw_if_lt_t (tgt := 48) dX7_write_25 (by decide) c7 ?_
          cases hq
          exact jw_vret dX7_write_48 rfl
        · refine jw_if_lt_f (tgt := 48) dX7_write_25 (by decide) c7 ?_
          refine jw_iload dX7_write_28 rfl ?_
          refine jw_bipush dX7_write_30 (v := (30 : Int32)) (by decide) ?_
          rcases jw_if hq with ⟨c8, hq⟩ | ⟨c8, hq⟩
          · refine jw_icmp_gt_t (tgt := 48) dX7_write_32 (by decide) c8 ?_
            cases hq
            exact jw_vret dX7_write_48 rfl
          · refine jw_icmp_gt_f (tgt := 48) dX7_write_32 (by decide) c8 ?_
            refine jw_iload_n dX7_write_35 rfl ?_
            rcases jw_if hq with ⟨c9, hq⟩ | ⟨c9, hq⟩
            · refine jw_if_lt_t (tgt := 48) dX7_write_36 (by decide) c9 ?_
              cases hq
              exact jw_vret dX7_write_48 rfl
            · refine jw_if_lt_f (tgt := 48) dX7_write_36 (by decide) c9 ?_
              refine jw_iload_n dX7_write_39 rfl ?_
              refine jw_aload_n dX7_write_40 (o := x2) rfl ?_
              obtain ⟨v10, ev10, hq⟩ := Option.bind_eq_some_iff.mp hq
              refine jw_alen (o := x2) dX7_write_41 ev10 ?_
              refine jw_iload dX7_write_42 rfl ?_
              refine jw_isub dX7_write_44 ?_
              rcases jw_if hq with ⟨c11, hq⟩ | ⟨c11, hq⟩
              · refine jw_icmp_le_t (tgt := 49) dX7_write_45 (by decide) c11 ?_
                refine jw_aload_n dX7_write_49 (o := x2) rfl ?_
                refine jw_iload_n dX7_write_50 rfl ?_
                refine jw_aload_n dX7_write_51 (o := (some x0)) rfl ?_
                obtain ⟨v12, ev12, hq⟩ := Option.bind_eq_some_iff.mp hq
                refine jw_getR (o := (some x0)) dX7_write_52 ev12 fl_X7_21 rfl ?_
                refine jw_iload_n dX7_write_55 rfl ?_
                refine jw_iconst dX7_write_56 (v := (1 : Int32)) (by decide) ?_
                refine jw_isub dX7_write_57 ?_
                refine jw_bipush dX7_write_58 (v := (30 : Int32)) (by decide) ?_
                refine jw_imul dX7_write_60 ?_
                refine jw_iload dX7_write_61 rfl ?_
                obtain ⟨h13, eh13, hq⟩ := Option.bind_eq_some_iff.mp hq
                refine jw_acp (o1 := x2) (o2 := v12) (t := 21) dX7_write_63 (by decide) al_X7_32 an_0 as_0 ai_0 (by decide) (Nat.le_of_ble_eq_true rfl) eh13 ?_
                refine jw_aload_n dX7_write_66 (o := (some x0)) rfl ?_
                obtain ⟨v14, ev14, hq⟩ := Option.bind_eq_some_iff.mp hq
                refine jw_getR (o := (some x0)) dX7_write_67 ev14 fl_X7_15 rfl ?_
                refine jw_iload_n dX7_write_70 rfl ?_
                refine jw_iconst dX7_write_71 (v := (1 : Int32)) (by decide) ?_
                refine jw_isub dX7_write_72 ?_
                refine jw_iload dX7_write_73 rfl ?_
                obtain ⟨h15, eh15, hq⟩ := Option.bind_eq_some_iff.mp hq
                refine jw_iast (o := v14) dX7_write_75 eh15 ?_
                cases hq
                exact jw_vret dX7_write_76 rfl
              · refine jw_icmp_le_f (tgt := 49) dX7_write_45 (by decide) c11 ?_
                cases hq
                exact jw_vret dX7_write_48 rfl
      · refine jw_icmp_le_f (tgt := 23) dX7_write_19 (by decide) c6 ?_
        cases hq
        exact jw_vret dX7_write_22 rfl

theorem c_X7_write {h : jw_H} {x0 : Nat} {x1 : Int32} {x2 : Option Nat} {x3 : Int32} {x4 : Int32} {r : Unit} {h' : jw_H} (hq : f_X7_write h x0 x1 x2 x3 x4 = some (r, h')) : jw_Con (Cond.code yX7_write cX7_write 5 none) yX7_write 1 [.ref x0, .int x1, va_rf x2, .int x3, .int x4] h (.inl none) h' :=
  jw_con false (plainFor_of_name (by decide +kernel)) (fun z => nomatch z) (by simp [jw_ent, jw_sl0_nil, jw_sl0_int, jw_sl0_long, jw_sl0_ref, jw_sl0_rf, jw_sl0_scr, List.replicate]) (by simp [jw_sl0_nil, jw_sl0_int, jw_sl0_long, jw_sl0_ref, jw_sl0_rf, jw_sl0_scr]) (l_X7_write hq)


/-! X2_change -/
noncomputable def g_X2_change_b103 (k3 : jw_H → Nat → Option Nat → Option Nat → Int32 → Int32 → Option (Int32 × jw_H)) (h : jw_H) (x0 : Nat) (x1 : Option Nat) (x2 : Option Nat) (x4 : Int32) (x5 : Int32) : Option (Int32 × jw_H) :=
 (jw_gI h 2 (some x0) 4).bind fun v1 =>
 if v1 = 0 then ((jw_gR h 2 (some x0) 2).bind fun v3 =>
 (jw_gI h 2 (some x0) 3).bind fun v4 =>
 (jw_rc h 7 x2).bind fun a5 =>
 jw_b2 (f_X7_write h a5 x5 v3 (0 : Int32) v4) fun w7 h6 =>
 k3 h6 x0 x1 x2 x4 (x5 + (1 : Int32)))
 else (some ((4 : Int32), h))

noncomputable def g_X2_change_b3 (k3 : jw_H → Nat → Option Nat → Option Nat → Int32 → Int32 → Option (Int32 × jw_H)) (h : jw_H) (x0 : Nat) (x1 : Option Nat) (x2 : Option Nat) (x4 : Int32) (x5 : Int32) : Option (Int32 × jw_H) :=
 if x4 < x5 then (some ((0 : Int32), h))
 else ((jw_pI h 2 (some x0) 3 (0 : Int32)).bind fun h2 =>
 (jw_pB h2 2 (some x0) 4 (0 : Int32)).bind fun h3 =>
 (jw_gR h3 2 (some x0) 1).bind fun v4 =>
 (jw_rc h3 4 v4).bind fun a5 =>
 jw_b2 (f_X4_load h3 a5 x2 x5) fun w7 h6 =>
 (jw_gI h6 5 x1 3).bind fun v8 =>
 if v8 = (62 : Int32) then ((jw_gI h6 5 x1 5).bind fun v10 =>
 (jw_rc h6 2 (some x0)).bind fun a11 =>
 jw_b2 (f_X2_shiftBehind h6 a11 v10) fun w13 h12 =>
 g_X2_change_b103 k3 h12 x0 x1 x2 x4 x5)
 else (if v8 = (115 : Int32) then ((jw_rc h6 2 (some x0)).bind fun a15 =>
 jw_b2 (f_X2_replace h6 a15 x1) fun w17 h16 =>
 g_X2_change_b103 k3 h16 x0 x1 x2 x4 x5)
 else (if v8 = (122 : Int32) then ((jw_rc h6 2 (some x0)).bind fun a19 =>
 jw_b2 (f_X2_turn h6 a19 x1) fun w21 h20 =>
 g_X2_change_b103 k3 h20 x0 x1 x2 x4 x5)
 else ((jw_gI h6 5 x1 5).bind fun v22 =>
 (jw_rc h6 2 (some x0)).bind fun a23 =>
 jw_b2 (f_X2_shiftAhead h6 a23 v22) fun w25 h24 =>
 g_X2_change_b103 k3 h24 x0 x1 x2 x4 x5))))

noncomputable def f_X2_change_b3 (n : Nat) : jw_H → Nat → Option Nat → Option Nat → Int32 → Int32 → Option (Int32 × jw_H) :=
 Nat.rec (fun _ _ _ _ _ _ => none) (fun _ k3 => g_X2_change_b3 k3) n

noncomputable def f_X2_change (h : jw_H) (x0 : Nat) (x1 : Option Nat) (x2 : Option Nat) (x3 : Int32) (x4 : Int32) : Option (Int32 × jw_H) :=
 f_X2_change_b3  jw_FU h x0 x1 x2 x4 x3

set_option maxRecDepth 100000 in
set_option maxHeartbeats 4000000 in
theorem l_X2_change_b103 {hi : jw_H} {k3 : jw_H → Nat → Option Nat → Option Nat → Int32 → Int32 → Option (Int32 × jw_H)} (hk3 : ∀ (h : jw_H) (x0 : Nat) (x1 : Option Nat) (x2 : Option Nat) (x4 : Int32) (x5 : Int32) (r : Int32) (h' : jw_H), k3 h x0 x1 x2 x4 x5 = some (r, h') → jw_E 9 uX2_change hi 3 [some (.ref x0), some (va_rf x1), some (va_rf x2), none, some (.int x4), some (.int x5)] [] h (.inl (some (.int r))) h') {h : jw_H} {x0 : Nat} {x1 : Option Nat} {x2 : Option Nat} {x4 : Int32} {x5 : Int32} {r : Int32} {h' : jw_H} (hq : g_X2_change_b103 k3 h x0 x1 x2 x4 x5 = some (r, h')) : jw_E 9 uX2_change hi 103 [some (.ref x0), some (va_rf x1), some (va_rf x2), none, some (.int x4), some (.int x5)] [] h (.inl (some (.int r))) h' := by
  unfold g_X2_change_b103 at hq
  refine jw_aload_n dX2_change_103 (o := (some x0)) rfl ?_
  obtain ⟨v1, ev1, hq⟩ := Option.bind_eq_some_iff.mp hq
  refine jw_getI (o := (some x0)) dX2_change_104 ev1 fl_X2_27 rfl ?_
  rcases jw_if hq with ⟨c2, hq⟩ | ⟨c2, hq⟩
  · refine jw_if_eq_t (tgt := 112) dX2_change_107 (by decide) c2 ?_
    refine jw_aload_n dX2_change_112 (o := x2) rfl ?_
    refine jw_iload dX2_change_113 rfl ?_
    refine jw_aload_n dX2_change_115 (o := (some x0)) rfl ?_
    obtain ⟨v3, ev3, hq⟩ := Option.bind_eq_some_iff.mp hq
    refine jw_getR (o := (some x0)) dX2_change_116 ev3 fl_X2_19 rfl ?_
    refine jw_iconst dX2_change_119 (v := (0 : Int32)) (by decide) ?_
    refine jw_aload_n dX2_change_120 (o := (some x0)) rfl ?_
    obtain ⟨v4, ev4, hq⟩ := Option.bind_eq_some_iff.mp hq
    refine jw_getI (o := (some x0)) dX2_change_121 ev4 fl_X2_23 rfl ?_
    obtain ⟨a5, ea5, hq⟩ := Option.bind_eq_some_iff.mp hq
    obtain ⟨eoa5, eta5⟩ := jw_rc_spec ea5
    obtain ⟨w7, h6, ew7, hq⟩ := jw_b2_spec hq
    refine jw_callV (As := [.int x5, va_rf v3, .int (0 : Int32), .int v4]) (S := []) (a := a5) (v := none) dX2_change_124 mt_X7_write in_X7_write se_X7_write lk_X2_59 (c_X7_write ew7) eta5 (by decide) rfl rfl (by decide) (Nat.le_of_ble_eq_true rfl) (by cases eoa5; rfl) ?_
    refine jw_iinc (L' := [some (.ref x0), some (va_rf x1), some (va_rf x2), none, some (.int x4), some (.int (x5 + (1 : Int32)))]) dX2_change_127 rfl (v := (1 : Int32)) (by decide) (Nat.le_of_ble_eq_true rfl) rfl ?_
    refine jw_goto (tgt := 3) dX2_change_130 (by decide) ?_
    exact hk3 _ _ _ _ _ _ _ _ hq
  · refine jw_if_eq_f (tgt := 112) dX2_change_107 (by decide) c2 ?_
    refine jw_iconst dX2_change_110 (v := (4 : Int32)) (by decide) ?_
    cases hq
    exact jw_iret (ty := .int) dX2_change_111 rfl rfl

set_option maxRecDepth 100000 in
set_option maxHeartbeats 4000000 in
theorem l_X2_change_b3g {hi : jw_H} {k3 : jw_H → Nat → Option Nat → Option Nat → Int32 → Int32 → Option (Int32 × jw_H)} (hk3 : ∀ (h : jw_H) (x0 : Nat) (x1 : Option Nat) (x2 : Option Nat) (x4 : Int32) (x5 : Int32) (r : Int32) (h' : jw_H), k3 h x0 x1 x2 x4 x5 = some (r, h') → jw_E 9 uX2_change hi 3 [some (.ref x0), some (va_rf x1), some (va_rf x2), none, some (.int x4), some (.int x5)] [] h (.inl (some (.int r))) h') {h : jw_H} {x0 : Nat} {x1 : Option Nat} {x2 : Option Nat} {x4 : Int32} {x5 : Int32} {r : Int32} {h' : jw_H} (hq : g_X2_change_b3 k3 h x0 x1 x2 x4 x5 = some (r, h')) : jw_E 9 uX2_change hi 3 [some (.ref x0), some (va_rf x1), some (va_rf x2), none, some (.int x4), some (.int x5)] [] h (.inl (some (.int r))) h' := by
  unfold g_X2_change_b3 at hq
  refine jw_iload dX2_change_3 rfl ?_
  refine jw_iload dX2_change_5 rfl ?_
  rcases jw_if hq with ⟨c1, hq⟩ | ⟨c1, hq⟩
  · refine jw_icmp_gt_t (tgt := 133) dX2_change_7 (by decide) c1 ?_
    refine jw_iconst dX2_change_133 (v := (0 : Int32)) (by decide) ?_
    cases hq
    exact jw_iret (ty := .int) dX2_change_134 rfl rfl
  · refine jw_icmp_gt_f (tgt := 133) dX2_change_7 (by decide) c1 ?_
    refine jw_aload_n dX2_change_10 (o := (some x0)) rfl ?_
    refine jw_iconst dX2_change_11 (v := (0 : Int32)) (by decide) ?_
    obtain ⟨h2, eh2, hq⟩ := Option.bind_eq_some_iff.mp hq
    refine jw_putI (o := (some x0)) dX2_change_12 eh2 fl_X2_23 rfl rfl ?_
    refine jw_aload_n dX2_change_15 (o := (some x0)) rfl ?_
    refine jw_iconst dX2_change_16 (v := (0 : Int32)) (by decide) ?_
    obtain ⟨h3, eh3, hq⟩ := Option.bind_eq_some_iff.mp hq
    refine jw_putB (o := (some x0)) dX2_change_17 eh3 fl_X2_27 rfl rfl ?_
    refine jw_aload_n dX2_change_20 (o := (some x0)) rfl ?_
    obtain ⟨v4, ev4, hq⟩ := Option.bind_eq_some_iff.mp hq
    refine jw_getR (o := (some x0)) dX2_change_21 ev4 fl_X2_15 rfl ?_
    refine jw_aload_n dX2_change_24 (o := x2) rfl ?_
    refine jw_iload dX2_change_25 rfl ?_
    obtain ⟨a5, ea5, hq⟩ := Option.bind_eq_some_iff.mp hq
    obtain ⟨eoa5, eta5⟩ := jw_rc_spec ea5
    obtain ⟨w7, h6, ew7, hq⟩ := jw_b2_spec hq
    refine jw_callV (As := [va_rf x2, .int x5]) (S := []) (a := a5) (v := none) dX2_change_27 mt_X4_load in_X4_load se_X4_load lk_X2_31 (c_X4_load ew7) eta5 (by decide) rfl rfl (by decide) (Nat.le_of_ble_eq_true rfl) (by cases eoa5; rfl) ?_
    refine jw_aload_n dX2_change_30 (o := x1) rfl ?_
    obtain ⟨v8, ev8, hq⟩ := Option.bind_eq_some_iff.mp hq
    refine jw_getI (o := x1) dX2_change_31 ev8 fl_X2_37 rfl ?_
    rcases jw_if hq with ⟨c9, hq⟩ | ⟨c9, hq⟩
    · refine jw_lookup (off := 50) (tgt := 84) dX2_change_34 (by decide) (jw_lks (l := [(62, 50), (115, 34), (122, 42)]) (by rw [c9]; rfl)) (by decide) ?_
      refine jw_aload_n dX2_change_84 (o := (some x0)) rfl ?_
      refine jw_aload_n dX2_change_85 (o := x1) rfl ?_
      obtain ⟨v10, ev10, hq⟩ := Option.bind_eq_some_iff.mp hq
      refine jw_getI (o := x1) dX2_change_86 ev10 fl_X2_49 rfl ?_
      obtain ⟨a11, ea11, hq⟩ := Option.bind_eq_some_iff.mp hq
      obtain ⟨eoa11, eta11⟩ := jw_rc_spec ea11
      obtain ⟨w13, h12, ew13, hq⟩ := jw_b2_spec hq
      refine jw_callV (As := [.int v10]) (S := []) (a := a11) (v := none) dX2_change_89 mt_X2_shiftBehind in_X2_shiftBehind se_X2_shiftBehind lk_X2_52 (c_X2_shiftBehind ew13) eta11 (by decide) rfl rfl (by decide) (Nat.le_of_ble_eq_true rfl) (by cases eoa11; rfl) ?_
      refine jw_goto (tgt := 103) dX2_change_92 (by decide) ?_
      exact l_X2_change_b103 hk3 hq
    · rcases jw_if hq with ⟨c14, hq⟩ | ⟨c14, hq⟩
      · refine jw_lookup (off := 34) (tgt := 68) dX2_change_34 (by decide) (jw_lks (l := [(62, 50), (115, 34), (122, 42)]) (by rw [lv_osw (a := 62) c9 rfl]; rw [c14]; rfl)) (by decide) ?_
        refine jw_aload_n dX2_change_68 (o := (some x0)) rfl ?_
        refine jw_aload_n dX2_change_69 (o := x1) rfl ?_
        obtain ⟨a15, ea15, hq⟩ := Option.bind_eq_some_iff.mp hq
        obtain ⟨eoa15, eta15⟩ := jw_rc_spec ea15
        obtain ⟨w17, h16, ew17, hq⟩ := jw_b2_spec hq
        refine jw_callV (As := [va_rf x1]) (S := []) (a := a15) (v := none) dX2_change_70 mt_X2_replace in_X2_replace se_X2_replace lk_X2_42 (c_X2_replace ew17) eta15 (by decide) rfl rfl (by decide) (Nat.le_of_ble_eq_true rfl) (by cases eoa15; rfl) ?_
        refine jw_goto (tgt := 103) dX2_change_73 (by decide) ?_
        exact l_X2_change_b103 hk3 hq
      · rcases jw_if hq with ⟨c18, hq⟩ | ⟨c18, hq⟩
        · refine jw_lookup (off := 42) (tgt := 76) dX2_change_34 (by decide) (jw_lks (l := [(62, 50), (115, 34), (122, 42)]) (by rw [lv_osw (a := 62) c9 rfl]; rw [lv_osw (a := 115) c14 rfl]; rw [c18]; rfl)) (by decide) ?_
          refine jw_aload_n dX2_change_76 (o := (some x0)) rfl ?_
          refine jw_aload_n dX2_change_77 (o := x1) rfl ?_
          obtain ⟨a19, ea19, hq⟩ := Option.bind_eq_some_iff.mp hq
          obtain ⟨eoa19, eta19⟩ := jw_rc_spec ea19
          obtain ⟨w21, h20, ew21, hq⟩ := jw_b2_spec hq
          refine jw_callV (As := [va_rf x1]) (S := []) (a := a19) (v := none) dX2_change_78 mt_X2_turn in_X2_turn se_X2_turn lk_X2_46 (c_X2_turn ew21) eta19 (by decide) rfl rfl (by decide) (Nat.le_of_ble_eq_true rfl) (by cases eoa19; rfl) ?_
          refine jw_goto (tgt := 103) dX2_change_81 (by decide) ?_
          exact l_X2_change_b103 hk3 hq
        · refine jw_lookup (off := 61) (tgt := 95) dX2_change_34 (by decide) (jw_lks (l := [(62, 50), (115, 34), (122, 42)]) (by rw [lv_osw (a := 62) c9 rfl]; rw [lv_osw (a := 115) c14 rfl]; rw [lv_osw (a := 122) c18 rfl]; rfl)) (by decide) ?_
          refine jw_aload_n dX2_change_95 (o := (some x0)) rfl ?_
          refine jw_aload_n dX2_change_96 (o := x1) rfl ?_
          obtain ⟨v22, ev22, hq⟩ := Option.bind_eq_some_iff.mp hq
          refine jw_getI (o := x1) dX2_change_97 ev22 fl_X2_49 rfl ?_
          obtain ⟨a23, ea23, hq⟩ := Option.bind_eq_some_iff.mp hq
          obtain ⟨eoa23, eta23⟩ := jw_rc_spec ea23
          obtain ⟨w25, h24, ew25, hq⟩ := jw_b2_spec hq
          refine jw_callV (As := [.int v22]) (S := []) (a := a23) (v := none) dX2_change_100 mt_X2_shiftAhead in_X2_shiftAhead se_X2_shiftAhead lk_X2_56 (c_X2_shiftAhead ew25) eta23 (by decide) rfl rfl (by decide) (Nat.le_of_ble_eq_true rfl) (by cases eoa23; rfl) ?_
          exact l_X2_change_b103 hk3 hq

theorem l_X2_change_b3 {hi : jw_H} : ∀ (n : Nat) (h : jw_H) (x0 : Nat) (x1 : Option Nat) (x2 : Option Nat) (x4 : Int32) (x5 : Int32) (r : Int32) (h' : jw_H), f_X2_change_b3  n h x0 x1 x2 x4 x5 = some (r, h') → jw_E 9 uX2_change hi 3 [some (.ref x0), some (va_rf x1), some (va_rf x2), none, some (.int x4), some (.int x5)] [] h (.inl (some (.int r))) h' := by
  intro n
  induction n with
  | zero => intro h x0 x1 x2 x4 x5 r h' hq; exact nomatch hq
  | succ n ih => intro h x0 x1 x2 x4 x5 r h' hq; exact l_X2_change_b3g ih hq

set_option maxRecDepth 100000 in
set_option maxHeartbeats 4000000 in
theorem l_X2_change {hi : jw_H} {h : jw_H} {x0 : Nat} {x1 : Option Nat} {x2 : Option Nat} {x3 : Int32} {x4 : Int32} {r : Int32} {h' : jw_H} (hq : f_X2_change  h x0 x1 x2 x3 x4 = some (r, h')) : jw_E 9 uX2_change hi 0 [some (.ref x0), some (va_rf x1), some (va_rf x2), some (.int x3), some (.int x4), none] [] h (.inl (some (.int r))) h' := by
  unfold f_X2_change at hq
  refine jw_iload_n dX2_change_0 rfl ?_
  refine jw_istore (L' := [some (.ref x0), some (va_rf x1), some (va_rf x2), some (.int x3), some (.int x4), some (.int x3)]) dX2_change_1 (Nat.le_of_ble_eq_true rfl) rfl ?_
  refine jw_forget [true, true, true, false, true, true] (L' := [some (.ref x0), some (va_rf x1), some (va_rf x2), none, some (.int x4), some (.int x3)]) rfl ?_
  exact l_X2_change_b3  jw_FU _ _ _ _ _ _ _ _ hq

theorem c_X2_change {h : jw_H} {x0 : Nat} {x1 : Option Nat} {x2 : Option Nat} {x3 : Int32} {x4 : Int32} {r : Int32} {h' : jw_H} (hq : f_X2_change h x0 x1 x2 x3 x4 = some (r, h')) : jw_Con (Cond.code yX2_change cX2_change 6 (some .int)) yX2_change 9 [.ref x0, va_rf x1, va_rf x2, .int x3, .int x4] h (.inl (some (.int r))) h' :=
  jw_con false (plainFor_of_name (by decide +kernel)) (fun z => nomatch z) (by simp [jw_ent, jw_sl0_nil, jw_sl0_int, jw_sl0_long, jw_sl0_ref, jw_sl0_rf, jw_sl0_scr, List.replicate]) (by simp [jw_sl0_nil, jw_sl0_int, jw_sl0_long, jw_sl0_ref, jw_sl0_rf, jw_sl0_scr]) (l_X2_change hq)


/-! X7_shrink -/
noncomputable def f_X7_shrink (h : jw_H) (x0 : Nat) (x1 : Int32) : Option (Unit × jw_H) :=
 if x1 < 0 then (some ((), h))
 else ((jw_gI h 7 (some x0) 2).bind fun v2 =>
 if v2 ≤ x1 then (some ((), h))
 else ((jw_pI h 7 (some x0) 2 x1).bind fun h4 =>
 some ((), h4)))

set_option maxRecDepth 100000 in
set_option maxHeartbeats 4000000 in
theorem l_X7_shrink {hi : jw_H} {h : jw_H} {x0 : Nat} {x1 : Int32} {r : Unit} {h' : jw_H} (hq : f_X7_shrink  h x0 x1 = some (r, h')) : jw_E 0 uX7_shrink hi 0 [some (.ref x0), some (.int x1)] [] h (.inl none) h' := by
  unfold f_X7_shrink at hq
  refine jw_iload_n dX7_shrink_0 rfl ?_
  rcases jw_if hq with ⟨c1, hq⟩ | ⟨c1, hq⟩
  · refine jw_if_lt_t (tgt := 17) dX7_shrink_1 (by decide) c1 ?_
    cases hq
    exact jw_vret dX7_shrink_17 rfl
  · refine jw_if_lt_f (tgt := 17) dX7_shrink_1 (by decide) c1 ?_
    refine jw_iload_n dX7_shrink_4 rfl ?_
    refine jw_aload_n dX7_shrink_5 (o := (some x0)) rfl ?_
    obtain ⟨v2, ev2, hq⟩ := Option.bind_eq_some_iff.mp hq
    refine jw_getI (o := (some x0)) dX7_shrink_6 ev2 fl_X7_25 rfl ?_
    rcases jw_if hq with ⟨c3, hq⟩ | ⟨c3, hq⟩
    · refine jw_icmp_ge_t (tgt := 17) dX7_shrink_9 (by decide) c3 ?_
      cases hq
      exact jw_vret dX7_shrink_17 rfl
    · refine jw_icmp_ge_f (tgt := 17) dX7_shrink_9 (by decide) c3 ?_
      refine jw_aload_n dX7_shrink_12 (o := (some x0)) rfl ?_
      refine jw_iload_n dX7_shrink_13 rfl ?_
      obtain ⟨h4, eh4, hq⟩ := Option.bind_eq_some_iff.mp hq
      refine jw_putI (o := (some x0)) dX7_shrink_14 eh4 fl_X7_25 rfl rfl ?_
      cases hq
      exact jw_vret dX7_shrink_17 rfl

theorem c_X7_shrink {h : jw_H} {x0 : Nat} {x1 : Int32} {r : Unit} {h' : jw_H} (hq : f_X7_shrink h x0 x1 = some (r, h')) : jw_Con (Cond.code yX7_shrink cX7_shrink 2 none) yX7_shrink 0 [.ref x0, .int x1] h (.inl none) h' :=
  jw_con false (plainFor_of_name (by decide +kernel)) (fun z => nomatch z) (by simp [jw_ent, jw_sl0_nil, jw_sl0_int, jw_sl0_long, jw_sl0_ref, jw_sl0_rf, jw_sl0_scr, List.replicate]) (by simp [jw_sl0_nil, jw_sl0_int, jw_sl0_long, jw_sl0_ref, jw_sl0_rf, jw_sl0_scr]) (l_X7_shrink hq)


/-! X7_add -/
noncomputable def f_X7_add (h : jw_H) (x0 : Nat) (x1 : Option Nat) (x2 : Int32) (x3 : Int32) : Option (Int32 × jw_H) :=
 (jw_gI h 7 (some x0) 2).bind fun v1 =>
 if v1 < 0 then (some ((0 : Int32), h))
 else ((jw_gI h 7 (some x0) 2).bind fun v3 =>
 (jw_gR h 7 (some x0) 0).bind fun v4 =>
 (jw_ln h v4).bind fun v5 =>
 if v3 < v5 then (if x3 < 0 then (some ((0 : Int32), h))
 else (if (30 : Int32) < x3 then (some ((0 : Int32), h))
 else (if x2 < 0 then (some ((0 : Int32), h))
 else ((jw_ln h x1).bind fun v10 =>
 if x2 ≤ (v10 - x3) then ((jw_gR h 7 (some x0) 1).bind fun v12 =>
 (jw_gI h 7 (some x0) 2).bind fun v13 =>
 (jw_cp h 21 x1 x2 v12 (v13 * (30 : Int32)) x3).bind fun h14 =>
 (jw_gR h14 7 (some x0) 0).bind fun v15 =>
 (jw_gI h14 7 (some x0) 2).bind fun v16 =>
 (jw_si h14 20 v15 v16 x3).bind fun h17 =>
 (jw_gI h17 7 (some x0) 2).bind fun v18 =>
 (jw_pI h17 7 (some x0) 2 (v18 + (1 : Int32))).bind fun h19 =>
 some ((1 : Int32), h19))
 else (some ((0 : Int32), h))))))
 else (some ((0 : Int32), h)))

set_option maxRecDepth 100000 in
set_option maxHeartbeats 4000000 in
theorem l_X7_add {hi : jw_H} {h : jw_H} {x0 : Nat} {x1 : Option Nat} {x2 : Int32} {x3 : Int32} {r : Int32} {h' : jw_H} (hq : f_X7_add  h x0 x1 x2 x3 = some (r, h')) : jw_E 1 uX7_add hi 0 [some (.ref x0), some (va_rf x1), some (.int x2), some (.int x3)] [] h (.inl (some (.int r))) h' := by
  unfold f_X7_add at hq
  refine jw_aload_n dX7_add_0 (o := (some x0)) rfl ?_
  obtain ⟨v1, ev1, hq⟩ := Option.bind_eq_some_iff.mp hq
  refine jw_getI (o := (some x0)) dX7_add_1 ev1 fl_X7_25 rfl ?_
  rcases jw_if hq with ⟨c2, hq⟩ | ⟨c2, hq⟩
  · refine jw_if_lt_t (tgt := 19) dX7_add_4 (by decide) c2 ?_
    refine jw_iconst dX7_add_19 (v := (0 : Int32)) (by decide) ?_
    cases hq
    exact jw_iret (ty := .boolean) dX7_add_20 rfl rfl
  · refine jw_if_lt_f (tgt := 19) dX7_add_4 (by decide) c2 ?_
    refine jw_aload_n dX7_add_7 (o := (some x0)) rfl ?_
    obtain ⟨v3, ev3, hq⟩ := Option.bind_eq_some_iff.mp hq
    refine jw_getI (o := (some x0)) dX7_add_8 ev3 fl_X7_25 rfl ?_
    refine jw_aload_n dX7_add_11 (o := (some x0)) rfl ?_
    obtain ⟨v4, ev4, hq⟩ := Option.bind_eq_some_iff.mp hq
    refine jw_getR (o := (some x0)) dX7_add_12 ev4 fl_X7_15 rfl ?_
    obtain ⟨v5, ev5, hq⟩ := Option.bind_eq_some_iff.mp hq
    refine jw_alen (o := v4) dX7_add_15 ev5 ?_
    rcases jw_if hq with ⟨c6, hq⟩ | ⟨c6, hq⟩
    · refine jw_icmp_lt_t (tgt := 21) dX7_add_16 (by decide) c6 ?_
      refine jw_iload_n dX7_add_21 rfl ?_
      rcases jw_if hq with ⟨c7, hq⟩ | ⟨c7, hq⟩
      · refine jw_if_lt_t (tgt := 43) dX7_add_22 (by decide) c7 ?_
        refine jw_iconst dX7_add_43 (v := (0 : Int32)) (by decide) ?_
        cases hq
        exact jw_iret (ty := .boolean) dX7_add_44 rfl rfl
      · refine jw_if_lt_f (tgt := 43) dX7_add_22 (by decide) c7 ?_
        refine jw_iload_n dX7_add_25 rfl ?_
        refine jw_bipush dX7_add_26 (v := (30 : Int32)) (by decide) ?_
        rcases jw_if hq with ⟨c8, hq⟩ | ⟨c8, hq⟩
        · refine jw_icmp_gt_t (tgt := 43) dX7_add_28 (by decide) c8 ?_
          refine jw_iconst dX7_add_43 (v := (0 : Int32)) (by decide) ?_
          cases hq
          exact jw_iret (ty := .boolean) dX7_add_44 rfl rfl
        · refine jw_icmp_gt_f (tgt := 43) dX7_add_28 (by decide) c8 ?_
          refine jw_iload_n dX7_add_31 rfl ?_
          rcases jw_if hq with ⟨c9, hq⟩ | ⟨c9, hq⟩
          · refine jw_if_lt_t (tgt := 43) dX7_add_32 (by decide) c9 ?_
            refine jw_iconst dX7_add_43 (v := (0 : Int32)) (by decide) ?_
            cases hq
            exact jw_iret (ty := .boolean) dX7_add_44 rfl rfl
          · refine jw_if_lt_f (tgt := 43) dX7_add_32 (by decide) c9 ?_
            refine jw_iload_n dX7_add_35 rfl ?_
            refine jw_aload_n dX7_add_36 (o := x1) rfl ?_
            obtain ⟨v10, ev10, hq⟩ := Option.bind_eq_some_iff.mp hq
            refine jw_alen (o := x1) dX7_add_37 ev10 ?_
            refine jw_iload_n dX7_add_38 rfl ?_
            refine jw_isub dX7_add_39 ?_
            rcases jw_if hq with ⟨c11, hq⟩ | ⟨c11, hq⟩
            · refine jw_icmp_le_t (tgt := 45) dX7_add_40 (by decide) c11 ?_
              refine jw_aload_n dX7_add_45 (o := x1) rfl ?_
              refine jw_iload_n dX7_add_46 rfl ?_
              refine jw_aload_n dX7_add_47 (o := (some x0)) rfl ?_
              obtain ⟨v12, ev12, hq⟩ := Option.bind_eq_some_iff.mp hq
              refine jw_getR (o := (some x0)) dX7_add_48 ev12 fl_X7_21 rfl ?_
              refine jw_aload_n dX7_add_51 (o := (some x0)) rfl ?_
              obtain ⟨v13, ev13, hq⟩ := Option.bind_eq_some_iff.mp hq
              refine jw_getI (o := (some x0)) dX7_add_52 ev13 fl_X7_25 rfl ?_
              refine jw_bipush dX7_add_55 (v := (30 : Int32)) (by decide) ?_
              refine jw_imul dX7_add_57 ?_
              refine jw_iload_n dX7_add_58 rfl ?_
              obtain ⟨h14, eh14, hq⟩ := Option.bind_eq_some_iff.mp hq
              refine jw_acp (o1 := x1) (o2 := v12) (t := 21) dX7_add_59 (by decide) al_X7_32 an_0 as_0 ai_0 (by decide) (Nat.le_of_ble_eq_true rfl) eh14 ?_
              refine jw_aload_n dX7_add_62 (o := (some x0)) rfl ?_
              obtain ⟨v15, ev15, hq⟩ := Option.bind_eq_some_iff.mp hq
              refine jw_getR (o := (some x0)) dX7_add_63 ev15 fl_X7_15 rfl ?_
              refine jw_aload_n dX7_add_66 (o := (some x0)) rfl ?_
              obtain ⟨v16, ev16, hq⟩ := Option.bind_eq_some_iff.mp hq
              refine jw_getI (o := (some x0)) dX7_add_67 ev16 fl_X7_25 rfl ?_
              refine jw_iload_n dX7_add_70 rfl ?_
              obtain ⟨h17, eh17, hq⟩ := Option.bind_eq_some_iff.mp hq
              refine jw_iast (o := v15) dX7_add_71 eh17 ?_
              refine jw_aload_n dX7_add_72 (o := (some x0)) rfl ?_
              refine jw_dup dX7_add_73 rfl ?_
              obtain ⟨v18, ev18, hq⟩ := Option.bind_eq_some_iff.mp hq
              refine jw_getI (o := (some x0)) dX7_add_74 ev18 fl_X7_25 rfl ?_
              refine jw_iconst dX7_add_77 (v := (1 : Int32)) (by decide) ?_
              refine jw_iadd dX7_add_78 ?_
              obtain ⟨h19, eh19, hq⟩ := Option.bind_eq_some_iff.mp hq
              refine jw_putI (o := (some x0)) dX7_add_79 eh19 fl_X7_25 rfl rfl ?_
              refine jw_iconst dX7_add_82 (v := (1 : Int32)) (by decide) ?_
              cases hq
              exact jw_iret (ty := .boolean) dX7_add_83 rfl rfl
            · refine jw_icmp_le_f (tgt := 45) dX7_add_40 (by decide) c11 ?_
              refine jw_iconst dX7_add_43 (v := (0 : Int32)) (by decide) ?_
              cases hq
              exact jw_iret (ty := .boolean) dX7_add_44 rfl rfl
    · refine jw_icmp_lt_f (tgt := 21) dX7_add_16 (by decide) c6 ?_
      refine jw_iconst dX7_add_19 (v := (0 : Int32)) (by decide) ?_
      cases hq
      exact jw_iret (ty := .boolean) dX7_add_20 rfl rfl

theorem c_X7_add {h : jw_H} {x0 : Nat} {x1 : Option Nat} {x2 : Int32} {x3 : Int32} {r : Int32} {h' : jw_H} (hq : f_X7_add h x0 x1 x2 x3 = some (r, h')) : jw_Con (Cond.code yX7_add cX7_add 4 (some .boolean)) yX7_add 1 [.ref x0, va_rf x1, .int x2, .int x3] h (.inl (some (.int r))) h' :=
  jw_con false (plainFor_of_name (by decide +kernel)) (fun z => nomatch z) (by simp [jw_ent, jw_sl0_nil, jw_sl0_int, jw_sl0_long, jw_sl0_ref, jw_sl0_rf, jw_sl0_scr, List.replicate]) (by simp [jw_sl0_nil, jw_sl0_int, jw_sl0_long, jw_sl0_ref, jw_sl0_rf, jw_sl0_scr]) (l_X7_add hq)


/-! X6_rowsOf -/
noncomputable def g_X6_rowsOf_b71 (k16 : jw_H → Nat → Option Nat → Option Nat → Int32 → Int32 → Option (Unit × jw_H)) (h : jw_H) (x0 : Nat) (x1 : Option Nat) (x2 : Option Nat) (x3 : Int32) (x4 : Int32) : Option (Unit × jw_H) :=
 k16 h x0 x1 x2 x3 (x4 + (1 : Int32))

noncomputable def g_X6_rowsOf_b52 (k16 : jw_H → Nat → Option Nat → Option Nat → Int32 → Int32 → Option (Unit × jw_H)) (h : jw_H) (x0 : Nat) (x1 : Option Nat) (x2 : Option Nat) (x3 : Int32) (x4 : Int32) : Option (Unit × jw_H) :=
 (jw_gR h 6 (some x0) 3).bind fun v1 =>
 (jw_rc h 7 x2).bind fun a2 =>
 jw_b2 (f_X7_add h a2 v1 x3 (x4 - x3)) fun w4 h3 =>
 g_X6_rowsOf_b71 k16 h3 x0 x1 x2 (x4 + (1 : Int32)) x4

noncomputable def g_X6_rowsOf_b16 (k16 : jw_H → Nat → Option Nat → Option Nat → Int32 → Int32 → Option (Unit × jw_H)) (h : jw_H) (x0 : Nat) (x1 : Option Nat) (x2 : Option Nat) (x3 : Int32) (x4 : Int32) : Option (Unit × jw_H) :=
 (jw_gI h 5 x1 8).bind fun v1 =>
 if v1 < x4 then (some ((), h))
 else (if (60 : Int32) < x4 then (some ((), h))
 else ((jw_gI h 5 x1 8).bind fun v4 =>
 if x4 = v4 then (g_X6_rowsOf_b52 k16 h x0 x1 x2 x3 x4)
 else ((jw_rc h 6 (some x0)).bind fun a6 =>
 jw_b2 (f_X6_signAt h a6 x4) fun w8 h7 =>
 if w8 = (124 : Int32) then (g_X6_rowsOf_b52 k16 h7 x0 x1 x2 x3 x4)
 else (g_X6_rowsOf_b71 k16 h7 x0 x1 x2 x3 x4))))

noncomputable def f_X6_rowsOf_b16 (n : Nat) : jw_H → Nat → Option Nat → Option Nat → Int32 → Int32 → Option (Unit × jw_H) :=
 Nat.rec (fun _ _ _ _ _ _ => none) (fun _ k16 => g_X6_rowsOf_b16 k16) n

noncomputable def f_X6_rowsOf (h : jw_H) (x0 : Nat) (x1 : Option Nat) (x2 : Option Nat) : Option (Unit × jw_H) :=
 (jw_rc h 7 x2).bind fun a1 =>
 jw_b2 (f_X7_shrink h a1 (0 : Int32)) fun w3 h2 =>
 (jw_gI h2 5 x1 7).bind fun v4 =>
 (jw_gI h2 5 x1 7).bind fun v5 =>
 f_X6_rowsOf_b16  jw_FU h2 x0 x1 x2 v4 v5

set_option maxRecDepth 100000 in
set_option maxHeartbeats 4000000 in
theorem l_X6_rowsOf_b71 {hi : jw_H} {k16 : jw_H → Nat → Option Nat → Option Nat → Int32 → Int32 → Option (Unit × jw_H)} (hk16 : ∀ (h : jw_H) (x0 : Nat) (x1 : Option Nat) (x2 : Option Nat) (x3 : Int32) (x4 : Int32) (r : Unit) (h' : jw_H), k16 h x0 x1 x2 x3 x4 = some (r, h') → jw_E 2 uX6_rowsOf hi 16 [some (.ref x0), some (va_rf x1), some (va_rf x2), some (.int x3), some (.int x4)] [] h (.inl none) h') {h : jw_H} {x0 : Nat} {x1 : Option Nat} {x2 : Option Nat} {x3 : Int32} {x4 : Int32} {r : Unit} {h' : jw_H} (hq : g_X6_rowsOf_b71 k16 h x0 x1 x2 x3 x4 = some (r, h')) : jw_E 2 uX6_rowsOf hi 71 [some (.ref x0), some (va_rf x1), some (va_rf x2), some (.int x3), some (.int x4)] [] h (.inl none) h' := by
  unfold g_X6_rowsOf_b71 at hq
  refine jw_iinc (L' := [some (.ref x0), some (va_rf x1), some (va_rf x2), some (.int x3), some (.int (x4 + (1 : Int32)))]) dX6_rowsOf_71 rfl (v := (1 : Int32)) (by decide) (Nat.le_of_ble_eq_true rfl) rfl ?_
  refine jw_goto (tgt := 16) dX6_rowsOf_74 (by decide) ?_
  exact hk16 _ _ _ _ _ _ _ _ hq

set_option maxRecDepth 100000 in
set_option maxHeartbeats 4000000 in
theorem l_X6_rowsOf_b52 {hi : jw_H} {k16 : jw_H → Nat → Option Nat → Option Nat → Int32 → Int32 → Option (Unit × jw_H)} (hk16 : ∀ (h : jw_H) (x0 : Nat) (x1 : Option Nat) (x2 : Option Nat) (x3 : Int32) (x4 : Int32) (r : Unit) (h' : jw_H), k16 h x0 x1 x2 x3 x4 = some (r, h') → jw_E 2 uX6_rowsOf hi 16 [some (.ref x0), some (va_rf x1), some (va_rf x2), some (.int x3), some (.int x4)] [] h (.inl none) h') {h : jw_H} {x0 : Nat} {x1 : Option Nat} {x2 : Option Nat} {x3 : Int32} {x4 : Int32} {r : Unit} {h' : jw_H} (hq : g_X6_rowsOf_b52 k16 h x0 x1 x2 x3 x4 = some (r, h')) : jw_E 2 uX6_rowsOf hi 52 [some (.ref x0), some (va_rf x1), some (va_rf x2), some (.int x3), some (.int x4)] [] h (.inl none) h' := by
  unfold g_X6_rowsOf_b52 at hq
  refine jw_aload_n dX6_rowsOf_52 (o := x2) rfl ?_
  refine jw_aload_n dX6_rowsOf_53 (o := (some x0)) rfl ?_
  obtain ⟨v1, ev1, hq⟩ := Option.bind_eq_some_iff.mp hq
  refine jw_getR (o := (some x0)) dX6_rowsOf_54 ev1 fl_X6_26 rfl ?_
  refine jw_iload_n dX6_rowsOf_57 rfl ?_
  refine jw_iload dX6_rowsOf_58 rfl ?_
  refine jw_iload_n dX6_rowsOf_60 rfl ?_
  refine jw_isub dX6_rowsOf_61 ?_
  obtain ⟨a2, ea2, hq⟩ := Option.bind_eq_some_iff.mp hq
  obtain ⟨eoa2, eta2⟩ := jw_rc_spec ea2
  obtain ⟨w4, h3, ew4, hq⟩ := jw_b2_spec hq
  refine jw_callV (As := [va_rf v1, .int x3, .int (x4 - x3)]) (S := []) (a := a2) (v := some (.int w4)) dX6_rowsOf_62 mt_X7_add in_X7_add se_X7_add lk_X6_201 (c_X7_add ew4) eta2 (by decide) rfl rfl (by decide) (Nat.le_of_ble_eq_true rfl) (by cases eoa2; rfl) ?_
  refine jw_pop dX6_rowsOf_65 rfl ?_
  refine jw_iload dX6_rowsOf_66 rfl ?_
  refine jw_iconst dX6_rowsOf_68 (v := (1 : Int32)) (by decide) ?_
  refine jw_iadd dX6_rowsOf_69 ?_
  refine jw_istore_n (L' := [some (.ref x0), some (va_rf x1), some (va_rf x2), some (.int (x4 + (1 : Int32))), some (.int x4)]) dX6_rowsOf_70 (Nat.le_of_ble_eq_true rfl) ((jw_st1_of (j := 2) jw_long_rf).trans rfl) ?_
  exact l_X6_rowsOf_b71 hk16 hq

set_option maxRecDepth 100000 in
set_option maxHeartbeats 4000000 in
theorem l_X6_rowsOf_b16g {hi : jw_H} {k16 : jw_H → Nat → Option Nat → Option Nat → Int32 → Int32 → Option (Unit × jw_H)} (hk16 : ∀ (h : jw_H) (x0 : Nat) (x1 : Option Nat) (x2 : Option Nat) (x3 : Int32) (x4 : Int32) (r : Unit) (h' : jw_H), k16 h x0 x1 x2 x3 x4 = some (r, h') → jw_E 2 uX6_rowsOf hi 16 [some (.ref x0), some (va_rf x1), some (va_rf x2), some (.int x3), some (.int x4)] [] h (.inl none) h') {h : jw_H} {x0 : Nat} {x1 : Option Nat} {x2 : Option Nat} {x3 : Int32} {x4 : Int32} {r : Unit} {h' : jw_H} (hq : g_X6_rowsOf_b16 k16 h x0 x1 x2 x3 x4 = some (r, h')) : jw_E 2 uX6_rowsOf hi 16 [some (.ref x0), some (va_rf x1), some (va_rf x2), some (.int x3), some (.int x4)] [] h (.inl none) h' := by
  unfold g_X6_rowsOf_b16 at hq
  refine jw_iload dX6_rowsOf_16 rfl ?_
  refine jw_aload_n dX6_rowsOf_18 (o := x1) rfl ?_
  obtain ⟨v1, ev1, hq⟩ := Option.bind_eq_some_iff.mp hq
  refine jw_getI (o := x1) dX6_rowsOf_19 ev1 fl_X6_162 rfl ?_
  rcases jw_if hq with ⟨c2, hq⟩ | ⟨c2, hq⟩
  · refine jw_icmp_gt_t (tgt := 77) dX6_rowsOf_22 (by decide) c2 ?_
    cases hq
    exact jw_vret dX6_rowsOf_77 rfl
  · refine jw_icmp_gt_f (tgt := 77) dX6_rowsOf_22 (by decide) c2 ?_
    refine jw_iload dX6_rowsOf_25 rfl ?_
    refine jw_bipush dX6_rowsOf_27 (v := (60 : Int32)) (by decide) ?_
    rcases jw_if hq with ⟨c3, hq⟩ | ⟨c3, hq⟩
    · refine jw_icmp_gt_t (tgt := 77) dX6_rowsOf_29 (by decide) c3 ?_
      cases hq
      exact jw_vret dX6_rowsOf_77 rfl
    · refine jw_icmp_gt_f (tgt := 77) dX6_rowsOf_29 (by decide) c3 ?_
      refine jw_iload dX6_rowsOf_32 rfl ?_
      refine jw_aload_n dX6_rowsOf_34 (o := x1) rfl ?_
      obtain ⟨v4, ev4, hq⟩ := Option.bind_eq_some_iff.mp hq
      refine jw_getI (o := x1) dX6_rowsOf_35 ev4 fl_X6_162 rfl ?_
      rcases jw_if hq with ⟨c5, hq⟩ | ⟨c5, hq⟩
      · refine jw_icmp_eq_t (tgt := 52) dX6_rowsOf_38 (by decide) c5 ?_
        exact l_X6_rowsOf_b52 hk16 hq
      · refine jw_icmp_eq_f (tgt := 52) dX6_rowsOf_38 (by decide) c5 ?_
        refine jw_aload_n dX6_rowsOf_41 (o := (some x0)) rfl ?_
        refine jw_iload dX6_rowsOf_42 rfl ?_
        obtain ⟨a6, ea6, hq⟩ := Option.bind_eq_some_iff.mp hq
        obtain ⟨eoa6, eta6⟩ := jw_rc_spec ea6
        obtain ⟨w8, h7, ew8, hq⟩ := jw_b2_spec hq
        refine jw_callV (As := [.int x4]) (S := []) (a := a6) (v := some (.int w8)) dX6_rowsOf_44 mt_X6_signAt in_X6_signAt se_X6_signAt lk_X6_197 (c_X6_signAt ew8) eta6 (by decide) rfl rfl (by decide) (Nat.le_of_ble_eq_true rfl) (by cases eoa6; rfl) ?_
        refine jw_bipush dX6_rowsOf_47 (v := (124 : Int32)) (by decide) ?_
        rcases jw_if hq with ⟨c9, hq⟩ | ⟨c9, hq⟩
        · refine jw_icmp_ne_f (tgt := 71) dX6_rowsOf_49 (by decide) c9 ?_
          exact l_X6_rowsOf_b52 hk16 hq
        · refine jw_icmp_ne_t (tgt := 71) dX6_rowsOf_49 (by decide) c9 ?_
          exact l_X6_rowsOf_b71 hk16 hq

theorem l_X6_rowsOf_b16 {hi : jw_H} : ∀ (n : Nat) (h : jw_H) (x0 : Nat) (x1 : Option Nat) (x2 : Option Nat) (x3 : Int32) (x4 : Int32) (r : Unit) (h' : jw_H), f_X6_rowsOf_b16  n h x0 x1 x2 x3 x4 = some (r, h') → jw_E 2 uX6_rowsOf hi 16 [some (.ref x0), some (va_rf x1), some (va_rf x2), some (.int x3), some (.int x4)] [] h (.inl none) h' := by
  intro n
  induction n with
  | zero => intro h x0 x1 x2 x3 x4 r h' hq; exact nomatch hq
  | succ n ih => intro h x0 x1 x2 x3 x4 r h' hq; exact l_X6_rowsOf_b16g ih hq

set_option maxRecDepth 100000 in
set_option maxHeartbeats 4000000 in
theorem l_X6_rowsOf {hi : jw_H} {h : jw_H} {x0 : Nat} {x1 : Option Nat} {x2 : Option Nat} {r : Unit} {h' : jw_H} (hq : f_X6_rowsOf  h x0 x1 x2 = some (r, h')) : jw_E 2 uX6_rowsOf hi 0 [some (.ref x0), some (va_rf x1), some (va_rf x2), none, none] [] h (.inl none) h' := by
  unfold f_X6_rowsOf at hq
  refine jw_aload_n dX6_rowsOf_0 (o := x2) rfl ?_
  refine jw_iconst dX6_rowsOf_1 (v := (0 : Int32)) (by decide) ?_
  obtain ⟨a1, ea1, hq⟩ := Option.bind_eq_some_iff.mp hq
  obtain ⟨eoa1, eta1⟩ := jw_rc_spec ea1
  obtain ⟨w3, h2, ew3, hq⟩ := jw_b2_spec hq
  refine jw_callV (As := [.int (0 : Int32)]) (S := []) (a := a1) (v := none) dX6_rowsOf_2 mt_X7_shrink in_X7_shrink se_X7_shrink lk_X6_191 (c_X7_shrink ew3) eta1 (by decide) rfl rfl (by decide) (Nat.le_of_ble_eq_true rfl) (by cases eoa1; rfl) ?_
  refine jw_aload_n dX6_rowsOf_5 (o := x1) rfl ?_
  obtain ⟨v4, ev4, hq⟩ := Option.bind_eq_some_iff.mp hq
  refine jw_getI (o := x1) dX6_rowsOf_6 ev4 fl_X6_155 rfl ?_
  refine jw_istore_n (L' := [some (.ref x0), some (va_rf x1), some (va_rf x2), some (.int v4), none]) dX6_rowsOf_9 (Nat.le_of_ble_eq_true rfl) ((jw_st1_of (j := 2) jw_long_rf).trans rfl) ?_
  refine jw_aload_n dX6_rowsOf_10 (o := x1) rfl ?_
  obtain ⟨v5, ev5, hq⟩ := Option.bind_eq_some_iff.mp hq
  refine jw_getI (o := x1) dX6_rowsOf_11 ev5 fl_X6_155 rfl ?_
  refine jw_istore (L' := [some (.ref x0), some (va_rf x1), some (va_rf x2), some (.int v4), some (.int v5)]) dX6_rowsOf_14 (Nat.le_of_ble_eq_true rfl) rfl ?_
  exact l_X6_rowsOf_b16  jw_FU _ _ _ _ _ _ _ _ hq

theorem c_X6_rowsOf {h : jw_H} {x0 : Nat} {x1 : Option Nat} {x2 : Option Nat} {r : Unit} {h' : jw_H} (hq : f_X6_rowsOf h x0 x1 x2 = some (r, h')) : jw_Con (Cond.code yX6_rowsOf cX6_rowsOf 5 none) yX6_rowsOf 2 [.ref x0, va_rf x1, va_rf x2] h (.inl none) h' :=
  jw_con false (plainFor_of_name (by decide +kernel)) (fun z => nomatch z) (by simp [jw_ent, jw_sl0_nil, jw_sl0_int, jw_sl0_long, jw_sl0_ref, jw_sl0_rf, jw_sl0_scr, List.replicate]) (by simp [jw_sl0_nil, jw_sl0_int, jw_sl0_long, jw_sl0_ref, jw_sl0_rf, jw_sl0_scr]) (l_X6_rowsOf hq)


/-! X9_dropMarks -/
noncomputable def g_X9_dropMarks_b28 (k2 : jw_H → Nat → Int32 → Int32 → Option (Unit × jw_H)) (h : jw_H) (x0 : Nat) (x1 : Int32) (x2 : Int32) : Option (Unit × jw_H) :=
 k2 h x0 x1 (x2 + (1 : Int32))

noncomputable def g_X9_dropMarks_b2 (k2 : jw_H → Nat → Int32 → Int32 → Option (Unit × jw_H)) (h : jw_H) (x0 : Nat) (x1 : Int32) (x2 : Int32) : Option (Unit × jw_H) :=
 (jw_gR h 9 (some x0) 2).bind fun v1 =>
 (jw_ln h v1).bind fun v2 =>
 if v2 ≤ x2 then (some ((), h))
 else ((jw_gR h 9 (some x0) 2).bind fun v4 =>
 (jw_ai h 20 v4 x2).bind fun v5 =>
 if v5 = x1 then ((jw_gR h 9 (some x0) 2).bind fun v7 =>
 (jw_si h 20 v7 x2 (-1 : Int32)).bind fun h8 =>
 g_X9_dropMarks_b28 k2 h8 x0 x1 x2)
 else (g_X9_dropMarks_b28 k2 h x0 x1 x2))

noncomputable def f_X9_dropMarks_b2 (n : Nat) : jw_H → Nat → Int32 → Int32 → Option (Unit × jw_H) :=
 Nat.rec (fun _ _ _ _ => none) (fun _ k2 => g_X9_dropMarks_b2 k2) n

noncomputable def f_X9_dropMarks (h : jw_H) (x0 : Nat) (x1 : Int32) : Option (Unit × jw_H) :=
 f_X9_dropMarks_b2  jw_FU h x0 x1 (0 : Int32)

set_option maxRecDepth 100000 in
set_option maxHeartbeats 4000000 in
theorem l_X9_dropMarks_b28 {hi : jw_H} {k2 : jw_H → Nat → Int32 → Int32 → Option (Unit × jw_H)} (hk2 : ∀ (h : jw_H) (x0 : Nat) (x1 : Int32) (x2 : Int32) (r : Unit) (h' : jw_H), k2 h x0 x1 x2 = some (r, h') → jw_E 0 uX9_dropMarks hi 2 [some (.ref x0), some (.int x1), some (.int x2)] [] h (.inl none) h') {h : jw_H} {x0 : Nat} {x1 : Int32} {x2 : Int32} {r : Unit} {h' : jw_H} (hq : g_X9_dropMarks_b28 k2 h x0 x1 x2 = some (r, h')) : jw_E 0 uX9_dropMarks hi 28 [some (.ref x0), some (.int x1), some (.int x2)] [] h (.inl none) h' := by
  unfold g_X9_dropMarks_b28 at hq
  refine jw_iinc (L' := [some (.ref x0), some (.int x1), some (.int (x2 + (1 : Int32)))]) dX9_dropMarks_28 rfl (v := (1 : Int32)) (by decide) (Nat.le_of_ble_eq_true rfl) rfl ?_
  refine jw_goto (tgt := 2) dX9_dropMarks_31 (by decide) ?_
  exact hk2 _ _ _ _ _ _ hq

set_option maxRecDepth 100000 in
set_option maxHeartbeats 4000000 in
theorem l_X9_dropMarks_b2g {hi : jw_H} {k2 : jw_H → Nat → Int32 → Int32 → Option (Unit × jw_H)} (hk2 : ∀ (h : jw_H) (x0 : Nat) (x1 : Int32) (x2 : Int32) (r : Unit) (h' : jw_H), k2 h x0 x1 x2 = some (r, h') → jw_E 0 uX9_dropMarks hi 2 [some (.ref x0), some (.int x1), some (.int x2)] [] h (.inl none) h') {h : jw_H} {x0 : Nat} {x1 : Int32} {x2 : Int32} {r : Unit} {h' : jw_H} (hq : g_X9_dropMarks_b2 k2 h x0 x1 x2 = some (r, h')) : jw_E 0 uX9_dropMarks hi 2 [some (.ref x0), some (.int x1), some (.int x2)] [] h (.inl none) h' := by
  unfold g_X9_dropMarks_b2 at hq
  refine jw_iload_n dX9_dropMarks_2 rfl ?_
  refine jw_aload_n dX9_dropMarks_3 (o := (some x0)) rfl ?_
  obtain ⟨v1, ev1, hq⟩ := Option.bind_eq_some_iff.mp hq
  refine jw_getR (o := (some x0)) dX9_dropMarks_4 ev1 fl_X9_24 rfl ?_
  obtain ⟨v2, ev2, hq⟩ := Option.bind_eq_some_iff.mp hq
  refine jw_alen (o := v1) dX9_dropMarks_7 ev2 ?_
  rcases jw_if hq with ⟨c3, hq⟩ | ⟨c3, hq⟩
  · refine jw_icmp_ge_t (tgt := 34) dX9_dropMarks_8 (by decide) c3 ?_
    cases hq
    exact jw_vret dX9_dropMarks_34 rfl
  · refine jw_icmp_ge_f (tgt := 34) dX9_dropMarks_8 (by decide) c3 ?_
    refine jw_aload_n dX9_dropMarks_11 (o := (some x0)) rfl ?_
    obtain ⟨v4, ev4, hq⟩ := Option.bind_eq_some_iff.mp hq
    refine jw_getR (o := (some x0)) dX9_dropMarks_12 ev4 fl_X9_24 rfl ?_
    refine jw_iload_n dX9_dropMarks_15 rfl ?_
    obtain ⟨v5, ev5, hq⟩ := Option.bind_eq_some_iff.mp hq
    refine jw_iald (o := v4) dX9_dropMarks_16 ev5 ?_
    refine jw_iload_n dX9_dropMarks_17 rfl ?_
    rcases jw_if hq with ⟨c6, hq⟩ | ⟨c6, hq⟩
    · refine jw_icmp_ne_f (tgt := 28) dX9_dropMarks_18 (by decide) c6 ?_
      refine jw_aload_n dX9_dropMarks_21 (o := (some x0)) rfl ?_
      obtain ⟨v7, ev7, hq⟩ := Option.bind_eq_some_iff.mp hq
      refine jw_getR (o := (some x0)) dX9_dropMarks_22 ev7 fl_X9_24 rfl ?_
      refine jw_iload_n dX9_dropMarks_25 rfl ?_
      refine jw_iconst dX9_dropMarks_26 (v := (-1 : Int32)) (by decide) ?_
      obtain ⟨h8, eh8, hq⟩ := Option.bind_eq_some_iff.mp hq
      refine jw_iast (o := v7) dX9_dropMarks_27 eh8 ?_
      exact l_X9_dropMarks_b28 hk2 hq
    · refine jw_icmp_ne_t (tgt := 28) dX9_dropMarks_18 (by decide) c6 ?_
      exact l_X9_dropMarks_b28 hk2 hq

theorem l_X9_dropMarks_b2 {hi : jw_H} : ∀ (n : Nat) (h : jw_H) (x0 : Nat) (x1 : Int32) (x2 : Int32) (r : Unit) (h' : jw_H), f_X9_dropMarks_b2  n h x0 x1 x2 = some (r, h') → jw_E 0 uX9_dropMarks hi 2 [some (.ref x0), some (.int x1), some (.int x2)] [] h (.inl none) h' := by
  intro n
  induction n with
  | zero => intro h x0 x1 x2 r h' hq; exact nomatch hq
  | succ n ih => intro h x0 x1 x2 r h' hq; exact l_X9_dropMarks_b2g ih hq

set_option maxRecDepth 100000 in
set_option maxHeartbeats 4000000 in
theorem l_X9_dropMarks {hi : jw_H} {h : jw_H} {x0 : Nat} {x1 : Int32} {r : Unit} {h' : jw_H} (hq : f_X9_dropMarks  h x0 x1 = some (r, h')) : jw_E 0 uX9_dropMarks hi 0 [some (.ref x0), some (.int x1), none] [] h (.inl none) h' := by
  unfold f_X9_dropMarks at hq
  refine jw_iconst dX9_dropMarks_0 (v := (0 : Int32)) (by decide) ?_
  refine jw_istore_n (L' := [some (.ref x0), some (.int x1), some (.int (0 : Int32))]) dX9_dropMarks_1 (Nat.le_of_ble_eq_true rfl) rfl ?_
  exact l_X9_dropMarks_b2  jw_FU _ _ _ _ _ _ hq

theorem c_X9_dropMarks {h : jw_H} {x0 : Nat} {x1 : Int32} {r : Unit} {h' : jw_H} (hq : f_X9_dropMarks h x0 x1 = some (r, h')) : jw_Con (Cond.code yX9_dropMarks cX9_dropMarks 3 none) yX9_dropMarks 0 [.ref x0, .int x1] h (.inl none) h' :=
  jw_con false (plainFor_of_name (by decide +kernel)) (fun z => nomatch z) (by simp [jw_ent, jw_sl0_nil, jw_sl0_int, jw_sl0_long, jw_sl0_ref, jw_sl0_rf, jw_sl0_scr, List.replicate]) (by simp [jw_sl0_nil, jw_sl0_int, jw_sl0_long, jw_sl0_ref, jw_sl0_rf, jw_sl0_scr]) (l_X9_dropMarks hq)


/-! X7_close -/
noncomputable def f_X7_close (h : jw_H) (x0 : Nat) (x1 : Int32) (x2 : Int32) : Option (Unit × jw_H) :=
 if x1 < (1 : Int32) then (some ((), h))
 else (if x2 < 0 then (some ((), h))
 else ((jw_gI h 7 (some x0) 2).bind fun v3 =>
 if ((v3 - x1) + (1 : Int32)) < x2 then (some ((), h))
 else ((jw_gI h 7 (some x0) 2).bind fun v5 =>
 (jw_gR h 7 (some x0) 0).bind fun v6 =>
 (jw_ln h v6).bind fun v7 =>
 if v5 ≤ v7 then ((jw_gI h 7 (some x0) 2).bind fun v9 =>
 (jw_gR h 7 (some x0) 0).bind fun v10 =>
 (jw_gR h 7 (some x0) 0).bind fun v11 =>
 (jw_cp h 20 v10 ((x1 - (1 : Int32)) + x2) v11 (x1 - (1 : Int32)) (((v9 - x1) + (1 : Int32)) - x2)).bind fun h12 =>
 (jw_gR h12 7 (some x0) 1).bind fun v13 =>
 (jw_gR h12 7 (some x0) 1).bind fun v14 =>
 (jw_cp h12 21 v13 (((x1 - (1 : Int32)) + x2) * (30 : Int32)) v14 ((x1 - (1 : Int32)) * (30 : Int32)) ((((v9 - x1) + (1 : Int32)) - x2) * (30 : Int32))).bind fun h15 =>
 (jw_gI h15 7 (some x0) 2).bind fun v16 =>
 (jw_pI h15 7 (some x0) 2 (v16 - x2)).bind fun h17 =>
 some ((), h17))
 else (some ((), h)))))

set_option maxRecDepth 100000 in
set_option maxHeartbeats 4000000 in
theorem l_X7_close {hi : jw_H} {h : jw_H} {x0 : Nat} {x1 : Int32} {x2 : Int32} {r : Unit} {h' : jw_H} (hq : f_X7_close  h x0 x1 x2 = some (r, h')) : jw_E 1 uX7_close hi 0 [some (.ref x0), some (.int x1), some (.int x2), none] [] h (.inl none) h' := by
  unfold f_X7_close at hq
  refine jw_iload_n dX7_close_0 rfl ?_
  refine jw_iconst dX7_close_1 (v := (1 : Int32)) (by decide) ?_
  rcases jw_if hq with ⟨c1, hq⟩ | ⟨c1, hq⟩
  · refine jw_icmp_lt_t (tgt := 33) dX7_close_2 (by decide) c1 ?_
    cases hq
    exact jw_vret dX7_close_33 rfl
  · refine jw_icmp_lt_f (tgt := 33) dX7_close_2 (by decide) c1 ?_
    refine jw_iload_n dX7_close_5 rfl ?_
    rcases jw_if hq with ⟨c2, hq⟩ | ⟨c2, hq⟩
    · refine jw_if_lt_t (tgt := 33) dX7_close_6 (by decide) c2 ?_
      cases hq
      exact jw_vret dX7_close_33 rfl
    · refine jw_if_lt_f (tgt := 33) dX7_close_6 (by decide) c2 ?_
      refine jw_iload_n dX7_close_9 rfl ?_
      refine jw_aload_n dX7_close_10 (o := (some x0)) rfl ?_
      obtain ⟨v3, ev3, hq⟩ := Option.bind_eq_some_iff.mp hq
      refine jw_getI (o := (some x0)) dX7_close_11 ev3 fl_X7_25 rfl ?_
      refine jw_iload_n dX7_close_14 rfl ?_
      refine jw_isub dX7_close_15 ?_
      refine jw_iconst dX7_close_16 (v := (1 : Int32)) (by decide) ?_
      refine jw_iadd dX7_close_17 ?_
      rcases jw_if hq with ⟨c4, hq⟩ | ⟨c4, hq⟩
      · refine jw_icmp_gt_t (tgt := 33) dX7_close_18 (by decide) c4 ?_
        cases hq
        exact jw_vret dX7_close_33 rfl
      · refine jw_icmp_gt_f (tgt := 33) dX7_close_18 (by decide) c4 ?_
        refine jw_aload_n dX7_close_21 (o := (some x0)) rfl ?_
        obtain ⟨v5, ev5, hq⟩ := Option.bind_eq_some_iff.mp hq
        refine jw_getI (o := (some x0)) dX7_close_22 ev5 fl_X7_25 rfl ?_
        refine jw_aload_n dX7_close_25 (o := (some x0)) rfl ?_
        obtain ⟨v6, ev6, hq⟩ := Option.bind_eq_some_iff.mp hq
        refine jw_getR (o := (some x0)) dX7_close_26 ev6 fl_X7_15 rfl ?_
        obtain ⟨v7, ev7, hq⟩ := Option.bind_eq_some_iff.mp hq
        refine jw_alen (o := v6) dX7_close_29 ev7 ?_
        rcases jw_if hq with ⟨c8, hq⟩ | ⟨c8, hq⟩
        · refine jw_icmp_le_t (tgt := 34) dX7_close_30 (by decide) c8 ?_
          refine jw_aload_n dX7_close_34 (o := (some x0)) rfl ?_
          obtain ⟨v9, ev9, hq⟩ := Option.bind_eq_some_iff.mp hq
          refine jw_getI (o := (some x0)) dX7_close_35 ev9 fl_X7_25 rfl ?_
          refine jw_iload_n dX7_close_38 rfl ?_
          refine jw_isub dX7_close_39 ?_
          refine jw_iconst dX7_close_40 (v := (1 : Int32)) (by decide) ?_
          refine jw_iadd dX7_close_41 ?_
          refine jw_iload_n dX7_close_42 rfl ?_
          refine jw_isub dX7_close_43 ?_
          refine jw_istore_n (L' := [some (.ref x0), some (.int x1), some (.int x2), some (.int (((v9 - x1) + (1 : Int32)) - x2))]) dX7_close_44 (Nat.le_of_ble_eq_true rfl) rfl ?_
          refine jw_aload_n dX7_close_45 (o := (some x0)) rfl ?_
          obtain ⟨v10, ev10, hq⟩ := Option.bind_eq_some_iff.mp hq
          refine jw_getR (o := (some x0)) dX7_close_46 ev10 fl_X7_15 rfl ?_
          refine jw_iload_n dX7_close_49 rfl ?_
          refine jw_iconst dX7_close_50 (v := (1 : Int32)) (by decide) ?_
          refine jw_isub dX7_close_51 ?_
          refine jw_iload_n dX7_close_52 rfl ?_
          refine jw_iadd dX7_close_53 ?_
          refine jw_aload_n dX7_close_54 (o := (some x0)) rfl ?_
          obtain ⟨v11, ev11, hq⟩ := Option.bind_eq_some_iff.mp hq
          refine jw_getR (o := (some x0)) dX7_close_55 ev11 fl_X7_15 rfl ?_
          refine jw_iload_n dX7_close_58 rfl ?_
          refine jw_iconst dX7_close_59 (v := (1 : Int32)) (by decide) ?_
          refine jw_isub dX7_close_60 ?_
          refine jw_iload_n dX7_close_61 rfl ?_
          obtain ⟨h12, eh12, hq⟩ := Option.bind_eq_some_iff.mp hq
          refine jw_acp (o1 := v10) (o2 := v11) (t := 20) dX7_close_62 (by decide) al_X7_32 an_0 as_0 ai_0 (by decide) (Nat.le_of_ble_eq_true rfl) eh12 ?_
          refine jw_aload_n dX7_close_65 (o := (some x0)) rfl ?_
          obtain ⟨v13, ev13, hq⟩ := Option.bind_eq_some_iff.mp hq
          refine jw_getR (o := (some x0)) dX7_close_66 ev13 fl_X7_21 rfl ?_
          refine jw_iload_n dX7_close_69 rfl ?_
          refine jw_iconst dX7_close_70 (v := (1 : Int32)) (by decide) ?_
          refine jw_isub dX7_close_71 ?_
          refine jw_iload_n dX7_close_72 rfl ?_
          refine jw_iadd dX7_close_73 ?_
          refine jw_bipush dX7_close_74 (v := (30 : Int32)) (by decide) ?_
          refine jw_imul dX7_close_76 ?_
          refine jw_aload_n dX7_close_77 (o := (some x0)) rfl ?_
          obtain ⟨v14, ev14, hq⟩ := Option.bind_eq_some_iff.mp hq
          refine jw_getR (o := (some x0)) dX7_close_78 ev14 fl_X7_21 rfl ?_
          refine jw_iload_n dX7_close_81 rfl ?_
          refine jw_iconst dX7_close_82 (v := (1 : Int32)) (by decide) ?_
          refine jw_isub dX7_close_83 ?_
          refine jw_bipush dX7_close_84 (v := (30 : Int32)) (by decide) ?_
          refine jw_imul dX7_close_86 ?_
          refine jw_iload_n dX7_close_87 rfl ?_
          refine jw_bipush dX7_close_88 (v := (30 : Int32)) (by decide) ?_
          refine jw_imul dX7_close_90 ?_
          obtain ⟨h15, eh15, hq⟩ := Option.bind_eq_some_iff.mp hq
          refine jw_acp (o1 := v13) (o2 := v14) (t := 21) dX7_close_91 (by decide) al_X7_32 an_0 as_0 ai_0 (by decide) (Nat.le_of_ble_eq_true rfl) eh15 ?_
          refine jw_aload_n dX7_close_94 (o := (some x0)) rfl ?_
          refine jw_dup dX7_close_95 rfl ?_
          obtain ⟨v16, ev16, hq⟩ := Option.bind_eq_some_iff.mp hq
          refine jw_getI (o := (some x0)) dX7_close_96 ev16 fl_X7_25 rfl ?_
          refine jw_iload_n dX7_close_99 rfl ?_
          refine jw_isub dX7_close_100 ?_
          obtain ⟨h17, eh17, hq⟩ := Option.bind_eq_some_iff.mp hq
          refine jw_putI (o := (some x0)) dX7_close_101 eh17 fl_X7_25 rfl rfl ?_
          cases hq
          exact jw_vret dX7_close_104 rfl
        · refine jw_icmp_le_f (tgt := 34) dX7_close_30 (by decide) c8 ?_
          cases hq
          exact jw_vret dX7_close_33 rfl

theorem c_X7_close {h : jw_H} {x0 : Nat} {x1 : Int32} {x2 : Int32} {r : Unit} {h' : jw_H} (hq : f_X7_close h x0 x1 x2 = some (r, h')) : jw_Con (Cond.code yX7_close cX7_close 4 none) yX7_close 1 [.ref x0, .int x1, .int x2] h (.inl none) h' :=
  jw_con false (plainFor_of_name (by decide +kernel)) (fun z => nomatch z) (by simp [jw_ent, jw_sl0_nil, jw_sl0_int, jw_sl0_long, jw_sl0_ref, jw_sl0_rf, jw_sl0_scr, List.replicate]) (by simp [jw_sl0_nil, jw_sl0_int, jw_sl0_long, jw_sl0_ref, jw_sl0_rf, jw_sl0_scr]) (l_X7_close hq)


/-! X9_cut -/
noncomputable def g_X9_cut_b46 (k46 : jw_H → Nat → Int32 → Int32 → Int32 → Int32 → Option (Unit × jw_H)) (h : jw_H) (x0 : Nat) (x1 : Int32) (x2 : Int32) (x3 : Int32) (x4 : Int32) : Option (Unit × jw_H) :=
 if (x1 + x2) ≤ x4 then ((jw_gR h 9 (some x0) 1).bind fun v2 =>
 (jw_gR h 9 (some x0) 1).bind fun v3 =>
 (jw_cp h 20 v2 ((x1 - (1 : Int32)) + x2) v3 (x1 - (1 : Int32)) x3).bind fun h4 =>
 (jw_gR h4 9 (some x0) 0).bind fun v5 =>
 (jw_rc h4 7 v5).bind fun a6 =>
 jw_b2 (f_X7_close h4 a6 x1 x2) fun w8 h7 =>
 some ((), h7))
 else ((jw_gR h 9 (some x0) 1).bind fun v9 =>
 (jw_ai h 20 v9 (x4 - (1 : Int32))).bind fun v10 =>
 (jw_rc h 9 (some x0)).bind fun a11 =>
 jw_b2 (f_X9_dropMarks h a11 v10) fun w13 h12 =>
 k46 h12 x0 x1 x2 x3 (x4 + (1 : Int32)))

noncomputable def f_X9_cut_b46 (n : Nat) : jw_H → Nat → Int32 → Int32 → Int32 → Int32 → Option (Unit × jw_H) :=
 Nat.rec (fun _ _ _ _ _ _ => none) (fun _ k46 => g_X9_cut_b46 k46) n

noncomputable def f_X9_cut (h : jw_H) (x0 : Nat) (x1 : Int32) (x2 : Int32) : Option (Unit × jw_H) :=
 (jw_gR h 9 (some x0) 0).bind fun v1 =>
 (jw_gI h 7 v1 2).bind fun v2 =>
 if x1 < (1 : Int32) then (some ((), h))
 else (if x2 < 0 then (some ((), h))
 else (if (((v2 - x1) + (1 : Int32)) - x2) < 0 then (some ((), h))
 else ((jw_gR h 9 (some x0) 0).bind fun v6 =>
 (jw_gI h 7 v6 2).bind fun v7 =>
 (jw_gR h 9 (some x0) 1).bind fun v8 =>
 (jw_ln h v8).bind fun v9 =>
 if v7 ≤ v9 then (f_X9_cut_b46  jw_FU h x0 x1 x2 (((v2 - x1) + (1 : Int32)) - x2) x1)
 else (some ((), h)))))

set_option maxRecDepth 100000 in
set_option maxHeartbeats 4000000 in
theorem l_X9_cut_b46g {hi : jw_H} {k46 : jw_H → Nat → Int32 → Int32 → Int32 → Int32 → Option (Unit × jw_H)} (hk46 : ∀ (h : jw_H) (x0 : Nat) (x1 : Int32) (x2 : Int32) (x3 : Int32) (x4 : Int32) (r : Unit) (h' : jw_H), k46 h x0 x1 x2 x3 x4 = some (r, h') → jw_E 2 uX9_cut hi 46 [some (.ref x0), some (.int x1), some (.int x2), some (.int x3), some (.int x4)] [] h (.inl none) h') {h : jw_H} {x0 : Nat} {x1 : Int32} {x2 : Int32} {x3 : Int32} {x4 : Int32} {r : Unit} {h' : jw_H} (hq : g_X9_cut_b46 k46 h x0 x1 x2 x3 x4 = some (r, h')) : jw_E 2 uX9_cut hi 46 [some (.ref x0), some (.int x1), some (.int x2), some (.int x3), some (.int x4)] [] h (.inl none) h' := by
  unfold g_X9_cut_b46 at hq
  refine jw_iload dX9_cut_46 rfl ?_
  refine jw_iload_n dX9_cut_48 rfl ?_
  refine jw_iload_n dX9_cut_49 rfl ?_
  refine jw_iadd dX9_cut_50 ?_
  rcases jw_if hq with ⟨c1, hq⟩ | ⟨c1, hq⟩
  · refine jw_icmp_ge_t (tgt := 73) dX9_cut_51 (by decide) c1 ?_
    refine jw_aload_n dX9_cut_73 (o := (some x0)) rfl ?_
    obtain ⟨v2, ev2, hq⟩ := Option.bind_eq_some_iff.mp hq
    refine jw_getR (o := (some x0)) dX9_cut_74 ev2 fl_X9_20 rfl ?_
    refine jw_iload_n dX9_cut_77 rfl ?_
    refine jw_iconst dX9_cut_78 (v := (1 : Int32)) (by decide) ?_
    refine jw_isub dX9_cut_79 ?_
    refine jw_iload_n dX9_cut_80 rfl ?_
    refine jw_iadd dX9_cut_81 ?_
    refine jw_aload_n dX9_cut_82 (o := (some x0)) rfl ?_
    obtain ⟨v3, ev3, hq⟩ := Option.bind_eq_some_iff.mp hq
    refine jw_getR (o := (some x0)) dX9_cut_83 ev3 fl_X9_20 rfl ?_
    refine jw_iload_n dX9_cut_86 rfl ?_
    refine jw_iconst dX9_cut_87 (v := (1 : Int32)) (by decide) ?_
    refine jw_isub dX9_cut_88 ?_
    refine jw_iload_n dX9_cut_89 rfl ?_
    obtain ⟨h4, eh4, hq⟩ := Option.bind_eq_some_iff.mp hq
    refine jw_acp (o1 := v2) (o2 := v3) (t := 20) dX9_cut_90 (by decide) al_X9_31 an_0 as_0 ai_0 (by decide) (Nat.le_of_ble_eq_true rfl) eh4 ?_
    refine jw_aload_n dX9_cut_93 (o := (some x0)) rfl ?_
    obtain ⟨v5, ev5, hq⟩ := Option.bind_eq_some_iff.mp hq
    refine jw_getR (o := (some x0)) dX9_cut_94 ev5 fl_X9_14 rfl ?_
    refine jw_iload_n dX9_cut_97 rfl ?_
    refine jw_iload_n dX9_cut_98 rfl ?_
    obtain ⟨a6, ea6, hq⟩ := Option.bind_eq_some_iff.mp hq
    obtain ⟨eoa6, eta6⟩ := jw_rc_spec ea6
    obtain ⟨w8, h7, ew8, hq⟩ := jw_b2_spec hq
    refine jw_callV (As := [.int x1, .int x2]) (S := []) (a := a6) (v := none) dX9_cut_99 mt_X7_close in_X7_close se_X7_close lk_X9_61 (c_X7_close ew8) eta6 (by decide) rfl rfl (by decide) (Nat.le_of_ble_eq_true rfl) (by cases eoa6; rfl) ?_
    cases hq
    exact jw_vret dX9_cut_102 rfl
  · refine jw_icmp_ge_f (tgt := 73) dX9_cut_51 (by decide) c1 ?_
    refine jw_aload_n dX9_cut_54 (o := (some x0)) rfl ?_
    refine jw_aload_n dX9_cut_55 (o := (some x0)) rfl ?_
    obtain ⟨v9, ev9, hq⟩ := Option.bind_eq_some_iff.mp hq
    refine jw_getR (o := (some x0)) dX9_cut_56 ev9 fl_X9_20 rfl ?_
    refine jw_iload dX9_cut_59 rfl ?_
    refine jw_iconst dX9_cut_61 (v := (1 : Int32)) (by decide) ?_
    refine jw_isub dX9_cut_62 ?_
    obtain ⟨v10, ev10, hq⟩ := Option.bind_eq_some_iff.mp hq
    refine jw_iald (o := v9) dX9_cut_63 ev10 ?_
    obtain ⟨a11, ea11, hq⟩ := Option.bind_eq_some_iff.mp hq
    obtain ⟨eoa11, eta11⟩ := jw_rc_spec ea11
    obtain ⟨w13, h12, ew13, hq⟩ := jw_b2_spec hq
    refine jw_callV (As := [.int v10]) (S := []) (a := a11) (v := none) dX9_cut_64 mt_X9_dropMarks in_X9_dropMarks se_X9_dropMarks lk_X9_58 (c_X9_dropMarks ew13) eta11 (by decide) rfl rfl (by decide) (Nat.le_of_ble_eq_true rfl) (by cases eoa11; rfl) ?_
    refine jw_iinc (L' := [some (.ref x0), some (.int x1), some (.int x2), some (.int x3), some (.int (x4 + (1 : Int32)))]) dX9_cut_67 rfl (v := (1 : Int32)) (by decide) (Nat.le_of_ble_eq_true rfl) rfl ?_
    refine jw_goto (tgt := 46) dX9_cut_70 (by decide) ?_
    exact hk46 _ _ _ _ _ _ _ _ hq

theorem l_X9_cut_b46 {hi : jw_H} : ∀ (n : Nat) (h : jw_H) (x0 : Nat) (x1 : Int32) (x2 : Int32) (x3 : Int32) (x4 : Int32) (r : Unit) (h' : jw_H), f_X9_cut_b46  n h x0 x1 x2 x3 x4 = some (r, h') → jw_E 2 uX9_cut hi 46 [some (.ref x0), some (.int x1), some (.int x2), some (.int x3), some (.int x4)] [] h (.inl none) h' := by
  intro n
  induction n with
  | zero => intro h x0 x1 x2 x3 x4 r h' hq; exact nomatch hq
  | succ n ih => intro h x0 x1 x2 x3 x4 r h' hq; exact l_X9_cut_b46g ih hq

set_option maxRecDepth 100000 in
set_option maxHeartbeats 4000000 in
theorem l_X9_cut {hi : jw_H} {h : jw_H} {x0 : Nat} {x1 : Int32} {x2 : Int32} {r : Unit} {h' : jw_H} (hq : f_X9_cut  h x0 x1 x2 = some (r, h')) : jw_E 2 uX9_cut hi 0 [some (.ref x0), some (.int x1), some (.int x2), none, none] [] h (.inl none) h' := by
  unfold f_X9_cut at hq
  refine jw_aload_n dX9_cut_0 (o := (some x0)) rfl ?_
  obtain ⟨v1, ev1, hq⟩ := Option.bind_eq_some_iff.mp hq
  refine jw_getR (o := (some x0)) dX9_cut_1 ev1 fl_X9_14 rfl ?_
  obtain ⟨v2, ev2, hq⟩ := Option.bind_eq_some_iff.mp hq
  refine jw_getI (o := v1) dX9_cut_4 ev2 fl_X9_41 rfl ?_
  refine jw_iload_n dX9_cut_7 rfl ?_
  refine jw_isub dX9_cut_8 ?_
  refine jw_iconst dX9_cut_9 (v := (1 : Int32)) (by decide) ?_
  refine jw_iadd dX9_cut_10 ?_
  refine jw_iload_n dX9_cut_11 rfl ?_
  refine jw_isub dX9_cut_12 ?_
  refine jw_istore_n (L' := [some (.ref x0), some (.int x1), some (.int x2), some (.int (((v2 - x1) + (1 : Int32)) - x2)), none]) dX9_cut_13 (Nat.le_of_ble_eq_true rfl) rfl ?_
  refine jw_iload_n dX9_cut_14 rfl ?_
  refine jw_iconst dX9_cut_15 (v := (1 : Int32)) (by decide) ?_
  rcases jw_if hq with ⟨c3, hq⟩ | ⟨c3, hq⟩
  · refine jw_icmp_lt_t (tgt := 42) dX9_cut_16 (by decide) c3 ?_
    cases hq
    exact jw_vret dX9_cut_42 rfl
  · refine jw_icmp_lt_f (tgt := 42) dX9_cut_16 (by decide) c3 ?_
    refine jw_iload_n dX9_cut_19 rfl ?_
    rcases jw_if hq with ⟨c4, hq⟩ | ⟨c4, hq⟩
    · refine jw_if_lt_t (tgt := 42) dX9_cut_20 (by decide) c4 ?_
      cases hq
      exact jw_vret dX9_cut_42 rfl
    · refine jw_if_lt_f (tgt := 42) dX9_cut_20 (by decide) c4 ?_
      refine jw_iload_n dX9_cut_23 rfl ?_
      rcases jw_if hq with ⟨c5, hq⟩ | ⟨c5, hq⟩
      · refine jw_if_lt_t (tgt := 42) dX9_cut_24 (by decide) c5 ?_
        cases hq
        exact jw_vret dX9_cut_42 rfl
      · refine jw_if_lt_f (tgt := 42) dX9_cut_24 (by decide) c5 ?_
        refine jw_aload_n dX9_cut_27 (o := (some x0)) rfl ?_
        obtain ⟨v6, ev6, hq⟩ := Option.bind_eq_some_iff.mp hq
        refine jw_getR (o := (some x0)) dX9_cut_28 ev6 fl_X9_14 rfl ?_
        obtain ⟨v7, ev7, hq⟩ := Option.bind_eq_some_iff.mp hq
        refine jw_getI (o := v6) dX9_cut_31 ev7 fl_X9_41 rfl ?_
        refine jw_aload_n dX9_cut_34 (o := (some x0)) rfl ?_
        obtain ⟨v8, ev8, hq⟩ := Option.bind_eq_some_iff.mp hq
        refine jw_getR (o := (some x0)) dX9_cut_35 ev8 fl_X9_20 rfl ?_
        obtain ⟨v9, ev9, hq⟩ := Option.bind_eq_some_iff.mp hq
        refine jw_alen (o := v8) dX9_cut_38 ev9 ?_
        rcases jw_if hq with ⟨c10, hq⟩ | ⟨c10, hq⟩
        · refine jw_icmp_le_t (tgt := 43) dX9_cut_39 (by decide) c10 ?_
          refine jw_iload_n dX9_cut_43 rfl ?_
          refine jw_istore (L' := [some (.ref x0), some (.int x1), some (.int x2), some (.int (((v2 - x1) + (1 : Int32)) - x2)), some (.int x1)]) dX9_cut_44 (Nat.le_of_ble_eq_true rfl) rfl ?_
          exact l_X9_cut_b46  jw_FU _ _ _ _ _ _ _ _ hq
        · refine jw_icmp_le_f (tgt := 43) dX9_cut_39 (by decide) c10 ?_
          cases hq
          exact jw_vret dX9_cut_42 rfl

theorem c_X9_cut {h : jw_H} {x0 : Nat} {x1 : Int32} {x2 : Int32} {r : Unit} {h' : jw_H} (hq : f_X9_cut h x0 x1 x2 = some (r, h')) : jw_Con (Cond.code yX9_cut cX9_cut 5 none) yX9_cut 2 [.ref x0, .int x1, .int x2] h (.inl none) h' :=
  jw_con false (plainFor_of_name (by decide +kernel)) (fun z => nomatch z) (by simp [jw_ent, jw_sl0_nil, jw_sl0_int, jw_sl0_long, jw_sl0_ref, jw_sl0_rf, jw_sl0_scr, List.replicate]) (by simp [jw_sl0_nil, jw_sl0_int, jw_sl0_long, jw_sl0_ref, jw_sl0_rf, jw_sl0_scr]) (l_X9_cut hq)


/-! X7_open -/
noncomputable def g_X7_open_b96 (k96 : jw_H → Nat → Int32 → Int32 → Int32 → Option (Int32 × jw_H)) (h : jw_H) (x0 : Nat) (x1 : Int32) (x2 : Int32) (x4 : Int32) : Option (Int32 × jw_H) :=
 if (x1 + x2) ≤ x4 then ((jw_gI h 7 (some x0) 2).bind fun v2 =>
 (jw_pI h 7 (some x0) 2 (v2 + x2)).bind fun h3 =>
 some ((1 : Int32), h3))
 else ((jw_gR h 7 (some x0) 0).bind fun v4 =>
 (jw_si h 20 v4 (x4 - (1 : Int32)) (0 : Int32)).bind fun h5 =>
 k96 h5 x0 x1 x2 (x4 + (1 : Int32)))

noncomputable def f_X7_open_b96 (n : Nat) : jw_H → Nat → Int32 → Int32 → Int32 → Option (Int32 × jw_H) :=
 Nat.rec (fun _ _ _ _ _ => none) (fun _ k96 => g_X7_open_b96 k96) n

noncomputable def f_X7_open (h : jw_H) (x0 : Nat) (x1 : Int32) (x2 : Int32) : Option (Int32 × jw_H) :=
 if x1 < (1 : Int32) then (some ((0 : Int32), h))
 else ((jw_gI h 7 (some x0) 2).bind fun v2 =>
 if (v2 + (1 : Int32)) < x1 then (some ((0 : Int32), h))
 else (if x2 < 0 then (some ((0 : Int32), h))
 else ((jw_gR h 7 (some x0) 0).bind fun v5 =>
 (jw_ln h v5).bind fun v6 =>
 (jw_gI h 7 (some x0) 2).bind fun v7 =>
 if x2 ≤ (v6 - v7) then ((jw_gI h 7 (some x0) 2).bind fun v9 =>
 (jw_gR h 7 (some x0) 0).bind fun v10 =>
 (jw_gR h 7 (some x0) 0).bind fun v11 =>
 (jw_cp h 20 v10 (x1 - (1 : Int32)) v11 ((x1 - (1 : Int32)) + x2) ((v9 - x1) + (1 : Int32))).bind fun h12 =>
 (jw_gR h12 7 (some x0) 1).bind fun v13 =>
 (jw_gR h12 7 (some x0) 1).bind fun v14 =>
 (jw_cp h12 21 v13 ((x1 - (1 : Int32)) * (30 : Int32)) v14 (((x1 - (1 : Int32)) + x2) * (30 : Int32)) (((v9 - x1) + (1 : Int32)) * (30 : Int32))).bind fun h15 =>
 f_X7_open_b96  jw_FU h15 x0 x1 x2 x1)
 else (some ((0 : Int32), h)))))

set_option maxRecDepth 100000 in
set_option maxHeartbeats 4000000 in
theorem l_X7_open_b96g {hi : jw_H} {k96 : jw_H → Nat → Int32 → Int32 → Int32 → Option (Int32 × jw_H)} (hk96 : ∀ (h : jw_H) (x0 : Nat) (x1 : Int32) (x2 : Int32) (x4 : Int32) (r : Int32) (h' : jw_H), k96 h x0 x1 x2 x4 = some (r, h') → jw_E 1 uX7_open hi 96 [some (.ref x0), some (.int x1), some (.int x2), none, some (.int x4)] [] h (.inl (some (.int r))) h') {h : jw_H} {x0 : Nat} {x1 : Int32} {x2 : Int32} {x4 : Int32} {r : Int32} {h' : jw_H} (hq : g_X7_open_b96 k96 h x0 x1 x2 x4 = some (r, h')) : jw_E 1 uX7_open hi 96 [some (.ref x0), some (.int x1), some (.int x2), none, some (.int x4)] [] h (.inl (some (.int r))) h' := by
  unfold g_X7_open_b96 at hq
  refine jw_iload dX7_open_96 rfl ?_
  refine jw_iload_n dX7_open_98 rfl ?_
  refine jw_iload_n dX7_open_99 rfl ?_
  refine jw_iadd dX7_open_100 ?_
  rcases jw_if hq with ⟨c1, hq⟩ | ⟨c1, hq⟩
  · refine jw_icmp_ge_t (tgt := 120) dX7_open_101 (by decide) c1 ?_
    refine jw_aload_n dX7_open_120 (o := (some x0)) rfl ?_
    refine jw_dup dX7_open_121 rfl ?_
    obtain ⟨v2, ev2, hq⟩ := Option.bind_eq_some_iff.mp hq
    refine jw_getI (o := (some x0)) dX7_open_122 ev2 fl_X7_25 rfl ?_
    refine jw_iload_n dX7_open_125 rfl ?_
    refine jw_iadd dX7_open_126 ?_
    obtain ⟨h3, eh3, hq⟩ := Option.bind_eq_some_iff.mp hq
    refine jw_putI (o := (some x0)) dX7_open_127 eh3 fl_X7_25 rfl rfl ?_
    refine jw_iconst dX7_open_130 (v := (1 : Int32)) (by decide) ?_
    cases hq
    exact jw_iret (ty := .boolean) dX7_open_131 rfl rfl
  · refine jw_icmp_ge_f (tgt := 120) dX7_open_101 (by decide) c1 ?_
    refine jw_aload_n dX7_open_104 (o := (some x0)) rfl ?_
    obtain ⟨v4, ev4, hq⟩ := Option.bind_eq_some_iff.mp hq
    refine jw_getR (o := (some x0)) dX7_open_105 ev4 fl_X7_15 rfl ?_
    refine jw_iload dX7_open_108 rfl ?_
    refine jw_iconst dX7_open_110 (v := (1 : Int32)) (by decide) ?_
    refine jw_isub dX7_open_111 ?_
    refine jw_iconst dX7_open_112 (v := (0 : Int32)) (by decide) ?_
    obtain ⟨h5, eh5, hq⟩ := Option.bind_eq_some_iff.mp hq
    refine jw_iast (o := v4) dX7_open_113 eh5 ?_
    refine jw_iinc (L' := [some (.ref x0), some (.int x1), some (.int x2), none, some (.int (x4 + (1 : Int32)))]) dX7_open_114 rfl (v := (1 : Int32)) (by decide) (Nat.le_of_ble_eq_true rfl) rfl ?_
    refine jw_goto (tgt := 96) dX7_open_117 (by decide) ?_
    exact hk96 _ _ _ _ _ _ _ hq

theorem l_X7_open_b96 {hi : jw_H} : ∀ (n : Nat) (h : jw_H) (x0 : Nat) (x1 : Int32) (x2 : Int32) (x4 : Int32) (r : Int32) (h' : jw_H), f_X7_open_b96  n h x0 x1 x2 x4 = some (r, h') → jw_E 1 uX7_open hi 96 [some (.ref x0), some (.int x1), some (.int x2), none, some (.int x4)] [] h (.inl (some (.int r))) h' := by
  intro n
  induction n with
  | zero => intro h x0 x1 x2 x4 r h' hq; exact nomatch hq
  | succ n ih => intro h x0 x1 x2 x4 r h' hq; exact l_X7_open_b96g ih hq

set_option maxRecDepth 100000 in
set_option maxHeartbeats 4000000 in
theorem l_X7_open {hi : jw_H} {h : jw_H} {x0 : Nat} {x1 : Int32} {x2 : Int32} {r : Int32} {h' : jw_H} (hq : f_X7_open  h x0 x1 x2 = some (r, h')) : jw_E 1 uX7_open hi 0 [some (.ref x0), some (.int x1), some (.int x2), none, none] [] h (.inl (some (.int r))) h' := by
  unfold f_X7_open at hq
  refine jw_iload_n dX7_open_0 rfl ?_
  refine jw_iconst dX7_open_1 (v := (1 : Int32)) (by decide) ?_
  rcases jw_if hq with ⟨c1, hq⟩ | ⟨c1, hq⟩
  · refine jw_icmp_lt_t (tgt := 33) dX7_open_2 (by decide) c1 ?_
    refine jw_iconst dX7_open_33 (v := (0 : Int32)) (by decide) ?_
    cases hq
    exact jw_iret (ty := .boolean) dX7_open_34 rfl rfl
  · refine jw_icmp_lt_f (tgt := 33) dX7_open_2 (by decide) c1 ?_
    refine jw_iload_n dX7_open_5 rfl ?_
    refine jw_aload_n dX7_open_6 (o := (some x0)) rfl ?_
    obtain ⟨v2, ev2, hq⟩ := Option.bind_eq_some_iff.mp hq
    refine jw_getI (o := (some x0)) dX7_open_7 ev2 fl_X7_25 rfl ?_
    refine jw_iconst dX7_open_10 (v := (1 : Int32)) (by decide) ?_
    refine jw_iadd dX7_open_11 ?_
    rcases jw_if hq with ⟨c3, hq⟩ | ⟨c3, hq⟩
    · refine jw_icmp_gt_t (tgt := 33) dX7_open_12 (by decide) c3 ?_
      refine jw_iconst dX7_open_33 (v := (0 : Int32)) (by decide) ?_
      cases hq
      exact jw_iret (ty := .boolean) dX7_open_34 rfl rfl
    · refine jw_icmp_gt_f (tgt := 33) dX7_open_12 (by decide) c3 ?_
      refine jw_iload_n dX7_open_15 rfl ?_
      rcases jw_if hq with ⟨c4, hq⟩ | ⟨c4, hq⟩
      · refine jw_if_lt_t (tgt := 33) dX7_open_16 (by decide) c4 ?_
        refine jw_iconst dX7_open_33 (v := (0 : Int32)) (by decide) ?_
        cases hq
        exact jw_iret (ty := .boolean) dX7_open_34 rfl rfl
      · refine jw_if_lt_f (tgt := 33) dX7_open_16 (by decide) c4 ?_
        refine jw_iload_n dX7_open_19 rfl ?_
        refine jw_aload_n dX7_open_20 (o := (some x0)) rfl ?_
        obtain ⟨v5, ev5, hq⟩ := Option.bind_eq_some_iff.mp hq
        refine jw_getR (o := (some x0)) dX7_open_21 ev5 fl_X7_15 rfl ?_
        obtain ⟨v6, ev6, hq⟩ := Option.bind_eq_some_iff.mp hq
        refine jw_alen (o := v5) dX7_open_24 ev6 ?_
        refine jw_aload_n dX7_open_25 (o := (some x0)) rfl ?_
        obtain ⟨v7, ev7, hq⟩ := Option.bind_eq_some_iff.mp hq
        refine jw_getI (o := (some x0)) dX7_open_26 ev7 fl_X7_25 rfl ?_
        refine jw_isub dX7_open_29 ?_
        rcases jw_if hq with ⟨c8, hq⟩ | ⟨c8, hq⟩
        · refine jw_icmp_le_t (tgt := 35) dX7_open_30 (by decide) c8 ?_
          refine jw_aload_n dX7_open_35 (o := (some x0)) rfl ?_
          obtain ⟨v9, ev9, hq⟩ := Option.bind_eq_some_iff.mp hq
          refine jw_getI (o := (some x0)) dX7_open_36 ev9 fl_X7_25 rfl ?_
          refine jw_iload_n dX7_open_39 rfl ?_
          refine jw_isub dX7_open_40 ?_
          refine jw_iconst dX7_open_41 (v := (1 : Int32)) (by decide) ?_
          refine jw_iadd dX7_open_42 ?_
          refine jw_istore_n (L' := [some (.ref x0), some (.int x1), some (.int x2), some (.int ((v9 - x1) + (1 : Int32))), none]) dX7_open_43 (Nat.le_of_ble_eq_true rfl) rfl ?_
          refine jw_aload_n dX7_open_44 (o := (some x0)) rfl ?_
          obtain ⟨v10, ev10, hq⟩ := Option.bind_eq_some_iff.mp hq
          refine jw_getR (o := (some x0)) dX7_open_45 ev10 fl_X7_15 rfl ?_
          refine jw_iload_n dX7_open_48 rfl ?_
          refine jw_iconst dX7_open_49 (v := (1 : Int32)) (by decide) ?_
          refine jw_isub dX7_open_50 ?_
          refine jw_aload_n dX7_open_51 (o := (some x0)) rfl ?_
          obtain ⟨v11, ev11, hq⟩ := Option.bind_eq_some_iff.mp hq
          refine jw_getR (o := (some x0)) dX7_open_52 ev11 fl_X7_15 rfl ?_
          refine jw_iload_n dX7_open_55 rfl ?_
          refine jw_iconst dX7_open_56 (v := (1 : Int32)) (by decide) ?_
          refine jw_isub dX7_open_57 ?_
          refine jw_iload_n dX7_open_58 rfl ?_
          refine jw_iadd dX7_open_59 ?_
          refine jw_iload_n dX7_open_60 rfl ?_
          obtain ⟨h12, eh12, hq⟩ := Option.bind_eq_some_iff.mp hq
          refine jw_acp (o1 := v10) (o2 := v11) (t := 20) dX7_open_61 (by decide) al_X7_32 an_0 as_0 ai_0 (by decide) (Nat.le_of_ble_eq_true rfl) eh12 ?_
          refine jw_aload_n dX7_open_64 (o := (some x0)) rfl ?_
          obtain ⟨v13, ev13, hq⟩ := Option.bind_eq_some_iff.mp hq
          refine jw_getR (o := (some x0)) dX7_open_65 ev13 fl_X7_21 rfl ?_
          refine jw_iload_n dX7_open_68 rfl ?_
          refine jw_iconst dX7_open_69 (v := (1 : Int32)) (by decide) ?_
          refine jw_isub dX7_open_70 ?_
          refine jw_bipush dX7_open_71 (v := (30 : Int32)) (by decide) ?_
          refine jw_imul dX7_open_73 ?_
          refine jw_aload_n dX7_open_74 (o := (some x0)) rfl ?_
          obtain ⟨v14, ev14, hq⟩ := Option.bind_eq_some_iff.mp hq
          refine jw_getR (o := (some x0)) dX7_open_75 ev14 fl_X7_21 rfl ?_
          refine jw_iload_n dX7_open_78 rfl ?_
          refine jw_iconst dX7_open_79 (v := (1 : Int32)) (by decide) ?_
          refine jw_isub dX7_open_80 ?_
          refine jw_iload_n dX7_open_81 rfl ?_
          refine jw_iadd dX7_open_82 ?_
          refine jw_bipush dX7_open_83 (v := (30 : Int32)) (by decide) ?_
          refine jw_imul dX7_open_85 ?_
          refine jw_iload_n dX7_open_86 rfl ?_
          refine jw_bipush dX7_open_87 (v := (30 : Int32)) (by decide) ?_
          refine jw_imul dX7_open_89 ?_
          obtain ⟨h15, eh15, hq⟩ := Option.bind_eq_some_iff.mp hq
          refine jw_acp (o1 := v13) (o2 := v14) (t := 21) dX7_open_90 (by decide) al_X7_32 an_0 as_0 ai_0 (by decide) (Nat.le_of_ble_eq_true rfl) eh15 ?_
          refine jw_iload_n dX7_open_93 rfl ?_
          refine jw_istore (L' := [some (.ref x0), some (.int x1), some (.int x2), some (.int ((v9 - x1) + (1 : Int32))), some (.int x1)]) dX7_open_94 (Nat.le_of_ble_eq_true rfl) rfl ?_
          refine jw_forget [true, true, true, false, true] (L' := [some (.ref x0), some (.int x1), some (.int x2), none, some (.int x1)]) rfl ?_
          exact l_X7_open_b96  jw_FU _ _ _ _ _ _ _ hq
        · refine jw_icmp_le_f (tgt := 35) dX7_open_30 (by decide) c8 ?_
          refine jw_iconst dX7_open_33 (v := (0 : Int32)) (by decide) ?_
          cases hq
          exact jw_iret (ty := .boolean) dX7_open_34 rfl rfl

theorem c_X7_open {h : jw_H} {x0 : Nat} {x1 : Int32} {x2 : Int32} {r : Int32} {h' : jw_H} (hq : f_X7_open h x0 x1 x2 = some (r, h')) : jw_Con (Cond.code yX7_open cX7_open 5 (some .boolean)) yX7_open 1 [.ref x0, .int x1, .int x2] h (.inl (some (.int r))) h' :=
  jw_con false (plainFor_of_name (by decide +kernel)) (fun z => nomatch z) (by simp [jw_ent, jw_sl0_nil, jw_sl0_int, jw_sl0_long, jw_sl0_ref, jw_sl0_rf, jw_sl0_scr, List.replicate]) (by simp [jw_sl0_nil, jw_sl0_int, jw_sl0_long, jw_sl0_ref, jw_sl0_rf, jw_sl0_scr]) (l_X7_open hq)


/-! X9_open -/
noncomputable def g_X9_open_b68 (k68 : jw_H → Nat → Int32 → Int32 → Int32 → Option (Int32 × jw_H)) (h : jw_H) (x0 : Nat) (x1 : Int32) (x2 : Int32) (x4 : Int32) : Option (Int32 × jw_H) :=
 if (x1 + x2) ≤ x4 then (some ((1 : Int32), h))
 else ((jw_gR h 9 (some x0) 1).bind fun v2 =>
 (jw_gI h 9 (some x0) 4).bind fun v3 =>
 (jw_si h 20 v2 (x4 - (1 : Int32)) v3).bind fun h4 =>
 (jw_gI h4 9 (some x0) 4).bind fun v5 =>
 (jw_pI h4 9 (some x0) 4 (v5 + (1 : Int32))).bind fun h6 =>
 k68 h6 x0 x1 x2 (x4 + (1 : Int32)))

noncomputable def f_X9_open_b68 (n : Nat) : jw_H → Nat → Int32 → Int32 → Int32 → Option (Int32 × jw_H) :=
 Nat.rec (fun _ _ _ _ _ => none) (fun _ k68 => g_X9_open_b68 k68) n

noncomputable def f_X9_open (h : jw_H) (x0 : Nat) (x1 : Int32) (x2 : Int32) : Option (Int32 × jw_H) :=
 (jw_gR h 9 (some x0) 0).bind fun v1 =>
 (jw_gI h 7 v1 2).bind fun v2 =>
 (jw_gR h 9 (some x0) 0).bind fun v3 =>
 (jw_rc h 7 v3).bind fun a4 =>
 jw_b2 (f_X7_open h a4 x1 x2) fun w6 h5 =>
 if w6 = 0 then (some ((0 : Int32), h5))
 else (if ((v2 - x1) + (1 : Int32)) < 0 then (some ((0 : Int32), h5))
 else ((jw_gR h5 9 (some x0) 1).bind fun v9 =>
 (jw_ln h5 v9).bind fun v10 =>
 if (((x1 - (1 : Int32)) + x2) + ((v2 - x1) + (1 : Int32))) ≤ v10 then ((jw_gR h5 9 (some x0) 1).bind fun v12 =>
 (jw_gR h5 9 (some x0) 1).bind fun v13 =>
 (jw_cp h5 20 v12 (x1 - (1 : Int32)) v13 ((x1 - (1 : Int32)) + x2) ((v2 - x1) + (1 : Int32))).bind fun h14 =>
 f_X9_open_b68  jw_FU h14 x0 x1 x2 x1)
 else (some ((0 : Int32), h5))))

set_option maxRecDepth 100000 in
set_option maxHeartbeats 4000000 in
theorem l_X9_open_b68g {hi : jw_H} {k68 : jw_H → Nat → Int32 → Int32 → Int32 → Option (Int32 × jw_H)} (hk68 : ∀ (h : jw_H) (x0 : Nat) (x1 : Int32) (x2 : Int32) (x4 : Int32) (r : Int32) (h' : jw_H), k68 h x0 x1 x2 x4 = some (r, h') → jw_E 2 uX9_open hi 68 [some (.ref x0), some (.int x1), some (.int x2), none, some (.int x4)] [] h (.inl (some (.int r))) h') {h : jw_H} {x0 : Nat} {x1 : Int32} {x2 : Int32} {x4 : Int32} {r : Int32} {h' : jw_H} (hq : g_X9_open_b68 k68 h x0 x1 x2 x4 = some (r, h')) : jw_E 2 uX9_open hi 68 [some (.ref x0), some (.int x1), some (.int x2), none, some (.int x4)] [] h (.inl (some (.int r))) h' := by
  unfold g_X9_open_b68 at hq
  refine jw_iload dX9_open_68 rfl ?_
  refine jw_iload_n dX9_open_70 rfl ?_
  refine jw_iload_n dX9_open_71 rfl ?_
  refine jw_iadd dX9_open_72 ?_
  rcases jw_if hq with ⟨c1, hq⟩ | ⟨c1, hq⟩
  · refine jw_icmp_ge_t (tgt := 105) dX9_open_73 (by decide) c1 ?_
    refine jw_iconst dX9_open_105 (v := (1 : Int32)) (by decide) ?_
    cases hq
    exact jw_iret (ty := .boolean) dX9_open_106 rfl rfl
  · refine jw_icmp_ge_f (tgt := 105) dX9_open_73 (by decide) c1 ?_
    refine jw_aload_n dX9_open_76 (o := (some x0)) rfl ?_
    obtain ⟨v2, ev2, hq⟩ := Option.bind_eq_some_iff.mp hq
    refine jw_getR (o := (some x0)) dX9_open_77 ev2 fl_X9_20 rfl ?_
    refine jw_iload dX9_open_80 rfl ?_
    refine jw_iconst dX9_open_82 (v := (1 : Int32)) (by decide) ?_
    refine jw_isub dX9_open_83 ?_
    refine jw_aload_n dX9_open_84 (o := (some x0)) rfl ?_
    obtain ⟨v3, ev3, hq⟩ := Option.bind_eq_some_iff.mp hq
    refine jw_getI (o := (some x0)) dX9_open_85 ev3 fl_X9_55 rfl ?_
    obtain ⟨h4, eh4, hq⟩ := Option.bind_eq_some_iff.mp hq
    refine jw_iast (o := v2) dX9_open_88 eh4 ?_
    refine jw_aload_n dX9_open_89 (o := (some x0)) rfl ?_
    refine jw_dup dX9_open_90 rfl ?_
    obtain ⟨v5, ev5, hq⟩ := Option.bind_eq_some_iff.mp hq
    refine jw_getI (o := (some x0)) dX9_open_91 ev5 fl_X9_55 rfl ?_
    refine jw_iconst dX9_open_94 (v := (1 : Int32)) (by decide) ?_
    refine jw_iadd dX9_open_95 ?_
    obtain ⟨h6, eh6, hq⟩ := Option.bind_eq_some_iff.mp hq
    refine jw_putI (o := (some x0)) dX9_open_96 eh6 fl_X9_55 rfl rfl ?_
    refine jw_iinc (L' := [some (.ref x0), some (.int x1), some (.int x2), none, some (.int (x4 + (1 : Int32)))]) dX9_open_99 rfl (v := (1 : Int32)) (by decide) (Nat.le_of_ble_eq_true rfl) rfl ?_
    refine jw_goto (tgt := 68) dX9_open_102 (by decide) ?_
    exact hk68 _ _ _ _ _ _ _ hq

theorem l_X9_open_b68 {hi : jw_H} : ∀ (n : Nat) (h : jw_H) (x0 : Nat) (x1 : Int32) (x2 : Int32) (x4 : Int32) (r : Int32) (h' : jw_H), f_X9_open_b68  n h x0 x1 x2 x4 = some (r, h') → jw_E 2 uX9_open hi 68 [some (.ref x0), some (.int x1), some (.int x2), none, some (.int x4)] [] h (.inl (some (.int r))) h' := by
  intro n
  induction n with
  | zero => intro h x0 x1 x2 x4 r h' hq; exact nomatch hq
  | succ n ih => intro h x0 x1 x2 x4 r h' hq; exact l_X9_open_b68g ih hq

set_option maxRecDepth 100000 in
set_option maxHeartbeats 4000000 in
theorem l_X9_open {hi : jw_H} {h : jw_H} {x0 : Nat} {x1 : Int32} {x2 : Int32} {r : Int32} {h' : jw_H} (hq : f_X9_open  h x0 x1 x2 = some (r, h')) : jw_E 2 uX9_open hi 0 [some (.ref x0), some (.int x1), some (.int x2), none, none] [] h (.inl (some (.int r))) h' := by
  unfold f_X9_open at hq
  refine jw_aload_n dX9_open_0 (o := (some x0)) rfl ?_
  obtain ⟨v1, ev1, hq⟩ := Option.bind_eq_some_iff.mp hq
  refine jw_getR (o := (some x0)) dX9_open_1 ev1 fl_X9_14 rfl ?_
  obtain ⟨v2, ev2, hq⟩ := Option.bind_eq_some_iff.mp hq
  refine jw_getI (o := v1) dX9_open_4 ev2 fl_X9_41 rfl ?_
  refine jw_iload_n dX9_open_7 rfl ?_
  refine jw_isub dX9_open_8 ?_
  refine jw_iconst dX9_open_9 (v := (1 : Int32)) (by decide) ?_
  refine jw_iadd dX9_open_10 ?_
  refine jw_istore_n (L' := [some (.ref x0), some (.int x1), some (.int x2), some (.int ((v2 - x1) + (1 : Int32))), none]) dX9_open_11 (Nat.le_of_ble_eq_true rfl) rfl ?_
  refine jw_aload_n dX9_open_12 (o := (some x0)) rfl ?_
  obtain ⟨v3, ev3, hq⟩ := Option.bind_eq_some_iff.mp hq
  refine jw_getR (o := (some x0)) dX9_open_13 ev3 fl_X9_14 rfl ?_
  refine jw_iload_n dX9_open_16 rfl ?_
  refine jw_iload_n dX9_open_17 rfl ?_
  obtain ⟨a4, ea4, hq⟩ := Option.bind_eq_some_iff.mp hq
  obtain ⟨eoa4, eta4⟩ := jw_rc_spec ea4
  obtain ⟨w6, h5, ew6, hq⟩ := jw_b2_spec hq
  refine jw_callV (As := [.int x1, .int x2]) (S := []) (a := a4) (v := some (.int w6)) dX9_open_18 mt_X7_open in_X7_open se_X7_open lk_X9_51 (c_X7_open ew6) eta4 (by decide) rfl rfl (by decide) (Nat.le_of_ble_eq_true rfl) (by cases eoa4; rfl) ?_
  rcases jw_if hq with ⟨c7, hq⟩ | ⟨c7, hq⟩
  · refine jw_if_eq_t (tgt := 43) dX9_open_21 (by decide) c7 ?_
    refine jw_iconst dX9_open_43 (v := (0 : Int32)) (by decide) ?_
    cases hq
    exact jw_iret (ty := .boolean) dX9_open_44 rfl rfl
  · refine jw_if_eq_f (tgt := 43) dX9_open_21 (by decide) c7 ?_
    refine jw_iload_n dX9_open_24 rfl ?_
    rcases jw_if hq with ⟨c8, hq⟩ | ⟨c8, hq⟩
    · refine jw_if_lt_t (tgt := 43) dX9_open_25 (by decide) c8 ?_
      refine jw_iconst dX9_open_43 (v := (0 : Int32)) (by decide) ?_
      cases hq
      exact jw_iret (ty := .boolean) dX9_open_44 rfl rfl
    · refine jw_if_lt_f (tgt := 43) dX9_open_25 (by decide) c8 ?_
      refine jw_iload_n dX9_open_28 rfl ?_
      refine jw_iconst dX9_open_29 (v := (1 : Int32)) (by decide) ?_
      refine jw_isub dX9_open_30 ?_
      refine jw_iload_n dX9_open_31 rfl ?_
      refine jw_iadd dX9_open_32 ?_
      refine jw_iload_n dX9_open_33 rfl ?_
      refine jw_iadd dX9_open_34 ?_
      refine jw_aload_n dX9_open_35 (o := (some x0)) rfl ?_
      obtain ⟨v9, ev9, hq⟩ := Option.bind_eq_some_iff.mp hq
      refine jw_getR (o := (some x0)) dX9_open_36 ev9 fl_X9_20 rfl ?_
      obtain ⟨v10, ev10, hq⟩ := Option.bind_eq_some_iff.mp hq
      refine jw_alen (o := v9) dX9_open_39 ev10 ?_
      rcases jw_if hq with ⟨c11, hq⟩ | ⟨c11, hq⟩
      · refine jw_icmp_le_t (tgt := 45) dX9_open_40 (by decide) c11 ?_
        refine jw_aload_n dX9_open_45 (o := (some x0)) rfl ?_
        obtain ⟨v12, ev12, hq⟩ := Option.bind_eq_some_iff.mp hq
        refine jw_getR (o := (some x0)) dX9_open_46 ev12 fl_X9_20 rfl ?_
        refine jw_iload_n dX9_open_49 rfl ?_
        refine jw_iconst dX9_open_50 (v := (1 : Int32)) (by decide) ?_
        refine jw_isub dX9_open_51 ?_
        refine jw_aload_n dX9_open_52 (o := (some x0)) rfl ?_
        obtain ⟨v13, ev13, hq⟩ := Option.bind_eq_some_iff.mp hq
        refine jw_getR (o := (some x0)) dX9_open_53 ev13 fl_X9_20 rfl ?_
        refine jw_iload_n dX9_open_56 rfl ?_
        refine jw_iconst dX9_open_57 (v := (1 : Int32)) (by decide) ?_
        refine jw_isub dX9_open_58 ?_
        refine jw_iload_n dX9_open_59 rfl ?_
        refine jw_iadd dX9_open_60 ?_
        refine jw_iload_n dX9_open_61 rfl ?_
        obtain ⟨h14, eh14, hq⟩ := Option.bind_eq_some_iff.mp hq
        refine jw_acp (o1 := v12) (o2 := v13) (t := 20) dX9_open_62 (by decide) al_X9_31 an_0 as_0 ai_0 (by decide) (Nat.le_of_ble_eq_true rfl) eh14 ?_
        refine jw_iload_n dX9_open_65 rfl ?_
        refine jw_istore (L' := [some (.ref x0), some (.int x1), some (.int x2), some (.int ((v2 - x1) + (1 : Int32))), some (.int x1)]) dX9_open_66 (Nat.le_of_ble_eq_true rfl) rfl ?_
        refine jw_forget [true, true, true, false, true] (L' := [some (.ref x0), some (.int x1), some (.int x2), none, some (.int x1)]) rfl ?_
        exact l_X9_open_b68  jw_FU _ _ _ _ _ _ _ hq
      · refine jw_icmp_le_f (tgt := 45) dX9_open_40 (by decide) c11 ?_
        refine jw_iconst dX9_open_43 (v := (0 : Int32)) (by decide) ?_
        cases hq
        exact jw_iret (ty := .boolean) dX9_open_44 rfl rfl

theorem c_X9_open {h : jw_H} {x0 : Nat} {x1 : Int32} {x2 : Int32} {r : Int32} {h' : jw_H} (hq : f_X9_open h x0 x1 x2 = some (r, h')) : jw_Con (Cond.code yX9_open cX9_open 5 (some .boolean)) yX9_open 2 [.ref x0, .int x1, .int x2] h (.inl (some (.int r))) h' :=
  jw_con false (plainFor_of_name (by decide +kernel)) (fun z => nomatch z) (by simp [jw_ent, jw_sl0_nil, jw_sl0_int, jw_sl0_long, jw_sl0_ref, jw_sl0_rf, jw_sl0_scr, List.replicate]) (by simp [jw_sl0_nil, jw_sl0_int, jw_sl0_long, jw_sl0_ref, jw_sl0_rf, jw_sl0_scr]) (l_X9_open hq)


/-! X7_take -/
noncomputable def f_X7_take (h : jw_H) (x0 : Nat) (x1 : Int32) (x2 : Option Nat) (x3 : Int32) : Option (Unit × jw_H) :=
 (jw_rc h 7 x2).bind fun a1 =>
 jw_b2 (f_X7_has h a1 x3) fun w3 h2 =>
 if w3 = 0 then (some ((), h2))
 else ((jw_gR h2 7 x2 1).bind fun v5 =>
 (jw_rc h2 7 x2).bind fun a6 =>
 jw_b2 (f_X7_lengthOf h2 a6 x3) fun w8 h7 =>
 (jw_rc h7 7 (some x0)).bind fun a9 =>
 jw_b2 (f_X7_write h7 a9 x1 v5 ((x3 - (1 : Int32)) * (30 : Int32)) w8) fun w11 h10 =>
 some ((), h10))

set_option maxRecDepth 100000 in
set_option maxHeartbeats 4000000 in
theorem l_X7_take {hi : jw_H} {h : jw_H} {x0 : Nat} {x1 : Int32} {x2 : Option Nat} {x3 : Int32} {r : Unit} {h' : jw_H} (hq : f_X7_take  h x0 x1 x2 x3 = some (r, h')) : jw_E 2 uX7_take hi 0 [some (.ref x0), some (.int x1), some (va_rf x2), some (.int x3)] [] h (.inl none) h' := by
  unfold f_X7_take at hq
  refine jw_aload_n dX7_take_0 (o := x2) rfl ?_
  refine jw_iload_n dX7_take_1 rfl ?_
  obtain ⟨a1, ea1, hq⟩ := Option.bind_eq_some_iff.mp hq
  obtain ⟨eoa1, eta1⟩ := jw_rc_spec ea1
  obtain ⟨w3, h2, ew3, hq⟩ := jw_b2_spec hq
  refine jw_callV (As := [.int x3]) (S := []) (a := a1) (v := some (.int w3)) dX7_take_2 mt_X7_has in_X7_has se_X7_has lk_X7_38 (c_X7_has ew3) eta1 (by decide) rfl rfl (by decide) (Nat.le_of_ble_eq_true rfl) (by cases eoa1; rfl) ?_
  rcases jw_if hq with ⟨c4, hq⟩ | ⟨c4, hq⟩
  · refine jw_if_eq_t (tgt := 28) dX7_take_5 (by decide) c4 ?_
    cases hq
    exact jw_vret dX7_take_28 rfl
  · refine jw_if_eq_f (tgt := 28) dX7_take_5 (by decide) c4 ?_
    refine jw_aload_n dX7_take_8 (o := (some x0)) rfl ?_
    refine jw_iload_n dX7_take_9 rfl ?_
    refine jw_aload_n dX7_take_10 (o := x2) rfl ?_
    obtain ⟨v5, ev5, hq⟩ := Option.bind_eq_some_iff.mp hq
    refine jw_getR (o := x2) dX7_take_11 ev5 fl_X7_21 rfl ?_
    refine jw_iload_n dX7_take_14 rfl ?_
    refine jw_iconst dX7_take_15 (v := (1 : Int32)) (by decide) ?_
    refine jw_isub dX7_take_16 ?_
    refine jw_bipush dX7_take_17 (v := (30 : Int32)) (by decide) ?_
    refine jw_imul dX7_take_19 ?_
    refine jw_aload_n dX7_take_20 (o := x2) rfl ?_
    refine jw_iload_n dX7_take_21 rfl ?_
    obtain ⟨a6, ea6, hq⟩ := Option.bind_eq_some_iff.mp hq
    obtain ⟨eoa6, eta6⟩ := jw_rc_spec ea6
    obtain ⟨w8, h7, ew8, hq⟩ := jw_b2_spec hq
    refine jw_callV (As := [.int x3]) (S := [.int ((x3 - (1 : Int32)) * (30 : Int32)), va_rf v5, .int x1, .ref x0]) (a := a6) (v := some (.int w8)) dX7_take_22 mt_X7_lengthOf in_X7_lengthOf se_X7_lengthOf lk_X7_42 (c_X7_lengthOf ew8) eta6 (by decide) rfl rfl (by decide) (by simp only [List.map_cons, List.map_nil, List.sum_cons, List.sum_nil, jw_cat_rf, jw_cat_i, jw_cat_l, jw_cat_a, jw_cat_s] <;> decide) (by cases eoa6; rfl) ?_
    obtain ⟨a9, ea9, hq⟩ := Option.bind_eq_some_iff.mp hq
    obtain ⟨eoa9, eta9⟩ := jw_rc_spec ea9
    obtain ⟨w11, h10, ew11, hq⟩ := jw_b2_spec hq
    refine jw_callV (As := [.int x1, va_rf v5, .int ((x3 - (1 : Int32)) * (30 : Int32)), .int w8]) (S := []) (a := a9) (v := none) dX7_take_25 mt_X7_write in_X7_write se_X7_write lk_X7_50 (c_X7_write ew11) eta9 (by decide) rfl rfl (by decide) (Nat.le_of_ble_eq_true rfl) (by cases eoa9; rfl) ?_
    cases hq
    exact jw_vret dX7_take_28 rfl

theorem c_X7_take {h : jw_H} {x0 : Nat} {x1 : Int32} {x2 : Option Nat} {x3 : Int32} {r : Unit} {h' : jw_H} (hq : f_X7_take h x0 x1 x2 x3 = some (r, h')) : jw_Con (Cond.code yX7_take cX7_take 4 none) yX7_take 2 [.ref x0, .int x1, va_rf x2, .int x3] h (.inl none) h' :=
  jw_con false (plainFor_of_name (by decide +kernel)) (fun z => nomatch z) (by simp [jw_ent, jw_sl0_nil, jw_sl0_int, jw_sl0_long, jw_sl0_ref, jw_sl0_rf, jw_sl0_scr, List.replicate]) (by simp [jw_sl0_nil, jw_sl0_int, jw_sl0_long, jw_sl0_ref, jw_sl0_rf, jw_sl0_scr]) (l_X7_take hq)


/-! X10_bring -/
noncomputable def g_X10_bring_b119 (k119 : jw_H → Nat → Option Nat → Int32 → Int32 → Option (Int32 × jw_H)) (h : jw_H) (x0 : Nat) (x2 : Option Nat) (x5 : Int32) (x6 : Int32) : Option (Int32 × jw_H) :=
 (jw_gI h 7 x2 2).bind fun v1 =>
 if v1 < x6 then ((jw_gR h 10 (some x0) 1).bind fun v3 =>
 (jw_gI h 7 x2 2).bind fun v4 =>
 (jw_pI h 9 v3 3 ((x5 + v4) - (1 : Int32))).bind fun h5 =>
 some ((0 : Int32), h5))
 else ((jw_gR h 10 (some x0) 1).bind fun v6 =>
 (jw_gR h 9 v6 0).bind fun v7 =>
 (jw_rc h 7 v7).bind fun a8 =>
 jw_b2 (f_X7_take h a8 ((x5 + x6) - (1 : Int32)) x2 x6) fun w10 h9 =>
 k119 h9 x0 x2 x5 (x6 + (1 : Int32)))

noncomputable def f_X10_bring_b119 (n : Nat) : jw_H → Nat → Option Nat → Int32 → Int32 → Option (Int32 × jw_H) :=
 Nat.rec (fun _ _ _ _ _ => none) (fun _ k119 => g_X10_bring_b119 k119) n

noncomputable def g_X10_bring_b87 (h : jw_H) (x0 : Nat) (x2 : Option Nat) (x4 : Int32) (t0 : Int32) : Option (Int32 × jw_H) :=
 (jw_gR h 10 (some x0) 1).bind fun v1 =>
 (jw_gI h 10 (some x0) 12).bind fun v2 =>
 (jw_rc h 9 v1).bind fun a3 =>
 jw_b2 (f_X9_cut h a3 v2 x4) fun w5 h4 =>
 (jw_gR h4 10 (some x0) 1).bind fun v6 =>
 (jw_gI h4 7 x2 2).bind fun v7 =>
 (jw_rc h4 9 v6).bind fun a8 =>
 jw_b2 (f_X9_open h4 a8 t0 v7) fun w10 h9 =>
 f_X10_bring_b119  jw_FU h9 x0 x2 t0 (1 : Int32)

noncomputable def g_X10_bring_b74 (h : jw_H) (x0 : Nat) (x2 : Option Nat) (x4 : Int32) : Option (Int32 × jw_H) :=
 (jw_gI h 10 (some x0) 12).bind fun v1 =>
 g_X10_bring_b87  h x0 x2 x4 v1

noncomputable def g_X10_bring_b37 (h : jw_H) (x0 : Nat) (x1 : Int32) (x2 : Option Nat) (x3 : Int32) (t0 : Int32) : Option (Int32 × jw_H) :=
 (jw_gR h 10 (some x0) 1).bind fun v1 =>
 (jw_gR h 9 v1 0).bind fun v2 =>
 (jw_gI h 7 v2 2).bind fun v3 =>
 (jw_gI h 7 x2 2).bind fun v4 =>
 if ((v3 - t0) + v4) ≤ (40 : Int32) then (if x3 = 0 then (if x1 = (105 : Int32) then (g_X10_bring_b74  h x0 x2 t0)
 else ((jw_gI h 10 (some x0) 13).bind fun v8 =>
 g_X10_bring_b87  h x0 x2 t0 (v8 + (1 : Int32))))
 else (g_X10_bring_b74  h x0 x2 t0))
 else (some ((4 : Int32), h))

noncomputable def g_X10_bring_b17 (h : jw_H) (x0 : Nat) (x1 : Int32) (x2 : Option Nat) (t0 : Int32) : Option (Int32 × jw_H) :=
 if t0 = 0 then (g_X10_bring_b37  h x0 x1 x2 t0 (0 : Int32))
 else ((jw_gI h 10 (some x0) 13).bind fun v2 =>
 (jw_gI h 10 (some x0) 12).bind fun v3 =>
 g_X10_bring_b37  h x0 x1 x2 t0 ((v2 - v3) + (1 : Int32)))

noncomputable def g_X10_bring_b12 (h : jw_H) (x0 : Nat) (x1 : Int32) (x2 : Option Nat) : Option (Int32 × jw_H) :=
 g_X10_bring_b17  h x0 x1 x2 (1 : Int32)

noncomputable def f_X10_bring (h : jw_H) (x0 : Nat) (x1 : Int32) (x2 : Option Nat) : Option (Int32 × jw_H) :=
 if x1 = (99 : Int32) then (g_X10_bring_b12  h x0 x1 x2)
 else (if x1 = (101 : Int32) then (g_X10_bring_b12  h x0 x1 x2)
 else (g_X10_bring_b17  h x0 x1 x2 (0 : Int32)))

set_option maxRecDepth 100000 in
set_option maxHeartbeats 4000000 in
theorem l_X10_bring_b119g {hi : jw_H} {k119 : jw_H → Nat → Option Nat → Int32 → Int32 → Option (Int32 × jw_H)} (hk119 : ∀ (h : jw_H) (x0 : Nat) (x2 : Option Nat) (x5 : Int32) (x6 : Int32) (r : Int32) (h' : jw_H), k119 h x0 x2 x5 x6 = some (r, h') → jw_E 3 uX10_bring hi 119 [some (.ref x0), none, some (va_rf x2), none, none, some (.int x5), some (.int x6)] [] h (.inl (some (.int r))) h') {h : jw_H} {x0 : Nat} {x2 : Option Nat} {x5 : Int32} {x6 : Int32} {r : Int32} {h' : jw_H} (hq : g_X10_bring_b119 k119 h x0 x2 x5 x6 = some (r, h')) : jw_E 3 uX10_bring hi 119 [some (.ref x0), none, some (va_rf x2), none, none, some (.int x5), some (.int x6)] [] h (.inl (some (.int r))) h' := by
  unfold g_X10_bring_b119 at hq
  refine jw_iload dX10_bring_119 rfl ?_
  refine jw_aload_n dX10_bring_121 (o := x2) rfl ?_
  obtain ⟨v1, ev1, hq⟩ := Option.bind_eq_some_iff.mp hq
  refine jw_getI (o := x2) dX10_bring_122 ev1 fl_X10_126 rfl ?_
  rcases jw_if hq with ⟨c2, hq⟩ | ⟨c2, hq⟩
  · refine jw_icmp_gt_t (tgt := 154) dX10_bring_125 (by decide) c2 ?_
    refine jw_aload_n dX10_bring_154 (o := (some x0)) rfl ?_
    obtain ⟨v3, ev3, hq⟩ := Option.bind_eq_some_iff.mp hq
    refine jw_getR (o := (some x0)) dX10_bring_155 ev3 fl_X10_15 rfl ?_
    refine jw_iload dX10_bring_158 rfl ?_
    refine jw_aload_n dX10_bring_160 (o := x2) rfl ?_
    obtain ⟨v4, ev4, hq⟩ := Option.bind_eq_some_iff.mp hq
    refine jw_getI (o := x2) dX10_bring_161 ev4 fl_X10_126 rfl ?_
    refine jw_iadd dX10_bring_164 ?_
    refine jw_iconst dX10_bring_165 (v := (1 : Int32)) (by decide) ?_
    refine jw_isub dX10_bring_166 ?_
    obtain ⟨h5, eh5, hq⟩ := Option.bind_eq_some_iff.mp hq
    refine jw_putI (o := v3) dX10_bring_167 eh5 fl_X10_135 rfl rfl ?_
    refine jw_iconst dX10_bring_170 (v := (0 : Int32)) (by decide) ?_
    cases hq
    exact jw_iret (ty := .int) dX10_bring_171 rfl rfl
  · refine jw_icmp_gt_f (tgt := 154) dX10_bring_125 (by decide) c2 ?_
    refine jw_aload_n dX10_bring_128 (o := (some x0)) rfl ?_
    obtain ⟨v6, ev6, hq⟩ := Option.bind_eq_some_iff.mp hq
    refine jw_getR (o := (some x0)) dX10_bring_129 ev6 fl_X10_15 rfl ?_
    obtain ⟨v7, ev7, hq⟩ := Option.bind_eq_some_iff.mp hq
    refine jw_getR (o := v6) dX10_bring_132 ev7 fl_X10_123 rfl ?_
    refine jw_iload dX10_bring_135 rfl ?_
    refine jw_iload dX10_bring_137 rfl ?_
    refine jw_iadd dX10_bring_139 ?_
    refine jw_iconst dX10_bring_140 (v := (1 : Int32)) (by decide) ?_
    refine jw_isub dX10_bring_141 ?_
    refine jw_aload_n dX10_bring_142 (o := x2) rfl ?_
    refine jw_iload dX10_bring_143 rfl ?_
    obtain ⟨a8, ea8, hq⟩ := Option.bind_eq_some_iff.mp hq
    obtain ⟨eoa8, eta8⟩ := jw_rc_spec ea8
    obtain ⟨w10, h9, ew10, hq⟩ := jw_b2_spec hq
    refine jw_callV (As := [.int ((x5 + x6) - (1 : Int32)), va_rf x2, .int x6]) (S := []) (a := a8) (v := none) dX10_bring_145 mt_X7_take in_X7_take se_X7_take lk_X10_280 (c_X7_take ew10) eta8 (by decide) rfl rfl (by decide) (Nat.le_of_ble_eq_true rfl) (by cases eoa8; rfl) ?_
    refine jw_iinc (L' := [some (.ref x0), none, some (va_rf x2), none, none, some (.int x5), some (.int (x6 + (1 : Int32)))]) dX10_bring_148 rfl (v := (1 : Int32)) (by decide) (Nat.le_of_ble_eq_true rfl) rfl ?_
    refine jw_goto (tgt := 119) dX10_bring_151 (by decide) ?_
    exact hk119 _ _ _ _ _ _ _ hq

theorem l_X10_bring_b119 {hi : jw_H} : ∀ (n : Nat) (h : jw_H) (x0 : Nat) (x2 : Option Nat) (x5 : Int32) (x6 : Int32) (r : Int32) (h' : jw_H), f_X10_bring_b119  n h x0 x2 x5 x6 = some (r, h') → jw_E 3 uX10_bring hi 119 [some (.ref x0), none, some (va_rf x2), none, none, some (.int x5), some (.int x6)] [] h (.inl (some (.int r))) h' := by
  intro n
  induction n with
  | zero => intro h x0 x2 x5 x6 r h' hq; exact nomatch hq
  | succ n ih => intro h x0 x2 x5 x6 r h' hq; exact l_X10_bring_b119g ih hq

set_option maxRecDepth 100000 in
set_option maxHeartbeats 4000000 in
theorem l_X10_bring_b87 {hi : jw_H} {h : jw_H} {x0 : Nat} {x2 : Option Nat} {x4 : Int32} {t0 : Int32} {r : Int32} {h' : jw_H} (hq : g_X10_bring_b87  h x0 x2 x4 t0 = some (r, h')) : jw_E 3 uX10_bring hi 87 [some (.ref x0), none, some (va_rf x2), none, some (.int x4), none, none] [.int t0] h (.inl (some (.int r))) h' := by
  unfold g_X10_bring_b87 at hq
  refine jw_istore (L' := [some (.ref x0), none, some (va_rf x2), none, some (.int x4), some (.int t0), none]) dX10_bring_87 (Nat.le_of_ble_eq_true rfl) rfl ?_
  refine jw_aload_n dX10_bring_89 (o := (some x0)) rfl ?_
  obtain ⟨v1, ev1, hq⟩ := Option.bind_eq_some_iff.mp hq
  refine jw_getR (o := (some x0)) dX10_bring_90 ev1 fl_X10_15 rfl ?_
  refine jw_aload_n dX10_bring_93 (o := (some x0)) rfl ?_
  obtain ⟨v2, ev2, hq⟩ := Option.bind_eq_some_iff.mp hq
  refine jw_getI (o := (some x0)) dX10_bring_94 ev2 fl_X10_138 rfl ?_
  refine jw_iload dX10_bring_97 rfl ?_
  obtain ⟨a3, ea3, hq⟩ := Option.bind_eq_some_iff.mp hq
  obtain ⟨eoa3, eta3⟩ := jw_rc_spec ea3
  obtain ⟨w5, h4, ew5, hq⟩ := jw_b2_spec hq
  refine jw_callV (As := [.int v2, .int x4]) (S := []) (a := a3) (v := none) dX10_bring_99 mt_X9_cut in_X9_cut se_X9_cut lk_X10_247 (c_X9_cut ew5) eta3 (by decide) rfl rfl (by decide) (Nat.le_of_ble_eq_true rfl) (by cases eoa3; rfl) ?_
  refine jw_aload_n dX10_bring_102 (o := (some x0)) rfl ?_
  obtain ⟨v6, ev6, hq⟩ := Option.bind_eq_some_iff.mp hq
  refine jw_getR (o := (some x0)) dX10_bring_103 ev6 fl_X10_15 rfl ?_
  refine jw_iload dX10_bring_106 rfl ?_
  refine jw_aload_n dX10_bring_108 (o := x2) rfl ?_
  obtain ⟨v7, ev7, hq⟩ := Option.bind_eq_some_iff.mp hq
  refine jw_getI (o := x2) dX10_bring_109 ev7 fl_X10_126 rfl ?_
  obtain ⟨a8, ea8, hq⟩ := Option.bind_eq_some_iff.mp hq
  obtain ⟨eoa8, eta8⟩ := jw_rc_spec ea8
  obtain ⟨w10, h9, ew10, hq⟩ := jw_b2_spec hq
  refine jw_callV (As := [.int t0, .int v7]) (S := []) (a := a8) (v := some (.int w10)) dX10_bring_112 mt_X9_open in_X9_open se_X9_open lk_X10_276 (c_X9_open ew10) eta8 (by decide) rfl rfl (by decide) (Nat.le_of_ble_eq_true rfl) (by cases eoa8; rfl) ?_
  refine jw_pop dX10_bring_115 rfl ?_
  refine jw_iconst dX10_bring_116 (v := (1 : Int32)) (by decide) ?_
  refine jw_istore (L' := [some (.ref x0), none, some (va_rf x2), none, some (.int x4), some (.int t0), some (.int (1 : Int32))]) dX10_bring_117 (Nat.le_of_ble_eq_true rfl) rfl ?_
  refine jw_forget [true, true, true, true, false, true, true] (L' := [some (.ref x0), none, some (va_rf x2), none, none, some (.int t0), some (.int (1 : Int32))]) rfl ?_
  exact l_X10_bring_b119  jw_FU _ _ _ _ _ _ _ hq

set_option maxRecDepth 100000 in
set_option maxHeartbeats 4000000 in
theorem l_X10_bring_b74 {hi : jw_H} {h : jw_H} {x0 : Nat} {x2 : Option Nat} {x4 : Int32} {r : Int32} {h' : jw_H} (hq : g_X10_bring_b74  h x0 x2 x4 = some (r, h')) : jw_E 3 uX10_bring hi 74 [some (.ref x0), none, some (va_rf x2), none, some (.int x4), none, none] [] h (.inl (some (.int r))) h' := by
  unfold g_X10_bring_b74 at hq
  refine jw_aload_n dX10_bring_74 (o := (some x0)) rfl ?_
  obtain ⟨v1, ev1, hq⟩ := Option.bind_eq_some_iff.mp hq
  refine jw_getI (o := (some x0)) dX10_bring_75 ev1 fl_X10_138 rfl ?_
  refine jw_goto (tgt := 87) dX10_bring_78 (by decide) ?_
  exact l_X10_bring_b87  hq

set_option maxRecDepth 100000 in
set_option maxHeartbeats 4000000 in
theorem l_X10_bring_b37 {hi : jw_H} {h : jw_H} {x0 : Nat} {x1 : Int32} {x2 : Option Nat} {x3 : Int32} {t0 : Int32} {r : Int32} {h' : jw_H} (hq : g_X10_bring_b37  h x0 x1 x2 x3 t0 = some (r, h')) : jw_E 3 uX10_bring hi 37 [some (.ref x0), some (.int x1), some (va_rf x2), some (.int x3), none, none, none] [.int t0] h (.inl (some (.int r))) h' := by
  unfold g_X10_bring_b37 at hq
  refine jw_istore (L' := [some (.ref x0), some (.int x1), some (va_rf x2), some (.int x3), some (.int t0), none, none]) dX10_bring_37 (Nat.le_of_ble_eq_true rfl) rfl ?_
  refine jw_aload_n dX10_bring_39 (o := (some x0)) rfl ?_
  obtain ⟨v1, ev1, hq⟩ := Option.bind_eq_some_iff.mp hq
  refine jw_getR (o := (some x0)) dX10_bring_40 ev1 fl_X10_15 rfl ?_
  obtain ⟨v2, ev2, hq⟩ := Option.bind_eq_some_iff.mp hq
  refine jw_getR (o := v1) dX10_bring_43 ev2 fl_X10_123 rfl ?_
  obtain ⟨v3, ev3, hq⟩ := Option.bind_eq_some_iff.mp hq
  refine jw_getI (o := v2) dX10_bring_46 ev3 fl_X10_126 rfl ?_
  refine jw_iload dX10_bring_49 rfl ?_
  refine jw_isub dX10_bring_51 ?_
  refine jw_aload_n dX10_bring_52 (o := x2) rfl ?_
  obtain ⟨v4, ev4, hq⟩ := Option.bind_eq_some_iff.mp hq
  refine jw_getI (o := x2) dX10_bring_53 ev4 fl_X10_126 rfl ?_
  refine jw_iadd dX10_bring_56 ?_
  refine jw_bipush dX10_bring_57 (v := (40 : Int32)) (by decide) ?_
  rcases jw_if hq with ⟨c5, hq⟩ | ⟨c5, hq⟩
  · refine jw_icmp_le_t (tgt := 64) dX10_bring_59 (by decide) c5 ?_
    refine jw_iload_n dX10_bring_64 rfl ?_
    rcases jw_if hq with ⟨c6, hq⟩ | ⟨c6, hq⟩
    · refine jw_if_ne_f (tgt := 74) dX10_bring_65 (by decide) c6 ?_
      refine jw_iload_n dX10_bring_68 rfl ?_
      refine jw_bipush dX10_bring_69 (v := (105 : Int32)) (by decide) ?_
      rcases jw_if hq with ⟨c7, hq⟩ | ⟨c7, hq⟩
      · refine jw_icmp_ne_f (tgt := 81) dX10_bring_71 (by decide) c7 ?_
        refine jw_forget [true, false, true, false, true, true, true] (L' := [some (.ref x0), none, some (va_rf x2), none, some (.int t0), none, none]) rfl ?_
        exact l_X10_bring_b74  hq
      · refine jw_icmp_ne_t (tgt := 81) dX10_bring_71 (by decide) c7 ?_
        refine jw_aload_n dX10_bring_81 (o := (some x0)) rfl ?_
        obtain ⟨v8, ev8, hq⟩ := Option.bind_eq_some_iff.mp hq
        refine jw_getI (o := (some x0)) dX10_bring_82 ev8 fl_X10_141 rfl ?_
        refine jw_iconst dX10_bring_85 (v := (1 : Int32)) (by decide) ?_
        refine jw_iadd dX10_bring_86 ?_
        refine jw_forget [true, false, true, false, true, true, true] (L' := [some (.ref x0), none, some (va_rf x2), none, some (.int t0), none, none]) rfl ?_
        exact l_X10_bring_b87  hq
    · refine jw_if_ne_t (tgt := 74) dX10_bring_65 (by decide) c6 ?_
      refine jw_forget [true, false, true, false, true, true, true] (L' := [some (.ref x0), none, some (va_rf x2), none, some (.int t0), none, none]) rfl ?_
      exact l_X10_bring_b74  hq
  · refine jw_icmp_le_f (tgt := 64) dX10_bring_59 (by decide) c5 ?_
    refine jw_iconst dX10_bring_62 (v := (4 : Int32)) (by decide) ?_
    cases hq
    exact jw_iret (ty := .int) dX10_bring_63 rfl rfl

set_option maxRecDepth 100000 in
set_option maxHeartbeats 4000000 in
theorem l_X10_bring_b17 {hi : jw_H} {h : jw_H} {x0 : Nat} {x1 : Int32} {x2 : Option Nat} {t0 : Int32} {r : Int32} {h' : jw_H} (hq : g_X10_bring_b17  h x0 x1 x2 t0 = some (r, h')) : jw_E 3 uX10_bring hi 17 [some (.ref x0), some (.int x1), some (va_rf x2), none, none, none, none] [.int t0] h (.inl (some (.int r))) h' := by
  unfold g_X10_bring_b17 at hq
  refine jw_istore_n (L' := [some (.ref x0), some (.int x1), some (va_rf x2), some (.int t0), none, none, none]) dX10_bring_17 (Nat.le_of_ble_eq_true rfl) ((jw_st1_of (j := 2) jw_long_rf).trans rfl) ?_
  refine jw_iload_n dX10_bring_18 rfl ?_
  rcases jw_if hq with ⟨c1, hq⟩ | ⟨c1, hq⟩
  · refine jw_if_eq_t (tgt := 36) dX10_bring_19 (by decide) c1 ?_
    refine jw_iconst dX10_bring_36 (v := (0 : Int32)) (by decide) ?_
    exact l_X10_bring_b37  hq
  · refine jw_if_eq_f (tgt := 36) dX10_bring_19 (by decide) c1 ?_
    refine jw_aload_n dX10_bring_22 (o := (some x0)) rfl ?_
    obtain ⟨v2, ev2, hq⟩ := Option.bind_eq_some_iff.mp hq
    refine jw_getI (o := (some x0)) dX10_bring_23 ev2 fl_X10_141 rfl ?_
    refine jw_aload_n dX10_bring_26 (o := (some x0)) rfl ?_
    obtain ⟨v3, ev3, hq⟩ := Option.bind_eq_some_iff.mp hq
    refine jw_getI (o := (some x0)) dX10_bring_27 ev3 fl_X10_138 rfl ?_
    refine jw_isub dX10_bring_30 ?_
    refine jw_iconst dX10_bring_31 (v := (1 : Int32)) (by decide) ?_
    refine jw_iadd dX10_bring_32 ?_
    refine jw_goto (tgt := 37) dX10_bring_33 (by decide) ?_
    exact l_X10_bring_b37  hq

set_option maxRecDepth 100000 in
set_option maxHeartbeats 4000000 in
theorem l_X10_bring_b12 {hi : jw_H} {h : jw_H} {x0 : Nat} {x1 : Int32} {x2 : Option Nat} {r : Int32} {h' : jw_H} (hq : g_X10_bring_b12  h x0 x1 x2 = some (r, h')) : jw_E 3 uX10_bring hi 12 [some (.ref x0), some (.int x1), some (va_rf x2), none, none, none, none] [] h (.inl (some (.int r))) h' := by
  unfold g_X10_bring_b12 at hq
  refine jw_iconst dX10_bring_12 (v := (1 : Int32)) (by decide) ?_
  refine jw_goto (tgt := 17) dX10_bring_13 (by decide) ?_
  exact l_X10_bring_b17  hq

set_option maxRecDepth 100000 in
set_option maxHeartbeats 4000000 in
theorem l_X10_bring {hi : jw_H} {h : jw_H} {x0 : Nat} {x1 : Int32} {x2 : Option Nat} {r : Int32} {h' : jw_H} (hq : f_X10_bring  h x0 x1 x2 = some (r, h')) : jw_E 3 uX10_bring hi 0 [some (.ref x0), some (.int x1), some (va_rf x2), none, none, none, none] [] h (.inl (some (.int r))) h' := by
  unfold f_X10_bring at hq
  refine jw_iload_n dX10_bring_0 rfl ?_
  refine jw_bipush dX10_bring_1 (v := (99 : Int32)) (by decide) ?_
  rcases jw_if hq with ⟨c1, hq⟩ | ⟨c1, hq⟩
  · refine jw_icmp_eq_t (tgt := 12) dX10_bring_3 (by decide) c1 ?_
    exact l_X10_bring_b12  hq
  · refine jw_icmp_eq_f (tgt := 12) dX10_bring_3 (by decide) c1 ?_
    refine jw_iload_n dX10_bring_6 rfl ?_
    refine jw_bipush dX10_bring_7 (v := (101 : Int32)) (by decide) ?_
    rcases jw_if hq with ⟨c2, hq⟩ | ⟨c2, hq⟩
    · refine jw_icmp_ne_f (tgt := 16) dX10_bring_9 (by decide) c2 ?_
      exact l_X10_bring_b12  hq
    · refine jw_icmp_ne_t (tgt := 16) dX10_bring_9 (by decide) c2 ?_
      refine jw_iconst dX10_bring_16 (v := (0 : Int32)) (by decide) ?_
      exact l_X10_bring_b17  hq

theorem c_X10_bring {h : jw_H} {x0 : Nat} {x1 : Int32} {x2 : Option Nat} {r : Int32} {h' : jw_H} (hq : f_X10_bring h x0 x1 x2 = some (r, h')) : jw_Con (Cond.code yX10_bring cX10_bring 7 (some .int)) yX10_bring 3 [.ref x0, .int x1, va_rf x2] h (.inl (some (.int r))) h' :=
  jw_con false (plainFor_of_name (by decide +kernel)) (fun z => nomatch z) (by simp [jw_ent, jw_sl0_nil, jw_sl0_int, jw_sl0_long, jw_sl0_ref, jw_sl0_rf, jw_sl0_scr, List.replicate]) (by simp [jw_sl0_nil, jw_sl0_int, jw_sl0_long, jw_sl0_ref, jw_sl0_rf, jw_sl0_scr]) (l_X10_bring hq)


/-! X10_readFile -/
noncomputable def g_X10_readFile_b22 (h : jw_H) (t0 : Int32) : Option (Int32 × jw_H) :=
 some (t0, h)

noncomputable def g_X10_readFile_b11 (h : jw_H)  : Option (Int32 × jw_H) :=
 g_X10_readFile_b22  h (0 : Int32)

noncomputable def f_X10_readFile (h : jw_H) (x0 : Nat) (x1 : Option Nat) : Option (Int32 × jw_H) :=
 if x1 = none then (g_X10_readFile_b11  h )
 else ((jw_gI h 7 x1 2).bind fun v2 =>
 if v2 = 0 then (g_X10_readFile_b11  h )
 else ((jw_rc h 10 (some x0)).bind fun a4 =>
 jw_b2 (f_X10_bring h a4 (114 : Int32) x1) fun w6 h5 =>
 g_X10_readFile_b22  h5 w6))

set_option maxRecDepth 100000 in
set_option maxHeartbeats 4000000 in
theorem l_X10_readFile_b22 {hi : jw_H} {h : jw_H} {t0 : Int32} {r : Int32} {h' : jw_H} (hq : g_X10_readFile_b22  h t0 = some (r, h')) : jw_E 4 uX10_readFile hi 22 [none, none] [.int t0] h (.inl (some (.int r))) h' := by
  unfold g_X10_readFile_b22 at hq
  cases hq
  exact jw_iret (ty := .int) dX10_readFile_22 rfl rfl

set_option maxRecDepth 100000 in
set_option maxHeartbeats 4000000 in
theorem l_X10_readFile_b11 {hi : jw_H} {h : jw_H}  {r : Int32} {h' : jw_H} (hq : g_X10_readFile_b11  h  = some (r, h')) : jw_E 4 uX10_readFile hi 11 [none, none] [] h (.inl (some (.int r))) h' := by
  unfold g_X10_readFile_b11 at hq
  refine jw_iconst dX10_readFile_11 (v := (0 : Int32)) (by decide) ?_
  refine jw_goto (tgt := 22) dX10_readFile_12 (by decide) ?_
  exact l_X10_readFile_b22  hq

set_option maxRecDepth 100000 in
set_option maxHeartbeats 4000000 in
theorem l_X10_readFile {hi : jw_H} {h : jw_H} {x0 : Nat} {x1 : Option Nat} {r : Int32} {h' : jw_H} (hq : f_X10_readFile  h x0 x1 = some (r, h')) : jw_E 4 uX10_readFile hi 0 [some (.ref x0), some (va_rf x1)] [] h (.inl (some (.int r))) h' := by
  unfold f_X10_readFile at hq
  refine jw_aload_n dX10_readFile_0 (o := x1) rfl ?_
  rcases jw_if hq with ⟨c1, hq⟩ | ⟨c1, hq⟩
  · refine jw_ifnull_t (o := x1) (tgt := 11) dX10_readFile_1 (by decide) c1 ?_
    refine jw_forget [false, false] (L' := [none, none]) rfl ?_
    exact l_X10_readFile_b11  hq
  · refine jw_ifnull_f (o := x1) dX10_readFile_1 c1 ?_
    refine jw_aload_n dX10_readFile_4 (o := x1) rfl ?_
    obtain ⟨v2, ev2, hq⟩ := Option.bind_eq_some_iff.mp hq
    refine jw_getI (o := x1) dX10_readFile_5 ev2 fl_X10_126 rfl ?_
    rcases jw_if hq with ⟨c3, hq⟩ | ⟨c3, hq⟩
    · refine jw_if_ne_f (tgt := 15) dX10_readFile_8 (by decide) c3 ?_
      refine jw_forget [false, false] (L' := [none, none]) rfl ?_
      exact l_X10_readFile_b11  hq
    · refine jw_if_ne_t (tgt := 15) dX10_readFile_8 (by decide) c3 ?_
      refine jw_aload_n dX10_readFile_15 (o := (some x0)) rfl ?_
      refine jw_bipush dX10_readFile_16 (v := (114 : Int32)) (by decide) ?_
      refine jw_aload_n dX10_readFile_18 (o := x1) rfl ?_
      obtain ⟨a4, ea4, hq⟩ := Option.bind_eq_some_iff.mp hq
      obtain ⟨eoa4, eta4⟩ := jw_rc_spec ea4
      obtain ⟨w6, h5, ew6, hq⟩ := jw_b2_spec hq
      refine jw_callV (As := [.int (114 : Int32), va_rf x1]) (S := []) (a := a4) (v := some (.int w6)) dX10_readFile_19 mt_X10_bring in_X10_bring se_X10_bring lk_X10_228 (c_X10_bring ew6) eta4 (by decide) rfl rfl (by decide) (Nat.le_of_ble_eq_true rfl) (by cases eoa4; rfl) ?_
      refine jw_forget [false, false] (L' := [none, none]) rfl ?_
      exact l_X10_readFile_b22  hq

theorem c_X10_readFile {h : jw_H} {x0 : Nat} {x1 : Option Nat} {r : Int32} {h' : jw_H} (hq : f_X10_readFile h x0 x1 = some (r, h')) : jw_Con (Cond.code yX10_readFile cX10_readFile 2 (some .int)) yX10_readFile 4 [.ref x0, va_rf x1] h (.inl (some (.int r))) h' :=
  jw_con false (plainFor_of_name (by decide +kernel)) (fun z => nomatch z) (by simp [jw_ent, jw_sl0_nil, jw_sl0_int, jw_sl0_long, jw_sl0_ref, jw_sl0_rf, jw_sl0_scr, List.replicate]) (by simp [jw_sl0_nil, jw_sl0_int, jw_sl0_long, jw_sl0_ref, jw_sl0_rf, jw_sl0_scr]) (l_X10_readFile hq)


/-! X7_addRow -/
noncomputable def g_X7_addRow_b35 (h : jw_H) (t0 : Int32) : Option (Int32 × jw_H) :=
 (jw_rb t0).bind fun v1 =>
 some (t0, h)

noncomputable def g_X7_addRow_b34 (h : jw_H)  : Option (Int32 × jw_H) :=
 g_X7_addRow_b35  h (0 : Int32)

noncomputable def f_X7_addRow (h : jw_H) (x0 : Nat) (x1 : Option Nat) (x2 : Int32) : Option (Int32 × jw_H) :=
 (jw_rc h 7 x1).bind fun a1 =>
 jw_b2 (f_X7_has h a1 x2) fun w3 h2 =>
 if w3 = 0 then (g_X7_addRow_b34  h2 )
 else ((jw_gR h2 7 x1 1).bind fun v5 =>
 (jw_rc h2 7 x1).bind fun a6 =>
 jw_b2 (f_X7_lengthOf h2 a6 x2) fun w8 h7 =>
 (jw_rc h7 7 (some x0)).bind fun a9 =>
 jw_b2 (f_X7_add h7 a9 v5 ((x2 - (1 : Int32)) * (30 : Int32)) w8) fun w11 h10 =>
 if w11 = 0 then (g_X7_addRow_b34  h10 )
 else (g_X7_addRow_b35  h10 (1 : Int32)))

set_option maxRecDepth 100000 in
set_option maxHeartbeats 4000000 in
theorem l_X7_addRow_b35 {hi : jw_H} {h : jw_H} {t0 : Int32} {r : Int32} {h' : jw_H} (hq : g_X7_addRow_b35  h t0 = some (r, h')) : jw_E 2 uX7_addRow hi 35 [none, none, none] [.int t0] h (.inl (some (.int r))) h' := by
  unfold g_X7_addRow_b35 at hq
  obtain ⟨v1, ev1, hq⟩ := Option.bind_eq_some_iff.mp hq
  cases hq
  exact jw_iret (ty := .boolean) dX7_addRow_35 rfl (jw_rb_spec ev1)

set_option maxRecDepth 100000 in
set_option maxHeartbeats 4000000 in
theorem l_X7_addRow_b34 {hi : jw_H} {h : jw_H}  {r : Int32} {h' : jw_H} (hq : g_X7_addRow_b34  h  = some (r, h')) : jw_E 2 uX7_addRow hi 34 [none, none, none] [] h (.inl (some (.int r))) h' := by
  unfold g_X7_addRow_b34 at hq
  refine jw_iconst dX7_addRow_34 (v := (0 : Int32)) (by decide) ?_
  exact l_X7_addRow_b35  hq

set_option maxRecDepth 100000 in
set_option maxHeartbeats 4000000 in
theorem l_X7_addRow {hi : jw_H} {h : jw_H} {x0 : Nat} {x1 : Option Nat} {x2 : Int32} {r : Int32} {h' : jw_H} (hq : f_X7_addRow  h x0 x1 x2 = some (r, h')) : jw_E 2 uX7_addRow hi 0 [some (.ref x0), some (va_rf x1), some (.int x2)] [] h (.inl (some (.int r))) h' := by
  unfold f_X7_addRow at hq
  refine jw_aload_n dX7_addRow_0 (o := x1) rfl ?_
  refine jw_iload_n dX7_addRow_1 rfl ?_
  obtain ⟨a1, ea1, hq⟩ := Option.bind_eq_some_iff.mp hq
  obtain ⟨eoa1, eta1⟩ := jw_rc_spec ea1
  obtain ⟨w3, h2, ew3, hq⟩ := jw_b2_spec hq
  refine jw_callV (As := [.int x2]) (S := []) (a := a1) (v := some (.int w3)) dX7_addRow_2 mt_X7_has in_X7_has se_X7_has lk_X7_38 (c_X7_has ew3) eta1 (by decide) rfl rfl (by decide) (Nat.le_of_ble_eq_true rfl) (by cases eoa1; rfl) ?_
  rcases jw_if hq with ⟨c4, hq⟩ | ⟨c4, hq⟩
  · refine jw_if_eq_t (tgt := 34) dX7_addRow_5 (by decide) c4 ?_
    refine jw_forget [false, false, false] (L' := [none, none, none]) rfl ?_
    exact l_X7_addRow_b34  hq
  · refine jw_if_eq_f (tgt := 34) dX7_addRow_5 (by decide) c4 ?_
    refine jw_aload_n dX7_addRow_8 (o := (some x0)) rfl ?_
    refine jw_aload_n dX7_addRow_9 (o := x1) rfl ?_
    obtain ⟨v5, ev5, hq⟩ := Option.bind_eq_some_iff.mp hq
    refine jw_getR (o := x1) dX7_addRow_10 ev5 fl_X7_21 rfl ?_
    refine jw_iload_n dX7_addRow_13 rfl ?_
    refine jw_iconst dX7_addRow_14 (v := (1 : Int32)) (by decide) ?_
    refine jw_isub dX7_addRow_15 ?_
    refine jw_bipush dX7_addRow_16 (v := (30 : Int32)) (by decide) ?_
    refine jw_imul dX7_addRow_18 ?_
    refine jw_aload_n dX7_addRow_19 (o := x1) rfl ?_
    refine jw_iload_n dX7_addRow_20 rfl ?_
    obtain ⟨a6, ea6, hq⟩ := Option.bind_eq_some_iff.mp hq
    obtain ⟨eoa6, eta6⟩ := jw_rc_spec ea6
    obtain ⟨w8, h7, ew8, hq⟩ := jw_b2_spec hq
    refine jw_callV (As := [.int x2]) (S := [.int ((x2 - (1 : Int32)) * (30 : Int32)), va_rf v5, .ref x0]) (a := a6) (v := some (.int w8)) dX7_addRow_21 mt_X7_lengthOf in_X7_lengthOf se_X7_lengthOf lk_X7_42 (c_X7_lengthOf ew8) eta6 (by decide) rfl rfl (by decide) (by simp only [List.map_cons, List.map_nil, List.sum_cons, List.sum_nil, jw_cat_rf, jw_cat_i, jw_cat_l, jw_cat_a, jw_cat_s] <;> decide) (by cases eoa6; rfl) ?_
    obtain ⟨a9, ea9, hq⟩ := Option.bind_eq_some_iff.mp hq
    obtain ⟨eoa9, eta9⟩ := jw_rc_spec ea9
    obtain ⟨w11, h10, ew11, hq⟩ := jw_b2_spec hq
    refine jw_callV (As := [va_rf v5, .int ((x2 - (1 : Int32)) * (30 : Int32)), .int w8]) (S := []) (a := a9) (v := some (.int w11)) dX7_addRow_24 mt_X7_add in_X7_add se_X7_add lk_X7_46 (c_X7_add ew11) eta9 (by decide) rfl rfl (by decide) (Nat.le_of_ble_eq_true rfl) (by cases eoa9; rfl) ?_
    rcases jw_if hq with ⟨c12, hq⟩ | ⟨c12, hq⟩
    · refine jw_if_eq_t (tgt := 34) dX7_addRow_27 (by decide) c12 ?_
      refine jw_forget [false, false, false] (L' := [none, none, none]) rfl ?_
      exact l_X7_addRow_b34  hq
    · refine jw_if_eq_f (tgt := 34) dX7_addRow_27 (by decide) c12 ?_
      refine jw_iconst dX7_addRow_30 (v := (1 : Int32)) (by decide) ?_
      refine jw_goto (tgt := 35) dX7_addRow_31 (by decide) ?_
      refine jw_forget [false, false, false] (L' := [none, none, none]) rfl ?_
      exact l_X7_addRow_b35  hq

theorem c_X7_addRow {h : jw_H} {x0 : Nat} {x1 : Option Nat} {x2 : Int32} {r : Int32} {h' : jw_H} (hq : f_X7_addRow h x0 x1 x2 = some (r, h')) : jw_Con (Cond.code yX7_addRow cX7_addRow 3 (some .boolean)) yX7_addRow 2 [.ref x0, va_rf x1, .int x2] h (.inl (some (.int r))) h' :=
  jw_con false (plainFor_of_name (by decide +kernel)) (fun z => nomatch z) (by simp [jw_ent, jw_sl0_nil, jw_sl0_int, jw_sl0_long, jw_sl0_ref, jw_sl0_rf, jw_sl0_scr, List.replicate]) (by simp [jw_sl0_nil, jw_sl0_int, jw_sl0_long, jw_sl0_ref, jw_sl0_rf, jw_sl0_scr]) (l_X7_addRow hq)


/-! X8_hold -/
noncomputable def g_X8_hold_b11 (k11 : jw_H → Nat → Option Nat → Int32 → Int32 → Option (Unit × jw_H)) (h : jw_H) (x0 : Nat) (x1 : Option Nat) (x3 : Int32) (x4 : Int32) : Option (Unit × jw_H) :=
 if x3 < x4 then (some ((), h))
 else ((jw_gR h 8 (some x0) 0).bind fun v2 =>
 (jw_rc h 7 v2).bind fun a3 =>
 jw_b2 (f_X7_addRow h a3 x1 x4) fun w5 h4 =>
 k11 h4 x0 x1 x3 (x4 + (1 : Int32)))

noncomputable def f_X8_hold_b11 (n : Nat) : jw_H → Nat → Option Nat → Int32 → Int32 → Option (Unit × jw_H) :=
 Nat.rec (fun _ _ _ _ _ => none) (fun _ k11 => g_X8_hold_b11 k11) n

noncomputable def f_X8_hold (h : jw_H) (x0 : Nat) (x1 : Option Nat) (x2 : Int32) (x3 : Int32) : Option (Unit × jw_H) :=
 (jw_gR h 8 (some x0) 0).bind fun v1 =>
 (jw_rc h 7 v1).bind fun a2 =>
 jw_b2 (f_X7_shrink h a2 (0 : Int32)) fun w4 h3 =>
 f_X8_hold_b11  jw_FU h3 x0 x1 x3 x2

set_option maxRecDepth 100000 in
set_option maxHeartbeats 4000000 in
theorem l_X8_hold_b11g {hi : jw_H} {k11 : jw_H → Nat → Option Nat → Int32 → Int32 → Option (Unit × jw_H)} (hk11 : ∀ (h : jw_H) (x0 : Nat) (x1 : Option Nat) (x3 : Int32) (x4 : Int32) (r : Unit) (h' : jw_H), k11 h x0 x1 x3 x4 = some (r, h') → jw_E 3 uX8_hold hi 11 [some (.ref x0), some (va_rf x1), none, some (.int x3), some (.int x4)] [] h (.inl none) h') {h : jw_H} {x0 : Nat} {x1 : Option Nat} {x3 : Int32} {x4 : Int32} {r : Unit} {h' : jw_H} (hq : g_X8_hold_b11 k11 h x0 x1 x3 x4 = some (r, h')) : jw_E 3 uX8_hold hi 11 [some (.ref x0), some (va_rf x1), none, some (.int x3), some (.int x4)] [] h (.inl none) h' := by
  unfold g_X8_hold_b11 at hq
  refine jw_iload dX8_hold_11 rfl ?_
  refine jw_iload_n dX8_hold_13 rfl ?_
  rcases jw_if hq with ⟨c1, hq⟩ | ⟨c1, hq⟩
  · refine jw_icmp_gt_t (tgt := 34) dX8_hold_14 (by decide) c1 ?_
    cases hq
    exact jw_vret dX8_hold_34 rfl
  · refine jw_icmp_gt_f (tgt := 34) dX8_hold_14 (by decide) c1 ?_
    refine jw_aload_n dX8_hold_17 (o := (some x0)) rfl ?_
    obtain ⟨v2, ev2, hq⟩ := Option.bind_eq_some_iff.mp hq
    refine jw_getR (o := (some x0)) dX8_hold_18 ev2 fl_X8_14 rfl ?_
    refine jw_aload_n dX8_hold_21 (o := x1) rfl ?_
    refine jw_iload dX8_hold_22 rfl ?_
    obtain ⟨a3, ea3, hq⟩ := Option.bind_eq_some_iff.mp hq
    obtain ⟨eoa3, eta3⟩ := jw_rc_spec ea3
    obtain ⟨w5, h4, ew5, hq⟩ := jw_b2_spec hq
    refine jw_callV (As := [va_rf x1, .int x4]) (S := []) (a := a3) (v := some (.int w5)) dX8_hold_24 mt_X7_addRow in_X7_addRow se_X7_addRow lk_X8_62 (c_X7_addRow ew5) eta3 (by decide) rfl rfl (by decide) (Nat.le_of_ble_eq_true rfl) (by cases eoa3; rfl) ?_
    refine jw_pop dX8_hold_27 rfl ?_
    refine jw_iinc (L' := [some (.ref x0), some (va_rf x1), none, some (.int x3), some (.int (x4 + (1 : Int32)))]) dX8_hold_28 rfl (v := (1 : Int32)) (by decide) (Nat.le_of_ble_eq_true rfl) rfl ?_
    refine jw_goto (tgt := 11) dX8_hold_31 (by decide) ?_
    exact hk11 _ _ _ _ _ _ _ hq

theorem l_X8_hold_b11 {hi : jw_H} : ∀ (n : Nat) (h : jw_H) (x0 : Nat) (x1 : Option Nat) (x3 : Int32) (x4 : Int32) (r : Unit) (h' : jw_H), f_X8_hold_b11  n h x0 x1 x3 x4 = some (r, h') → jw_E 3 uX8_hold hi 11 [some (.ref x0), some (va_rf x1), none, some (.int x3), some (.int x4)] [] h (.inl none) h' := by
  intro n
  induction n with
  | zero => intro h x0 x1 x3 x4 r h' hq; exact nomatch hq
  | succ n ih => intro h x0 x1 x3 x4 r h' hq; exact l_X8_hold_b11g ih hq

set_option maxRecDepth 100000 in
set_option maxHeartbeats 4000000 in
theorem l_X8_hold {hi : jw_H} {h : jw_H} {x0 : Nat} {x1 : Option Nat} {x2 : Int32} {x3 : Int32} {r : Unit} {h' : jw_H} (hq : f_X8_hold  h x0 x1 x2 x3 = some (r, h')) : jw_E 3 uX8_hold hi 0 [some (.ref x0), some (va_rf x1), some (.int x2), some (.int x3), none] [] h (.inl none) h' := by
  unfold f_X8_hold at hq
  refine jw_aload_n dX8_hold_0 (o := (some x0)) rfl ?_
  obtain ⟨v1, ev1, hq⟩ := Option.bind_eq_some_iff.mp hq
  refine jw_getR (o := (some x0)) dX8_hold_1 ev1 fl_X8_14 rfl ?_
  refine jw_iconst dX8_hold_4 (v := (0 : Int32)) (by decide) ?_
  obtain ⟨a2, ea2, hq⟩ := Option.bind_eq_some_iff.mp hq
  obtain ⟨eoa2, eta2⟩ := jw_rc_spec ea2
  obtain ⟨w4, h3, ew4, hq⟩ := jw_b2_spec hq
  refine jw_callV (As := [.int (0 : Int32)]) (S := []) (a := a2) (v := none) dX8_hold_5 mt_X7_shrink in_X7_shrink se_X7_shrink lk_X8_59 (c_X7_shrink ew4) eta2 (by decide) rfl rfl (by decide) (Nat.le_of_ble_eq_true rfl) (by cases eoa2; rfl) ?_
  refine jw_iload_n dX8_hold_8 rfl ?_
  refine jw_istore (L' := [some (.ref x0), some (va_rf x1), some (.int x2), some (.int x3), some (.int x2)]) dX8_hold_9 (Nat.le_of_ble_eq_true rfl) rfl ?_
  refine jw_forget [true, true, false, true, true] (L' := [some (.ref x0), some (va_rf x1), none, some (.int x3), some (.int x2)]) rfl ?_
  exact l_X8_hold_b11  jw_FU _ _ _ _ _ _ _ hq

theorem c_X8_hold {h : jw_H} {x0 : Nat} {x1 : Option Nat} {x2 : Int32} {x3 : Int32} {r : Unit} {h' : jw_H} (hq : f_X8_hold h x0 x1 x2 x3 = some (r, h')) : jw_Con (Cond.code yX8_hold cX8_hold 5 none) yX8_hold 3 [.ref x0, va_rf x1, .int x2, .int x3] h (.inl none) h' :=
  jw_con false (plainFor_of_name (by decide +kernel)) (fun z => nomatch z) (by simp [jw_ent, jw_sl0_nil, jw_sl0_int, jw_sl0_long, jw_sl0_ref, jw_sl0_rf, jw_sl0_scr, List.replicate]) (by simp [jw_sl0_nil, jw_sl0_int, jw_sl0_long, jw_sl0_ref, jw_sl0_rf, jw_sl0_scr]) (l_X8_hold hq)


/-! X10_exchange -/
noncomputable def f_X10_exchange (h : jw_H) (x0 : Nat) : Option (Int32 × jw_H) :=
 (jw_gR h 10 (some x0) 2).bind fun v1 =>
 (jw_gR h 8 v1 0).bind fun v2 =>
 (jw_gI h 7 v2 2).bind fun v3 =>
 if v3 = 0 then (some ((5 : Int32), h))
 else ((jw_gR h 10 (some x0) 7).bind fun v5 =>
 (jw_gR h 10 (some x0) 2).bind fun v6 =>
 (jw_gR h 8 v6 0).bind fun v7 =>
 (jw_rc h 7 v5).bind fun a8 =>
 jw_b2 (f_X7_copy h a8 v7) fun w10 h9 =>
 (jw_gR h9 10 (some x0) 8).bind fun v11 =>
 (jw_gR h9 10 (some x0) 1).bind fun v12 =>
 (jw_rc h9 9 v11).bind fun a13 =>
 jw_b2 (f_X9_copy h9 a13 v12) fun w15 h14 =>
 (jw_gR h14 10 (some x0) 7).bind fun v16 =>
 (jw_rc h14 10 (some x0)).bind fun a17 =>
 jw_b2 (f_X10_bring h14 a17 (101 : Int32) v16) fun w19 h18 =>
 if w19 = 0 then ((jw_gR h18 10 (some x0) 2).bind fun v21 =>
 (jw_gR h18 10 (some x0) 8).bind fun v22 =>
 (jw_gR h18 9 v22 0).bind fun v23 =>
 (jw_gI h18 10 (some x0) 12).bind fun v24 =>
 (jw_gI h18 10 (some x0) 13).bind fun v25 =>
 (jw_rc h18 8 v21).bind fun a26 =>
 jw_b2 (f_X8_hold h18 a26 v23 v24 v25) fun w28 h27 =>
 some (w19, h27))
 else (some (w19, h18)))

set_option maxRecDepth 100000 in
set_option maxHeartbeats 4000000 in
theorem l_X10_exchange {hi : jw_H} {h : jw_H} {x0 : Nat} {r : Int32} {h' : jw_H} (hq : f_X10_exchange  h x0 = some (r, h')) : jw_E 4 uX10_exchange hi 0 [some (.ref x0), none] [] h (.inl (some (.int r))) h' := by
  unfold f_X10_exchange at hq
  refine jw_aload_n dX10_exchange_0 (o := (some x0)) rfl ?_
  obtain ⟨v1, ev1, hq⟩ := Option.bind_eq_some_iff.mp hq
  refine jw_getR (o := (some x0)) dX10_exchange_1 ev1 fl_X10_19 rfl ?_
  obtain ⟨v2, ev2, hq⟩ := Option.bind_eq_some_iff.mp hq
  refine jw_getR (o := v1) dX10_exchange_4 ev2 fl_X10_232 rfl ?_
  obtain ⟨v3, ev3, hq⟩ := Option.bind_eq_some_iff.mp hq
  refine jw_getI (o := v2) dX10_exchange_7 ev3 fl_X10_126 rfl ?_
  rcases jw_if hq with ⟨c4, hq⟩ | ⟨c4, hq⟩
  · refine jw_if_ne_f (tgt := 15) dX10_exchange_10 (by decide) c4 ?_
    refine jw_iconst dX10_exchange_13 (v := (5 : Int32)) (by decide) ?_
    cases hq
    exact jw_iret (ty := .int) dX10_exchange_14 rfl rfl
  · refine jw_if_ne_t (tgt := 15) dX10_exchange_10 (by decide) c4 ?_
    refine jw_aload_n dX10_exchange_15 (o := (some x0)) rfl ?_
    obtain ⟨v5, ev5, hq⟩ := Option.bind_eq_some_iff.mp hq
    refine jw_getR (o := (some x0)) dX10_exchange_16 ev5 fl_X10_43 rfl ?_
    refine jw_aload_n dX10_exchange_19 (o := (some x0)) rfl ?_
    obtain ⟨v6, ev6, hq⟩ := Option.bind_eq_some_iff.mp hq
    refine jw_getR (o := (some x0)) dX10_exchange_20 ev6 fl_X10_19 rfl ?_
    obtain ⟨v7, ev7, hq⟩ := Option.bind_eq_some_iff.mp hq
    refine jw_getR (o := v6) dX10_exchange_23 ev7 fl_X10_232 rfl ?_
    obtain ⟨a8, ea8, hq⟩ := Option.bind_eq_some_iff.mp hq
    obtain ⟨eoa8, eta8⟩ := jw_rc_spec ea8
    obtain ⟨w10, h9, ew10, hq⟩ := jw_b2_spec hq
    refine jw_callV (As := [va_rf v7]) (S := []) (a := a8) (v := none) dX10_exchange_26 mt_X7_copy in_X7_copy se_X7_copy lk_X10_284 (c_X7_copy ew10) eta8 (by decide) rfl rfl (by decide) (Nat.le_of_ble_eq_true rfl) (by cases eoa8; rfl) ?_
    refine jw_aload_n dX10_exchange_29 (o := (some x0)) rfl ?_
    obtain ⟨v11, ev11, hq⟩ := Option.bind_eq_some_iff.mp hq
    refine jw_getR (o := (some x0)) dX10_exchange_30 ev11 fl_X10_50 rfl ?_
    refine jw_aload_n dX10_exchange_33 (o := (some x0)) rfl ?_
    obtain ⟨v12, ev12, hq⟩ := Option.bind_eq_some_iff.mp hq
    refine jw_getR (o := (some x0)) dX10_exchange_34 ev12 fl_X10_15 rfl ?_
    obtain ⟨a13, ea13, hq⟩ := Option.bind_eq_some_iff.mp hq
    obtain ⟨eoa13, eta13⟩ := jw_rc_spec ea13
    obtain ⟨w15, h14, ew15, hq⟩ := jw_b2_spec hq
    refine jw_callV (As := [va_rf v12]) (S := []) (a := a13) (v := none) dX10_exchange_37 mt_X9_copy in_X9_copy se_X9_copy lk_X10_287 (c_X9_copy ew15) eta13 (by decide) rfl rfl (by decide) (Nat.le_of_ble_eq_true rfl) (by cases eoa13; rfl) ?_
    refine jw_aload_n dX10_exchange_40 (o := (some x0)) rfl ?_
    refine jw_bipush dX10_exchange_41 (v := (101 : Int32)) (by decide) ?_
    refine jw_aload_n dX10_exchange_43 (o := (some x0)) rfl ?_
    obtain ⟨v16, ev16, hq⟩ := Option.bind_eq_some_iff.mp hq
    refine jw_getR (o := (some x0)) dX10_exchange_44 ev16 fl_X10_43 rfl ?_
    obtain ⟨a17, ea17, hq⟩ := Option.bind_eq_some_iff.mp hq
    obtain ⟨eoa17, eta17⟩ := jw_rc_spec ea17
    obtain ⟨w19, h18, ew19, hq⟩ := jw_b2_spec hq
    refine jw_callV (As := [.int (101 : Int32), va_rf v16]) (S := []) (a := a17) (v := some (.int w19)) dX10_exchange_47 mt_X10_bring in_X10_bring se_X10_bring lk_X10_228 (c_X10_bring ew19) eta17 (by decide) rfl rfl (by decide) (Nat.le_of_ble_eq_true rfl) (by cases eoa17; rfl) ?_
    refine jw_istore_n (L' := [some (.ref x0), some (.int w19)]) dX10_exchange_50 (Nat.le_of_ble_eq_true rfl) rfl ?_
    refine jw_iload_n dX10_exchange_51 rfl ?_
    rcases jw_if hq with ⟨c20, hq⟩ | ⟨c20, hq⟩
    · refine jw_if_ne_f (tgt := 77) dX10_exchange_52 (by decide) c20 ?_
      refine jw_aload_n dX10_exchange_55 (o := (some x0)) rfl ?_
      obtain ⟨v21, ev21, hq⟩ := Option.bind_eq_some_iff.mp hq
      refine jw_getR (o := (some x0)) dX10_exchange_56 ev21 fl_X10_19 rfl ?_
      refine jw_aload_n dX10_exchange_59 (o := (some x0)) rfl ?_
      obtain ⟨v22, ev22, hq⟩ := Option.bind_eq_some_iff.mp hq
      refine jw_getR (o := (some x0)) dX10_exchange_60 ev22 fl_X10_50 rfl ?_
      obtain ⟨v23, ev23, hq⟩ := Option.bind_eq_some_iff.mp hq
      refine jw_getR (o := v22) dX10_exchange_63 ev23 fl_X10_123 rfl ?_
      refine jw_aload_n dX10_exchange_66 (o := (some x0)) rfl ?_
      obtain ⟨v24, ev24, hq⟩ := Option.bind_eq_some_iff.mp hq
      refine jw_getI (o := (some x0)) dX10_exchange_67 ev24 fl_X10_138 rfl ?_
      refine jw_aload_n dX10_exchange_70 (o := (some x0)) rfl ?_
      obtain ⟨v25, ev25, hq⟩ := Option.bind_eq_some_iff.mp hq
      refine jw_getI (o := (some x0)) dX10_exchange_71 ev25 fl_X10_141 rfl ?_
      obtain ⟨a26, ea26, hq⟩ := Option.bind_eq_some_iff.mp hq
      obtain ⟨eoa26, eta26⟩ := jw_rc_spec ea26
      obtain ⟨w28, h27, ew28, hq⟩ := jw_b2_spec hq
      refine jw_callV (As := [va_rf v23, .int v24, .int v25]) (S := []) (a := a26) (v := none) dX10_exchange_74 mt_X8_hold in_X8_hold se_X8_hold lk_X10_289 (c_X8_hold ew28) eta26 (by decide) rfl rfl (by decide) (Nat.le_of_ble_eq_true rfl) (by cases eoa26; rfl) ?_
      refine jw_iload_n dX10_exchange_77 rfl ?_
      cases hq
      exact jw_iret (ty := .int) dX10_exchange_78 rfl rfl
    · refine jw_if_ne_t (tgt := 77) dX10_exchange_52 (by decide) c20 ?_
      refine jw_iload_n dX10_exchange_77 rfl ?_
      cases hq
      exact jw_iret (ty := .int) dX10_exchange_78 rfl rfl

theorem c_X10_exchange {h : jw_H} {x0 : Nat} {r : Int32} {h' : jw_H} (hq : f_X10_exchange h x0 = some (r, h')) : jw_Con (Cond.code yX10_exchange cX10_exchange 2 (some .int)) yX10_exchange 4 [.ref x0] h (.inl (some (.int r))) h' :=
  jw_con false (plainFor_of_name (by decide +kernel)) (fun z => nomatch z) (by simp [jw_ent, jw_sl0_nil, jw_sl0_int, jw_sl0_long, jw_sl0_ref, jw_sl0_rf, jw_sl0_scr, List.replicate]) (by simp [jw_sl0_nil, jw_sl0_int, jw_sl0_long, jw_sl0_ref, jw_sl0_rf, jw_sl0_scr]) (l_X10_exchange hq)


/-! X7_extend -/
noncomputable def f_X7_extend (h : jw_H) (x0 : Nat) (x1 : Int32) (x2 : Option Nat) (x3 : Int32) : Option (Int32 × jw_H) :=
 (jw_rc h 7 x2).bind fun a1 =>
 jw_b2 (f_X7_lengthOf h a1 x3) fun w3 h2 =>
 (jw_rc h2 7 (some x0)).bind fun a4 =>
 jw_b2 (f_X7_has h2 a4 x1) fun w6 h5 =>
 if w6 = 0 then (some ((0 : Int32), h5))
 else (if w3 < 0 then (some ((0 : Int32), h5))
 else ((jw_gR h5 7 (some x0) 0).bind fun v9 =>
 (jw_ai h5 20 v9 (x1 - (1 : Int32))).bind fun v10 =>
 if (v10 + w3) ≤ (30 : Int32) then ((jw_gR h5 7 (some x0) 0).bind fun v12 =>
 (jw_ai h5 20 v12 (x1 - (1 : Int32))).bind fun v13 =>
 (jw_gR h5 7 x2 1).bind fun v14 =>
 (jw_gR h5 7 (some x0) 1).bind fun v15 =>
 (jw_cp h5 21 v14 ((x3 - (1 : Int32)) * (30 : Int32)) v15 (((x1 - (1 : Int32)) * (30 : Int32)) + v13) w3).bind fun h16 =>
 (jw_gR h16 7 (some x0) 0).bind fun v17 =>
 (jw_ai h16 20 v17 (x1 - (1 : Int32))).bind fun v18 =>
 (jw_si h16 20 v17 (x1 - (1 : Int32)) (v18 + w3)).bind fun h19 =>
 some ((1 : Int32), h19))
 else (some ((0 : Int32), h5))))

set_option maxRecDepth 100000 in
set_option maxHeartbeats 4000000 in
theorem l_X7_extend {hi : jw_H} {h : jw_H} {x0 : Nat} {x1 : Int32} {x2 : Option Nat} {x3 : Int32} {r : Int32} {h' : jw_H} (hq : f_X7_extend  h x0 x1 x2 x3 = some (r, h')) : jw_E 1 uX7_extend hi 0 [some (.ref x0), some (.int x1), some (va_rf x2), some (.int x3), none, none] [] h (.inl (some (.int r))) h' := by
  unfold f_X7_extend at hq
  refine jw_aload_n dX7_extend_0 (o := x2) rfl ?_
  refine jw_iload_n dX7_extend_1 rfl ?_
  obtain ⟨a1, ea1, hq⟩ := Option.bind_eq_some_iff.mp hq
  obtain ⟨eoa1, eta1⟩ := jw_rc_spec ea1
  obtain ⟨w3, h2, ew3, hq⟩ := jw_b2_spec hq
  refine jw_callV (As := [.int x3]) (S := []) (a := a1) (v := some (.int w3)) dX7_extend_2 mt_X7_lengthOf in_X7_lengthOf se_X7_lengthOf lk_X7_42 (c_X7_lengthOf ew3) eta1 (by decide) rfl rfl (by decide) (Nat.le_of_ble_eq_true rfl) (by cases eoa1; rfl) ?_
  refine jw_istore (L' := [some (.ref x0), some (.int x1), some (va_rf x2), some (.int x3), some (.int w3), none]) dX7_extend_5 (Nat.le_of_ble_eq_true rfl) rfl ?_
  refine jw_aload_n dX7_extend_7 (o := (some x0)) rfl ?_
  refine jw_iload_n dX7_extend_8 rfl ?_
  obtain ⟨a4, ea4, hq⟩ := Option.bind_eq_some_iff.mp hq
  obtain ⟨eoa4, eta4⟩ := jw_rc_spec ea4
  obtain ⟨w6, h5, ew6, hq⟩ := jw_b2_spec hq
  refine jw_callV (As := [.int x1]) (S := []) (a := a4) (v := some (.int w6)) dX7_extend_9 mt_X7_has in_X7_has se_X7_has lk_X7_38 (c_X7_has ew6) eta4 (by decide) rfl rfl (by decide) (Nat.le_of_ble_eq_true rfl) (by cases eoa4; rfl) ?_
  rcases jw_if hq with ⟨c7, hq⟩ | ⟨c7, hq⟩
  · refine jw_if_eq_t (tgt := 36) dX7_extend_12 (by decide) c7 ?_
    refine jw_iconst dX7_extend_36 (v := (0 : Int32)) (by decide) ?_
    cases hq
    exact jw_iret (ty := .boolean) dX7_extend_37 rfl rfl
  · refine jw_if_eq_f (tgt := 36) dX7_extend_12 (by decide) c7 ?_
    refine jw_iload dX7_extend_15 rfl ?_
    rcases jw_if hq with ⟨c8, hq⟩ | ⟨c8, hq⟩
    · refine jw_if_lt_t (tgt := 36) dX7_extend_17 (by decide) c8 ?_
      refine jw_iconst dX7_extend_36 (v := (0 : Int32)) (by decide) ?_
      cases hq
      exact jw_iret (ty := .boolean) dX7_extend_37 rfl rfl
    · refine jw_if_lt_f (tgt := 36) dX7_extend_17 (by decide) c8 ?_
      refine jw_aload_n dX7_extend_20 (o := (some x0)) rfl ?_
      obtain ⟨v9, ev9, hq⟩ := Option.bind_eq_some_iff.mp hq
      refine jw_getR (o := (some x0)) dX7_extend_21 ev9 fl_X7_15 rfl ?_
      refine jw_iload_n dX7_extend_24 rfl ?_
      refine jw_iconst dX7_extend_25 (v := (1 : Int32)) (by decide) ?_
      refine jw_isub dX7_extend_26 ?_
      obtain ⟨v10, ev10, hq⟩ := Option.bind_eq_some_iff.mp hq
      refine jw_iald (o := v9) dX7_extend_27 ev10 ?_
      refine jw_iload dX7_extend_28 rfl ?_
      refine jw_iadd dX7_extend_30 ?_
      refine jw_bipush dX7_extend_31 (v := (30 : Int32)) (by decide) ?_
      rcases jw_if hq with ⟨c11, hq⟩ | ⟨c11, hq⟩
      · refine jw_icmp_le_t (tgt := 38) dX7_extend_33 (by decide) c11 ?_
        refine jw_iload_n dX7_extend_38 rfl ?_
        refine jw_iconst dX7_extend_39 (v := (1 : Int32)) (by decide) ?_
        refine jw_isub dX7_extend_40 ?_
        refine jw_bipush dX7_extend_41 (v := (30 : Int32)) (by decide) ?_
        refine jw_imul dX7_extend_43 ?_
        refine jw_aload_n dX7_extend_44 (o := (some x0)) rfl ?_
        obtain ⟨v12, ev12, hq⟩ := Option.bind_eq_some_iff.mp hq
        refine jw_getR (o := (some x0)) dX7_extend_45 ev12 fl_X7_15 rfl ?_
        refine jw_iload_n dX7_extend_48 rfl ?_
        refine jw_iconst dX7_extend_49 (v := (1 : Int32)) (by decide) ?_
        refine jw_isub dX7_extend_50 ?_
        obtain ⟨v13, ev13, hq⟩ := Option.bind_eq_some_iff.mp hq
        refine jw_iald (o := v12) dX7_extend_51 ev13 ?_
        refine jw_iadd dX7_extend_52 ?_
        refine jw_istore (L' := [some (.ref x0), some (.int x1), some (va_rf x2), some (.int x3), some (.int w3), some (.int (((x1 - (1 : Int32)) * (30 : Int32)) + v13))]) dX7_extend_53 (Nat.le_of_ble_eq_true rfl) rfl ?_
        refine jw_aload_n dX7_extend_55 (o := x2) rfl ?_
        obtain ⟨v14, ev14, hq⟩ := Option.bind_eq_some_iff.mp hq
        refine jw_getR (o := x2) dX7_extend_56 ev14 fl_X7_21 rfl ?_
        refine jw_iload_n dX7_extend_59 rfl ?_
        refine jw_iconst dX7_extend_60 (v := (1 : Int32)) (by decide) ?_
        refine jw_isub dX7_extend_61 ?_
        refine jw_bipush dX7_extend_62 (v := (30 : Int32)) (by decide) ?_
        refine jw_imul dX7_extend_64 ?_
        refine jw_aload_n dX7_extend_65 (o := (some x0)) rfl ?_
        obtain ⟨v15, ev15, hq⟩ := Option.bind_eq_some_iff.mp hq
        refine jw_getR (o := (some x0)) dX7_extend_66 ev15 fl_X7_21 rfl ?_
        refine jw_iload dX7_extend_69 rfl ?_
        refine jw_iload dX7_extend_71 rfl ?_
        obtain ⟨h16, eh16, hq⟩ := Option.bind_eq_some_iff.mp hq
        refine jw_acp (o1 := v14) (o2 := v15) (t := 21) dX7_extend_73 (by decide) al_X7_32 an_0 as_0 ai_0 (by decide) (Nat.le_of_ble_eq_true rfl) eh16 ?_
        refine jw_aload_n dX7_extend_76 (o := (some x0)) rfl ?_
        obtain ⟨v17, ev17, hq⟩ := Option.bind_eq_some_iff.mp hq
        refine jw_getR (o := (some x0)) dX7_extend_77 ev17 fl_X7_15 rfl ?_
        refine jw_iload_n dX7_extend_80 rfl ?_
        refine jw_iconst dX7_extend_81 (v := (1 : Int32)) (by decide) ?_
        refine jw_isub dX7_extend_82 ?_
        refine jw_dup2 dX7_extend_83 rfl jw_cat_rf ?_
        obtain ⟨v18, ev18, hq⟩ := Option.bind_eq_some_iff.mp hq
        refine jw_iald (o := v17) dX7_extend_84 ev18 ?_
        refine jw_iload dX7_extend_85 rfl ?_
        refine jw_iadd dX7_extend_87 ?_
        obtain ⟨h19, eh19, hq⟩ := Option.bind_eq_some_iff.mp hq
        refine jw_iast (o := v17) dX7_extend_88 eh19 ?_
        refine jw_iconst dX7_extend_89 (v := (1 : Int32)) (by decide) ?_
        cases hq
        exact jw_iret (ty := .boolean) dX7_extend_90 rfl rfl
      · refine jw_icmp_le_f (tgt := 38) dX7_extend_33 (by decide) c11 ?_
        refine jw_iconst dX7_extend_36 (v := (0 : Int32)) (by decide) ?_
        cases hq
        exact jw_iret (ty := .boolean) dX7_extend_37 rfl rfl

theorem c_X7_extend {h : jw_H} {x0 : Nat} {x1 : Int32} {x2 : Option Nat} {x3 : Int32} {r : Int32} {h' : jw_H} (hq : f_X7_extend h x0 x1 x2 x3 = some (r, h')) : jw_Con (Cond.code yX7_extend cX7_extend 6 (some .boolean)) yX7_extend 1 [.ref x0, .int x1, va_rf x2, .int x3] h (.inl (some (.int r))) h' :=
  jw_con false (plainFor_of_name (by decide +kernel)) (fun z => nomatch z) (by simp [jw_ent, jw_sl0_nil, jw_sl0_int, jw_sl0_long, jw_sl0_ref, jw_sl0_rf, jw_sl0_scr, List.replicate]) (by simp [jw_sl0_nil, jw_sl0_int, jw_sl0_long, jw_sl0_ref, jw_sl0_rf, jw_sl0_scr]) (l_X7_extend hq)


/-! X10_join -/
noncomputable def g_X10_join_b48 (k48 : jw_H → Nat → Int32 → Int32 → Option (Int32 × jw_H)) (h : jw_H) (x0 : Nat) (x1 : Int32) (x2 : Int32) : Option (Int32 × jw_H) :=
 if x1 < x2 then ((jw_gR h 10 (some x0) 1).bind fun v2 =>
 (jw_gI h 10 (some x0) 12).bind fun v3 =>
 (jw_gI h 10 (some x0) 12).bind fun v4 =>
 (jw_rc h 9 v2).bind fun a5 =>
 jw_b2 (f_X9_cut h a5 (v3 + (1 : Int32)) (x1 - v4)) fun w7 h6 =>
 (jw_gR h6 10 (some x0) 1).bind fun v8 =>
 (jw_gI h6 10 (some x0) 12).bind fun v9 =>
 (jw_pI h6 9 v8 3 v9).bind fun h10 =>
 some ((0 : Int32), h10))
 else ((jw_gR h 10 (some x0) 1).bind fun v11 =>
 (jw_gR h 9 v11 0).bind fun v12 =>
 (jw_gI h 10 (some x0) 12).bind fun v13 =>
 (jw_gR h 10 (some x0) 1).bind fun v14 =>
 (jw_gR h 9 v14 0).bind fun v15 =>
 (jw_rc h 7 v12).bind fun a16 =>
 jw_b2 (f_X7_extend h a16 v13 v15 x2) fun w18 h17 =>
 if w18 = 0 then (some ((4 : Int32), h17))
 else (k48 h17 x0 x1 (x2 + (1 : Int32))))

noncomputable def f_X10_join_b48 (n : Nat) : jw_H → Nat → Int32 → Int32 → Option (Int32 × jw_H) :=
 Nat.rec (fun _ _ _ _ => none) (fun _ k48 => g_X10_join_b48 k48) n

noncomputable def g_X10_join_b24 (h : jw_H) (x0 : Nat) (t0 : Int32) : Option (Int32 × jw_H) :=
 (jw_gR h 10 (some x0) 1).bind fun v1 =>
 (jw_gR h 9 v1 0).bind fun v2 =>
 (jw_gI h 7 v2 2).bind fun v3 =>
 if t0 ≤ v3 then ((jw_gI h 10 (some x0) 12).bind fun v5 =>
 f_X10_join_b48  jw_FU h x0 t0 (v5 + (1 : Int32)))
 else (some ((1 : Int32), h))

noncomputable def f_X10_join (h : jw_H) (x0 : Nat) : Option (Int32 × jw_H) :=
 (jw_gI h 10 (some x0) 12).bind fun v1 =>
 (jw_gI h 10 (some x0) 13).bind fun v2 =>
 if v1 = v2 then ((jw_gI h 10 (some x0) 13).bind fun v5 =>
 g_X10_join_b24  h x0 (v5 + (1 : Int32)))
 else ((jw_gI h 10 (some x0) 13).bind fun v4 =>
 g_X10_join_b24  h x0 v4)

set_option maxRecDepth 100000 in
set_option maxHeartbeats 4000000 in
theorem l_X10_join_b48g {hi : jw_H} {k48 : jw_H → Nat → Int32 → Int32 → Option (Int32 × jw_H)} (hk48 : ∀ (h : jw_H) (x0 : Nat) (x1 : Int32) (x2 : Int32) (r : Int32) (h' : jw_H), k48 h x0 x1 x2 = some (r, h') → jw_E 3 uX10_join hi 48 [some (.ref x0), some (.int x1), some (.int x2)] [] h (.inl (some (.int r))) h') {h : jw_H} {x0 : Nat} {x1 : Int32} {x2 : Int32} {r : Int32} {h' : jw_H} (hq : g_X10_join_b48 k48 h x0 x1 x2 = some (r, h')) : jw_E 3 uX10_join hi 48 [some (.ref x0), some (.int x1), some (.int x2)] [] h (.inl (some (.int r))) h' := by
  unfold g_X10_join_b48 at hq
  refine jw_iload_n dX10_join_48 rfl ?_
  refine jw_iload_n dX10_join_49 rfl ?_
  rcases jw_if hq with ⟨c1, hq⟩ | ⟨c1, hq⟩
  · refine jw_icmp_gt_t (tgt := 86) dX10_join_50 (by decide) c1 ?_
    refine jw_aload_n dX10_join_86 (o := (some x0)) rfl ?_
    obtain ⟨v2, ev2, hq⟩ := Option.bind_eq_some_iff.mp hq
    refine jw_getR (o := (some x0)) dX10_join_87 ev2 fl_X10_15 rfl ?_
    refine jw_aload_n dX10_join_90 (o := (some x0)) rfl ?_
    obtain ⟨v3, ev3, hq⟩ := Option.bind_eq_some_iff.mp hq
    refine jw_getI (o := (some x0)) dX10_join_91 ev3 fl_X10_138 rfl ?_
    refine jw_iconst dX10_join_94 (v := (1 : Int32)) (by decide) ?_
    refine jw_iadd dX10_join_95 ?_
    refine jw_iload_n dX10_join_96 rfl ?_
    refine jw_aload_n dX10_join_97 (o := (some x0)) rfl ?_
    obtain ⟨v4, ev4, hq⟩ := Option.bind_eq_some_iff.mp hq
    refine jw_getI (o := (some x0)) dX10_join_98 ev4 fl_X10_138 rfl ?_
    refine jw_isub dX10_join_101 ?_
    obtain ⟨a5, ea5, hq⟩ := Option.bind_eq_some_iff.mp hq
    obtain ⟨eoa5, eta5⟩ := jw_rc_spec ea5
    obtain ⟨w7, h6, ew7, hq⟩ := jw_b2_spec hq
    refine jw_callV (As := [.int (v3 + (1 : Int32)), .int (x1 - v4)]) (S := []) (a := a5) (v := none) dX10_join_102 mt_X9_cut in_X9_cut se_X9_cut lk_X10_247 (c_X9_cut ew7) eta5 (by decide) rfl rfl (by decide) (Nat.le_of_ble_eq_true rfl) (by cases eoa5; rfl) ?_
    refine jw_aload_n dX10_join_105 (o := (some x0)) rfl ?_
    obtain ⟨v8, ev8, hq⟩ := Option.bind_eq_some_iff.mp hq
    refine jw_getR (o := (some x0)) dX10_join_106 ev8 fl_X10_15 rfl ?_
    refine jw_aload_n dX10_join_109 (o := (some x0)) rfl ?_
    obtain ⟨v9, ev9, hq⟩ := Option.bind_eq_some_iff.mp hq
    refine jw_getI (o := (some x0)) dX10_join_110 ev9 fl_X10_138 rfl ?_
    obtain ⟨h10, eh10, hq⟩ := Option.bind_eq_some_iff.mp hq
    refine jw_putI (o := v8) dX10_join_113 eh10 fl_X10_135 rfl rfl ?_
    refine jw_iconst dX10_join_116 (v := (0 : Int32)) (by decide) ?_
    cases hq
    exact jw_iret (ty := .int) dX10_join_117 rfl rfl
  · refine jw_icmp_gt_f (tgt := 86) dX10_join_50 (by decide) c1 ?_
    refine jw_aload_n dX10_join_53 (o := (some x0)) rfl ?_
    obtain ⟨v11, ev11, hq⟩ := Option.bind_eq_some_iff.mp hq
    refine jw_getR (o := (some x0)) dX10_join_54 ev11 fl_X10_15 rfl ?_
    obtain ⟨v12, ev12, hq⟩ := Option.bind_eq_some_iff.mp hq
    refine jw_getR (o := v11) dX10_join_57 ev12 fl_X10_123 rfl ?_
    refine jw_aload_n dX10_join_60 (o := (some x0)) rfl ?_
    obtain ⟨v13, ev13, hq⟩ := Option.bind_eq_some_iff.mp hq
    refine jw_getI (o := (some x0)) dX10_join_61 ev13 fl_X10_138 rfl ?_
    refine jw_aload_n dX10_join_64 (o := (some x0)) rfl ?_
    obtain ⟨v14, ev14, hq⟩ := Option.bind_eq_some_iff.mp hq
    refine jw_getR (o := (some x0)) dX10_join_65 ev14 fl_X10_15 rfl ?_
    obtain ⟨v15, ev15, hq⟩ := Option.bind_eq_some_iff.mp hq
    refine jw_getR (o := v14) dX10_join_68 ev15 fl_X10_123 rfl ?_
    refine jw_iload_n dX10_join_71 rfl ?_
    obtain ⟨a16, ea16, hq⟩ := Option.bind_eq_some_iff.mp hq
    obtain ⟨eoa16, eta16⟩ := jw_rc_spec ea16
    obtain ⟨w18, h17, ew18, hq⟩ := jw_b2_spec hq
    refine jw_callV (As := [.int v13, va_rf v15, .int x2]) (S := []) (a := a16) (v := some (.int w18)) dX10_join_72 mt_X7_extend in_X7_extend se_X7_extend lk_X10_293 (c_X7_extend ew18) eta16 (by decide) rfl rfl (by decide) (Nat.le_of_ble_eq_true rfl) (by cases eoa16; rfl) ?_
    rcases jw_if hq with ⟨c19, hq⟩ | ⟨c19, hq⟩
    · refine jw_if_ne_f (tgt := 80) dX10_join_75 (by decide) c19 ?_
      refine jw_iconst dX10_join_78 (v := (4 : Int32)) (by decide) ?_
      cases hq
      exact jw_iret (ty := .int) dX10_join_79 rfl rfl
    · refine jw_if_ne_t (tgt := 80) dX10_join_75 (by decide) c19 ?_
      refine jw_iinc (L' := [some (.ref x0), some (.int x1), some (.int (x2 + (1 : Int32)))]) dX10_join_80 rfl (v := (1 : Int32)) (by decide) (Nat.le_of_ble_eq_true rfl) rfl ?_
      refine jw_goto (tgt := 48) dX10_join_83 (by decide) ?_
      exact hk48 _ _ _ _ _ _ hq

theorem l_X10_join_b48 {hi : jw_H} : ∀ (n : Nat) (h : jw_H) (x0 : Nat) (x1 : Int32) (x2 : Int32) (r : Int32) (h' : jw_H), f_X10_join_b48  n h x0 x1 x2 = some (r, h') → jw_E 3 uX10_join hi 48 [some (.ref x0), some (.int x1), some (.int x2)] [] h (.inl (some (.int r))) h' := by
  intro n
  induction n with
  | zero => intro h x0 x1 x2 r h' hq; exact nomatch hq
  | succ n ih => intro h x0 x1 x2 r h' hq; exact l_X10_join_b48g ih hq

set_option maxRecDepth 100000 in
set_option maxHeartbeats 4000000 in
theorem l_X10_join_b24 {hi : jw_H} {h : jw_H} {x0 : Nat} {t0 : Int32} {r : Int32} {h' : jw_H} (hq : g_X10_join_b24  h x0 t0 = some (r, h')) : jw_E 3 uX10_join hi 24 [some (.ref x0), none, none] [.int t0] h (.inl (some (.int r))) h' := by
  unfold g_X10_join_b24 at hq
  refine jw_istore_n (L' := [some (.ref x0), some (.int t0), none]) dX10_join_24 (Nat.le_of_ble_eq_true rfl) rfl ?_
  refine jw_iload_n dX10_join_25 rfl ?_
  refine jw_aload_n dX10_join_26 (o := (some x0)) rfl ?_
  obtain ⟨v1, ev1, hq⟩ := Option.bind_eq_some_iff.mp hq
  refine jw_getR (o := (some x0)) dX10_join_27 ev1 fl_X10_15 rfl ?_
  obtain ⟨v2, ev2, hq⟩ := Option.bind_eq_some_iff.mp hq
  refine jw_getR (o := v1) dX10_join_30 ev2 fl_X10_123 rfl ?_
  obtain ⟨v3, ev3, hq⟩ := Option.bind_eq_some_iff.mp hq
  refine jw_getI (o := v2) dX10_join_33 ev3 fl_X10_126 rfl ?_
  rcases jw_if hq with ⟨c4, hq⟩ | ⟨c4, hq⟩
  · refine jw_icmp_le_t (tgt := 41) dX10_join_36 (by decide) c4 ?_
    refine jw_aload_n dX10_join_41 (o := (some x0)) rfl ?_
    obtain ⟨v5, ev5, hq⟩ := Option.bind_eq_some_iff.mp hq
    refine jw_getI (o := (some x0)) dX10_join_42 ev5 fl_X10_138 rfl ?_
    refine jw_iconst dX10_join_45 (v := (1 : Int32)) (by decide) ?_
    refine jw_iadd dX10_join_46 ?_
    refine jw_istore_n (L' := [some (.ref x0), some (.int t0), some (.int (v5 + (1 : Int32)))]) dX10_join_47 (Nat.le_of_ble_eq_true rfl) rfl ?_
    exact l_X10_join_b48  jw_FU _ _ _ _ _ _ hq
  · refine jw_icmp_le_f (tgt := 41) dX10_join_36 (by decide) c4 ?_
    refine jw_iconst dX10_join_39 (v := (1 : Int32)) (by decide) ?_
    cases hq
    exact jw_iret (ty := .int) dX10_join_40 rfl rfl

set_option maxRecDepth 100000 in
set_option maxHeartbeats 4000000 in
theorem l_X10_join {hi : jw_H} {h : jw_H} {x0 : Nat} {r : Int32} {h' : jw_H} (hq : f_X10_join  h x0 = some (r, h')) : jw_E 3 uX10_join hi 0 [some (.ref x0), none, none] [] h (.inl (some (.int r))) h' := by
  unfold f_X10_join at hq
  refine jw_aload_n dX10_join_0 (o := (some x0)) rfl ?_
  obtain ⟨v1, ev1, hq⟩ := Option.bind_eq_some_iff.mp hq
  refine jw_getI (o := (some x0)) dX10_join_1 ev1 fl_X10_138 rfl ?_
  refine jw_aload_n dX10_join_4 (o := (some x0)) rfl ?_
  obtain ⟨v2, ev2, hq⟩ := Option.bind_eq_some_iff.mp hq
  refine jw_getI (o := (some x0)) dX10_join_5 ev2 fl_X10_141 rfl ?_
  rcases jw_if hq with ⟨c3, hq⟩ | ⟨c3, hq⟩
  · refine jw_icmp_ne_f (tgt := 20) dX10_join_8 (by decide) c3 ?_
    refine jw_aload_n dX10_join_11 (o := (some x0)) rfl ?_
    obtain ⟨v5, ev5, hq⟩ := Option.bind_eq_some_iff.mp hq
    refine jw_getI (o := (some x0)) dX10_join_12 ev5 fl_X10_141 rfl ?_
    refine jw_iconst dX10_join_15 (v := (1 : Int32)) (by decide) ?_
    refine jw_iadd dX10_join_16 ?_
    refine jw_goto (tgt := 24) dX10_join_17 (by decide) ?_
    exact l_X10_join_b24  hq
  · refine jw_icmp_ne_t (tgt := 20) dX10_join_8 (by decide) c3 ?_
    refine jw_aload_n dX10_join_20 (o := (some x0)) rfl ?_
    obtain ⟨v4, ev4, hq⟩ := Option.bind_eq_some_iff.mp hq
    refine jw_getI (o := (some x0)) dX10_join_21 ev4 fl_X10_141 rfl ?_
    exact l_X10_join_b24  hq

theorem c_X10_join {h : jw_H} {x0 : Nat} {r : Int32} {h' : jw_H} (hq : f_X10_join h x0 = some (r, h')) : jw_Con (Cond.code yX10_join cX10_join 3 (some .int)) yX10_join 3 [.ref x0] h (.inl (some (.int r))) h' :=
  jw_con false (plainFor_of_name (by decide +kernel)) (fun z => nomatch z) (by simp [jw_ent, jw_sl0_nil, jw_sl0_int, jw_sl0_long, jw_sl0_ref, jw_sl0_rf, jw_sl0_scr, List.replicate]) (by simp [jw_sl0_nil, jw_sl0_int, jw_sl0_long, jw_sl0_ref, jw_sl0_rf, jw_sl0_scr]) (l_X10_join hq)


/-! X7_moveRest -/
noncomputable def f_X7_moveRest (h : jw_H) (x0 : Nat) (x1 : Int32) (x2 : Int32) : Option (Unit × jw_H) :=
 (jw_rc h 7 (some x0)).bind fun a1 =>
 jw_b2 (f_X7_has h a1 x1) fun w3 h2 =>
 if w3 = 0 then (some ((), h2))
 else (if x2 < 0 then (some ((), h2))
 else ((jw_gR h2 7 (some x0) 0).bind fun v6 =>
 (jw_ai h2 20 v6 (x1 - (1 : Int32))).bind fun v7 =>
 if v7 ≤ x2 then (some ((), h2))
 else ((jw_gR h2 7 (some x0) 1).bind fun v9 =>
 (jw_gR h2 7 (some x0) 0).bind fun v10 =>
 (jw_ai h2 20 v10 (x1 - (1 : Int32))).bind fun v11 =>
 (jw_rc h2 7 (some x0)).bind fun a12 =>
 jw_b2 (f_X7_write h2 a12 (x1 + (1 : Int32)) v9 (((x1 - (1 : Int32)) * (30 : Int32)) + x2) (v11 - x2)) fun w14 h13 =>
 (jw_gR h13 7 (some x0) 0).bind fun v15 =>
 (jw_si h13 20 v15 (x1 - (1 : Int32)) x2).bind fun h16 =>
 some ((), h16))))

set_option maxRecDepth 100000 in
set_option maxHeartbeats 4000000 in
theorem l_X7_moveRest {hi : jw_H} {h : jw_H} {x0 : Nat} {x1 : Int32} {x2 : Int32} {r : Unit} {h' : jw_H} (hq : f_X7_moveRest  h x0 x1 x2 = some (r, h')) : jw_E 2 uX7_moveRest hi 0 [some (.ref x0), some (.int x1), some (.int x2)] [] h (.inl none) h' := by
  unfold f_X7_moveRest at hq
  refine jw_aload_n dX7_moveRest_0 (o := (some x0)) rfl ?_
  refine jw_iload_n dX7_moveRest_1 rfl ?_
  obtain ⟨a1, ea1, hq⟩ := Option.bind_eq_some_iff.mp hq
  obtain ⟨eoa1, eta1⟩ := jw_rc_spec ea1
  obtain ⟨w3, h2, ew3, hq⟩ := jw_b2_spec hq
  refine jw_callV (As := [.int x1]) (S := []) (a := a1) (v := some (.int w3)) dX7_moveRest_2 mt_X7_has in_X7_has se_X7_has lk_X7_38 (c_X7_has ew3) eta1 (by decide) rfl rfl (by decide) (Nat.le_of_ble_eq_true rfl) (by cases eoa1; rfl) ?_
  rcases jw_if hq with ⟨c4, hq⟩ | ⟨c4, hq⟩
  · refine jw_if_eq_t (tgt := 62) dX7_moveRest_5 (by decide) c4 ?_
    cases hq
    exact jw_vret dX7_moveRest_62 rfl
  · refine jw_if_eq_f (tgt := 62) dX7_moveRest_5 (by decide) c4 ?_
    refine jw_iload_n dX7_moveRest_8 rfl ?_
    rcases jw_if hq with ⟨c5, hq⟩ | ⟨c5, hq⟩
    · refine jw_if_lt_t (tgt := 62) dX7_moveRest_9 (by decide) c5 ?_
      cases hq
      exact jw_vret dX7_moveRest_62 rfl
    · refine jw_if_lt_f (tgt := 62) dX7_moveRest_9 (by decide) c5 ?_
      refine jw_iload_n dX7_moveRest_12 rfl ?_
      refine jw_aload_n dX7_moveRest_13 (o := (some x0)) rfl ?_
      obtain ⟨v6, ev6, hq⟩ := Option.bind_eq_some_iff.mp hq
      refine jw_getR (o := (some x0)) dX7_moveRest_14 ev6 fl_X7_15 rfl ?_
      refine jw_iload_n dX7_moveRest_17 rfl ?_
      refine jw_iconst dX7_moveRest_18 (v := (1 : Int32)) (by decide) ?_
      refine jw_isub dX7_moveRest_19 ?_
      obtain ⟨v7, ev7, hq⟩ := Option.bind_eq_some_iff.mp hq
      refine jw_iald (o := v6) dX7_moveRest_20 ev7 ?_
      rcases jw_if hq with ⟨c8, hq⟩ | ⟨c8, hq⟩
      · refine jw_icmp_ge_t (tgt := 62) dX7_moveRest_21 (by decide) c8 ?_
        cases hq
        exact jw_vret dX7_moveRest_62 rfl
      · refine jw_icmp_ge_f (tgt := 62) dX7_moveRest_21 (by decide) c8 ?_
        refine jw_aload_n dX7_moveRest_24 (o := (some x0)) rfl ?_
        refine jw_iload_n dX7_moveRest_25 rfl ?_
        refine jw_iconst dX7_moveRest_26 (v := (1 : Int32)) (by decide) ?_
        refine jw_iadd dX7_moveRest_27 ?_
        refine jw_aload_n dX7_moveRest_28 (o := (some x0)) rfl ?_
        obtain ⟨v9, ev9, hq⟩ := Option.bind_eq_some_iff.mp hq
        refine jw_getR (o := (some x0)) dX7_moveRest_29 ev9 fl_X7_21 rfl ?_
        refine jw_iload_n dX7_moveRest_32 rfl ?_
        refine jw_iconst dX7_moveRest_33 (v := (1 : Int32)) (by decide) ?_
        refine jw_isub dX7_moveRest_34 ?_
        refine jw_bipush dX7_moveRest_35 (v := (30 : Int32)) (by decide) ?_
        refine jw_imul dX7_moveRest_37 ?_
        refine jw_iload_n dX7_moveRest_38 rfl ?_
        refine jw_iadd dX7_moveRest_39 ?_
        refine jw_aload_n dX7_moveRest_40 (o := (some x0)) rfl ?_
        obtain ⟨v10, ev10, hq⟩ := Option.bind_eq_some_iff.mp hq
        refine jw_getR (o := (some x0)) dX7_moveRest_41 ev10 fl_X7_15 rfl ?_
        refine jw_iload_n dX7_moveRest_44 rfl ?_
        refine jw_iconst dX7_moveRest_45 (v := (1 : Int32)) (by decide) ?_
        refine jw_isub dX7_moveRest_46 ?_
        obtain ⟨v11, ev11, hq⟩ := Option.bind_eq_some_iff.mp hq
        refine jw_iald (o := v10) dX7_moveRest_47 ev11 ?_
        refine jw_iload_n dX7_moveRest_48 rfl ?_
        refine jw_isub dX7_moveRest_49 ?_
        obtain ⟨a12, ea12, hq⟩ := Option.bind_eq_some_iff.mp hq
        obtain ⟨eoa12, eta12⟩ := jw_rc_spec ea12
        obtain ⟨w14, h13, ew14, hq⟩ := jw_b2_spec hq
        refine jw_callV (As := [.int (x1 + (1 : Int32)), va_rf v9, .int (((x1 - (1 : Int32)) * (30 : Int32)) + x2), .int (v11 - x2)]) (S := []) (a := a12) (v := none) dX7_moveRest_50 mt_X7_write in_X7_write se_X7_write lk_X7_50 (c_X7_write ew14) eta12 (by decide) rfl rfl (by decide) (Nat.le_of_ble_eq_true rfl) (by cases eoa12; rfl) ?_
        refine jw_aload_n dX7_moveRest_53 (o := (some x0)) rfl ?_
        obtain ⟨v15, ev15, hq⟩ := Option.bind_eq_some_iff.mp hq
        refine jw_getR (o := (some x0)) dX7_moveRest_54 ev15 fl_X7_15 rfl ?_
        refine jw_iload_n dX7_moveRest_57 rfl ?_
        refine jw_iconst dX7_moveRest_58 (v := (1 : Int32)) (by decide) ?_
        refine jw_isub dX7_moveRest_59 ?_
        refine jw_iload_n dX7_moveRest_60 rfl ?_
        obtain ⟨h16, eh16, hq⟩ := Option.bind_eq_some_iff.mp hq
        refine jw_iast (o := v15) dX7_moveRest_61 eh16 ?_
        cases hq
        exact jw_vret dX7_moveRest_62 rfl

theorem c_X7_moveRest {h : jw_H} {x0 : Nat} {x1 : Int32} {x2 : Int32} {r : Unit} {h' : jw_H} (hq : f_X7_moveRest h x0 x1 x2 = some (r, h')) : jw_Con (Cond.code yX7_moveRest cX7_moveRest 3 none) yX7_moveRest 2 [.ref x0, .int x1, .int x2] h (.inl none) h' :=
  jw_con false (plainFor_of_name (by decide +kernel)) (fun z => nomatch z) (by simp [jw_ent, jw_sl0_nil, jw_sl0_int, jw_sl0_long, jw_sl0_ref, jw_sl0_rf, jw_sl0_scr, List.replicate]) (by simp [jw_sl0_nil, jw_sl0_int, jw_sl0_long, jw_sl0_ref, jw_sl0_rf, jw_sl0_scr]) (l_X7_moveRest hq)


/-! X10_part -/
noncomputable def g_X10_part_b67 (k17 : jw_H → Nat → Int32 → Int32 → Int32 → Option (Int32 × jw_H)) (h : jw_H) (x0 : Nat) (x1 : Int32) (x2 : Int32) (x3 : Int32) : Option (Int32 × jw_H) :=
 k17 h x0 x1 (x2 + (1 : Int32)) (x3 + (-1 : Int32))

noncomputable def g_X10_part_b17 (k17 : jw_H → Nat → Int32 → Int32 → Int32 → Option (Int32 × jw_H)) (h : jw_H) (x0 : Nat) (x1 : Int32) (x2 : Int32) (x3 : Int32) : Option (Int32 × jw_H) :=
 if x3 ≤ 0 then ((jw_gR h 10 (some x0) 1).bind fun v2 =>
 (jw_pI h 9 v2 3 (x2 - (1 : Int32))).bind fun h3 =>
 some ((0 : Int32), h3))
 else ((jw_gR h 10 (some x0) 1).bind fun v4 =>
 (jw_gR h 9 v4 0).bind fun v5 =>
 (jw_rc h 7 v5).bind fun a6 =>
 jw_b2 (f_X7_lengthOf h a6 x2) fun w8 h7 =>
 if w8 ≤ x1 then (g_X10_part_b67 k17 h7 x0 x1 x2 x3)
 else ((jw_gR h7 10 (some x0) 1).bind fun v10 =>
 (jw_rc h7 9 v10).bind fun a11 =>
 jw_b2 (f_X9_open h7 a11 (x2 + (1 : Int32)) (1 : Int32)) fun w13 h12 =>
 if w13 = 0 then (some ((4 : Int32), h12))
 else ((jw_gR h12 10 (some x0) 1).bind fun v15 =>
 (jw_gR h12 9 v15 0).bind fun v16 =>
 (jw_rc h12 7 v16).bind fun a17 =>
 jw_b2 (f_X7_moveRest h12 a17 x2 x1) fun w19 h18 =>
 g_X10_part_b67 k17 h18 x0 x1 (x2 + (1 : Int32)) x3)))

noncomputable def f_X10_part_b17 (n : Nat) : jw_H → Nat → Int32 → Int32 → Int32 → Option (Int32 × jw_H) :=
 Nat.rec (fun _ _ _ _ _ => none) (fun _ k17 => g_X10_part_b17 k17) n

noncomputable def f_X10_part (h : jw_H) (x0 : Nat) (x1 : Int32) : Option (Int32 × jw_H) :=
 (jw_gI h 10 (some x0) 12).bind fun v1 =>
 (jw_gI h 10 (some x0) 13).bind fun v2 =>
 (jw_gI h 10 (some x0) 12).bind fun v3 =>
 f_X10_part_b17  jw_FU h x0 x1 v1 ((v2 - v3) + (1 : Int32))

set_option maxRecDepth 100000 in
set_option maxHeartbeats 4000000 in
theorem l_X10_part_b67 {hi : jw_H} {k17 : jw_H → Nat → Int32 → Int32 → Int32 → Option (Int32 × jw_H)} (hk17 : ∀ (h : jw_H) (x0 : Nat) (x1 : Int32) (x2 : Int32) (x3 : Int32) (r : Int32) (h' : jw_H), k17 h x0 x1 x2 x3 = some (r, h') → jw_E 3 uX10_part hi 17 [some (.ref x0), some (.int x1), some (.int x2), some (.int x3)] [] h (.inl (some (.int r))) h') {h : jw_H} {x0 : Nat} {x1 : Int32} {x2 : Int32} {x3 : Int32} {r : Int32} {h' : jw_H} (hq : g_X10_part_b67 k17 h x0 x1 x2 x3 = some (r, h')) : jw_E 3 uX10_part hi 67 [some (.ref x0), some (.int x1), some (.int x2), some (.int x3)] [] h (.inl (some (.int r))) h' := by
  unfold g_X10_part_b67 at hq
  refine jw_iinc (L' := [some (.ref x0), some (.int x1), some (.int (x2 + (1 : Int32))), some (.int x3)]) dX10_part_67 rfl (v := (1 : Int32)) (by decide) (Nat.le_of_ble_eq_true rfl) rfl ?_
  refine jw_iinc (L' := [some (.ref x0), some (.int x1), some (.int (x2 + (1 : Int32))), some (.int (x3 + (-1 : Int32)))]) dX10_part_70 rfl (v := (-1 : Int32)) (by decide) (Nat.le_of_ble_eq_true rfl) rfl ?_
  refine jw_goto (tgt := 17) dX10_part_73 (by decide) ?_
  exact hk17 _ _ _ _ _ _ _ hq

set_option maxRecDepth 100000 in
set_option maxHeartbeats 4000000 in
theorem l_X10_part_b17g {hi : jw_H} {k17 : jw_H → Nat → Int32 → Int32 → Int32 → Option (Int32 × jw_H)} (hk17 : ∀ (h : jw_H) (x0 : Nat) (x1 : Int32) (x2 : Int32) (x3 : Int32) (r : Int32) (h' : jw_H), k17 h x0 x1 x2 x3 = some (r, h') → jw_E 3 uX10_part hi 17 [some (.ref x0), some (.int x1), some (.int x2), some (.int x3)] [] h (.inl (some (.int r))) h') {h : jw_H} {x0 : Nat} {x1 : Int32} {x2 : Int32} {x3 : Int32} {r : Int32} {h' : jw_H} (hq : g_X10_part_b17 k17 h x0 x1 x2 x3 = some (r, h')) : jw_E 3 uX10_part hi 17 [some (.ref x0), some (.int x1), some (.int x2), some (.int x3)] [] h (.inl (some (.int r))) h' := by
  unfold g_X10_part_b17 at hq
  refine jw_iload_n dX10_part_17 rfl ?_
  rcases jw_if hq with ⟨c1, hq⟩ | ⟨c1, hq⟩
  · refine jw_if_le_t (tgt := 76) dX10_part_18 (by decide) c1 ?_
    refine jw_aload_n dX10_part_76 (o := (some x0)) rfl ?_
    obtain ⟨v2, ev2, hq⟩ := Option.bind_eq_some_iff.mp hq
    refine jw_getR (o := (some x0)) dX10_part_77 ev2 fl_X10_15 rfl ?_
    refine jw_iload_n dX10_part_80 rfl ?_
    refine jw_iconst dX10_part_81 (v := (1 : Int32)) (by decide) ?_
    refine jw_isub dX10_part_82 ?_
    obtain ⟨h3, eh3, hq⟩ := Option.bind_eq_some_iff.mp hq
    refine jw_putI (o := v2) dX10_part_83 eh3 fl_X10_135 rfl rfl ?_
    refine jw_iconst dX10_part_86 (v := (0 : Int32)) (by decide) ?_
    cases hq
    exact jw_iret (ty := .int) dX10_part_87 rfl rfl
  · refine jw_if_le_f (tgt := 76) dX10_part_18 (by decide) c1 ?_
    refine jw_aload_n dX10_part_21 (o := (some x0)) rfl ?_
    obtain ⟨v4, ev4, hq⟩ := Option.bind_eq_some_iff.mp hq
    refine jw_getR (o := (some x0)) dX10_part_22 ev4 fl_X10_15 rfl ?_
    obtain ⟨v5, ev5, hq⟩ := Option.bind_eq_some_iff.mp hq
    refine jw_getR (o := v4) dX10_part_25 ev5 fl_X10_123 rfl ?_
    refine jw_iload_n dX10_part_28 rfl ?_
    obtain ⟨a6, ea6, hq⟩ := Option.bind_eq_some_iff.mp hq
    obtain ⟨eoa6, eta6⟩ := jw_rc_spec ea6
    obtain ⟨w8, h7, ew8, hq⟩ := jw_b2_spec hq
    refine jw_callV (As := [.int x2]) (S := []) (a := a6) (v := some (.int w8)) dX10_part_29 mt_X7_lengthOf in_X7_lengthOf se_X7_lengthOf lk_X10_297 (c_X7_lengthOf ew8) eta6 (by decide) rfl rfl (by decide) (Nat.le_of_ble_eq_true rfl) (by cases eoa6; rfl) ?_
    refine jw_iload_n dX10_part_32 rfl ?_
    rcases jw_if hq with ⟨c9, hq⟩ | ⟨c9, hq⟩
    · refine jw_icmp_le_t (tgt := 67) dX10_part_33 (by decide) c9 ?_
      exact l_X10_part_b67 hk17 hq
    · refine jw_icmp_le_f (tgt := 67) dX10_part_33 (by decide) c9 ?_
      refine jw_aload_n dX10_part_36 (o := (some x0)) rfl ?_
      obtain ⟨v10, ev10, hq⟩ := Option.bind_eq_some_iff.mp hq
      refine jw_getR (o := (some x0)) dX10_part_37 ev10 fl_X10_15 rfl ?_
      refine jw_iload_n dX10_part_40 rfl ?_
      refine jw_iconst dX10_part_41 (v := (1 : Int32)) (by decide) ?_
      refine jw_iadd dX10_part_42 ?_
      refine jw_iconst dX10_part_43 (v := (1 : Int32)) (by decide) ?_
      obtain ⟨a11, ea11, hq⟩ := Option.bind_eq_some_iff.mp hq
      obtain ⟨eoa11, eta11⟩ := jw_rc_spec ea11
      obtain ⟨w13, h12, ew13, hq⟩ := jw_b2_spec hq
      refine jw_callV (As := [.int (x2 + (1 : Int32)), .int (1 : Int32)]) (S := []) (a := a11) (v := some (.int w13)) dX10_part_44 mt_X9_open in_X9_open se_X9_open lk_X10_276 (c_X9_open ew13) eta11 (by decide) rfl rfl (by decide) (Nat.le_of_ble_eq_true rfl) (by cases eoa11; rfl) ?_
      rcases jw_if hq with ⟨c14, hq⟩ | ⟨c14, hq⟩
      · refine jw_if_ne_f (tgt := 52) dX10_part_47 (by decide) c14 ?_
        refine jw_iconst dX10_part_50 (v := (4 : Int32)) (by decide) ?_
        cases hq
        exact jw_iret (ty := .int) dX10_part_51 rfl rfl
      · refine jw_if_ne_t (tgt := 52) dX10_part_47 (by decide) c14 ?_
        refine jw_aload_n dX10_part_52 (o := (some x0)) rfl ?_
        obtain ⟨v15, ev15, hq⟩ := Option.bind_eq_some_iff.mp hq
        refine jw_getR (o := (some x0)) dX10_part_53 ev15 fl_X10_15 rfl ?_
        obtain ⟨v16, ev16, hq⟩ := Option.bind_eq_some_iff.mp hq
        refine jw_getR (o := v15) dX10_part_56 ev16 fl_X10_123 rfl ?_
        refine jw_iload_n dX10_part_59 rfl ?_
        refine jw_iload_n dX10_part_60 rfl ?_
        obtain ⟨a17, ea17, hq⟩ := Option.bind_eq_some_iff.mp hq
        obtain ⟨eoa17, eta17⟩ := jw_rc_spec ea17
        obtain ⟨w19, h18, ew19, hq⟩ := jw_b2_spec hq
        refine jw_callV (As := [.int x2, .int x1]) (S := []) (a := a17) (v := none) dX10_part_61 mt_X7_moveRest in_X7_moveRest se_X7_moveRest lk_X10_300 (c_X7_moveRest ew19) eta17 (by decide) rfl rfl (by decide) (Nat.le_of_ble_eq_true rfl) (by cases eoa17; rfl) ?_
        refine jw_iinc (L' := [some (.ref x0), some (.int x1), some (.int (x2 + (1 : Int32))), some (.int x3)]) dX10_part_64 rfl (v := (1 : Int32)) (by decide) (Nat.le_of_ble_eq_true rfl) rfl ?_
        exact l_X10_part_b67 hk17 hq

theorem l_X10_part_b17 {hi : jw_H} : ∀ (n : Nat) (h : jw_H) (x0 : Nat) (x1 : Int32) (x2 : Int32) (x3 : Int32) (r : Int32) (h' : jw_H), f_X10_part_b17  n h x0 x1 x2 x3 = some (r, h') → jw_E 3 uX10_part hi 17 [some (.ref x0), some (.int x1), some (.int x2), some (.int x3)] [] h (.inl (some (.int r))) h' := by
  intro n
  induction n with
  | zero => intro h x0 x1 x2 x3 r h' hq; exact nomatch hq
  | succ n ih => intro h x0 x1 x2 x3 r h' hq; exact l_X10_part_b17g ih hq

set_option maxRecDepth 100000 in
set_option maxHeartbeats 4000000 in
theorem l_X10_part {hi : jw_H} {h : jw_H} {x0 : Nat} {x1 : Int32} {r : Int32} {h' : jw_H} (hq : f_X10_part  h x0 x1 = some (r, h')) : jw_E 3 uX10_part hi 0 [some (.ref x0), some (.int x1), none, none] [] h (.inl (some (.int r))) h' := by
  unfold f_X10_part at hq
  refine jw_aload_n dX10_part_0 (o := (some x0)) rfl ?_
  obtain ⟨v1, ev1, hq⟩ := Option.bind_eq_some_iff.mp hq
  refine jw_getI (o := (some x0)) dX10_part_1 ev1 fl_X10_138 rfl ?_
  refine jw_istore_n (L' := [some (.ref x0), some (.int x1), some (.int v1), none]) dX10_part_4 (Nat.le_of_ble_eq_true rfl) rfl ?_
  refine jw_aload_n dX10_part_5 (o := (some x0)) rfl ?_
  obtain ⟨v2, ev2, hq⟩ := Option.bind_eq_some_iff.mp hq
  refine jw_getI (o := (some x0)) dX10_part_6 ev2 fl_X10_141 rfl ?_
  refine jw_aload_n dX10_part_9 (o := (some x0)) rfl ?_
  obtain ⟨v3, ev3, hq⟩ := Option.bind_eq_some_iff.mp hq
  refine jw_getI (o := (some x0)) dX10_part_10 ev3 fl_X10_138 rfl ?_
  refine jw_isub dX10_part_13 ?_
  refine jw_iconst dX10_part_14 (v := (1 : Int32)) (by decide) ?_
  refine jw_iadd dX10_part_15 ?_
  refine jw_istore_n (L' := [some (.ref x0), some (.int x1), some (.int v1), some (.int ((v2 - v3) + (1 : Int32)))]) dX10_part_16 (Nat.le_of_ble_eq_true rfl) rfl ?_
  exact l_X10_part_b17  jw_FU _ _ _ _ _ _ _ hq

theorem c_X10_part {h : jw_H} {x0 : Nat} {x1 : Int32} {r : Int32} {h' : jw_H} (hq : f_X10_part h x0 x1 = some (r, h')) : jw_Con (Cond.code yX10_part cX10_part 4 (some .int)) yX10_part 3 [.ref x0, .int x1] h (.inl (some (.int r))) h' :=
  jw_con false (plainFor_of_name (by decide +kernel)) (fun z => nomatch z) (by simp [jw_ent, jw_sl0_nil, jw_sl0_int, jw_sl0_long, jw_sl0_ref, jw_sl0_rf, jw_sl0_scr, List.replicate]) (by simp [jw_sl0_nil, jw_sl0_int, jw_sl0_long, jw_sl0_ref, jw_sl0_rf, jw_sl0_scr]) (l_X10_part hq)


/-! X7_same -/
noncomputable def g_X7_same_b22 (k22 : jw_H → Nat → Int32 → Option Nat → Int32 → Int32 → Int32 → Option (Int32 × jw_H)) (h : jw_H) (x0 : Nat) (x1 : Int32) (x2 : Option Nat) (x3 : Int32) (x4 : Int32) (x5 : Int32) : Option (Int32 × jw_H) :=
 if x4 ≤ x5 then (some ((1 : Int32), h))
 else ((jw_rc h 7 (some x0)).bind fun a2 =>
 jw_b2 (f_X7_signAt h a2 x1 x5) fun w4 h3 =>
 (jw_rc h3 7 x2).bind fun a5 =>
 jw_b2 (f_X7_signAt h3 a5 x3 x5) fun w7 h6 =>
 if w4 = w7 then (k22 h6 x0 x1 x2 x3 x4 (x5 + (1 : Int32)))
 else (some ((0 : Int32), h6)))

noncomputable def f_X7_same_b22 (n : Nat) : jw_H → Nat → Int32 → Option Nat → Int32 → Int32 → Int32 → Option (Int32 × jw_H) :=
 Nat.rec (fun _ _ _ _ _ _ _ => none) (fun _ k22 => g_X7_same_b22 k22) n

noncomputable def f_X7_same (h : jw_H) (x0 : Nat) (x1 : Int32) (x2 : Option Nat) (x3 : Int32) : Option (Int32 × jw_H) :=
 (jw_rc h 7 (some x0)).bind fun a1 =>
 jw_b2 (f_X7_lengthOf h a1 x1) fun w3 h2 =>
 (jw_rc h2 7 x2).bind fun a4 =>
 jw_b2 (f_X7_lengthOf h2 a4 x3) fun w6 h5 =>
 if w3 = w6 then (f_X7_same_b22  jw_FU h5 x0 x1 x2 x3 w3 (0 : Int32))
 else (some ((0 : Int32), h5))

set_option maxRecDepth 100000 in
set_option maxHeartbeats 4000000 in
theorem l_X7_same_b22g {hi : jw_H} {k22 : jw_H → Nat → Int32 → Option Nat → Int32 → Int32 → Int32 → Option (Int32 × jw_H)} (hk22 : ∀ (h : jw_H) (x0 : Nat) (x1 : Int32) (x2 : Option Nat) (x3 : Int32) (x4 : Int32) (x5 : Int32) (r : Int32) (h' : jw_H), k22 h x0 x1 x2 x3 x4 x5 = some (r, h') → jw_E 1 uX7_same hi 22 [some (.ref x0), some (.int x1), some (va_rf x2), some (.int x3), some (.int x4), some (.int x5)] [] h (.inl (some (.int r))) h') {h : jw_H} {x0 : Nat} {x1 : Int32} {x2 : Option Nat} {x3 : Int32} {x4 : Int32} {x5 : Int32} {r : Int32} {h' : jw_H} (hq : g_X7_same_b22 k22 h x0 x1 x2 x3 x4 x5 = some (r, h')) : jw_E 1 uX7_same hi 22 [some (.ref x0), some (.int x1), some (va_rf x2), some (.int x3), some (.int x4), some (.int x5)] [] h (.inl (some (.int r))) h' := by
  unfold g_X7_same_b22 at hq
  refine jw_iload dX7_same_22 rfl ?_
  refine jw_iload dX7_same_24 rfl ?_
  rcases jw_if hq with ⟨c1, hq⟩ | ⟨c1, hq⟩
  · refine jw_icmp_ge_t (tgt := 54) dX7_same_26 (by decide) c1 ?_
    refine jw_iconst dX7_same_54 (v := (1 : Int32)) (by decide) ?_
    cases hq
    exact jw_iret (ty := .boolean) dX7_same_55 rfl rfl
  · refine jw_icmp_ge_f (tgt := 54) dX7_same_26 (by decide) c1 ?_
    refine jw_aload_n dX7_same_29 (o := (some x0)) rfl ?_
    refine jw_iload_n dX7_same_30 rfl ?_
    refine jw_iload dX7_same_31 rfl ?_
    obtain ⟨a2, ea2, hq⟩ := Option.bind_eq_some_iff.mp hq
    obtain ⟨eoa2, eta2⟩ := jw_rc_spec ea2
    obtain ⟨w4, h3, ew4, hq⟩ := jw_b2_spec hq
    refine jw_callV (As := [.int x1, .int x5]) (S := []) (a := a2) (v := some (.int w4)) dX7_same_33 mt_X7_signAt in_X7_signAt se_X7_signAt lk_X7_54 (c_X7_signAt ew4) eta2 (by decide) rfl rfl (by decide) (Nat.le_of_ble_eq_true rfl) (by cases eoa2; rfl) ?_
    refine jw_aload_n dX7_same_36 (o := x2) rfl ?_
    refine jw_iload_n dX7_same_37 rfl ?_
    refine jw_iload dX7_same_38 rfl ?_
    obtain ⟨a5, ea5, hq⟩ := Option.bind_eq_some_iff.mp hq
    obtain ⟨eoa5, eta5⟩ := jw_rc_spec ea5
    obtain ⟨w7, h6, ew7, hq⟩ := jw_b2_spec hq
    refine jw_callV (As := [.int x3, .int x5]) (S := [.int w4]) (a := a5) (v := some (.int w7)) dX7_same_40 mt_X7_signAt in_X7_signAt se_X7_signAt lk_X7_54 (c_X7_signAt ew7) eta5 (by decide) rfl rfl (by decide) (Nat.le_of_ble_eq_true rfl) (by cases eoa5; rfl) ?_
    rcases jw_if hq with ⟨c8, hq⟩ | ⟨c8, hq⟩
    · refine jw_icmp_eq_t (tgt := 48) dX7_same_43 (by decide) c8 ?_
      refine jw_iinc (L' := [some (.ref x0), some (.int x1), some (va_rf x2), some (.int x3), some (.int x4), some (.int (x5 + (1 : Int32)))]) dX7_same_48 rfl (v := (1 : Int32)) (by decide) (Nat.le_of_ble_eq_true rfl) rfl ?_
      refine jw_goto (tgt := 22) dX7_same_51 (by decide) ?_
      exact hk22 _ _ _ _ _ _ _ _ _ hq
    · refine jw_icmp_eq_f (tgt := 48) dX7_same_43 (by decide) c8 ?_
      refine jw_iconst dX7_same_46 (v := (0 : Int32)) (by decide) ?_
      cases hq
      exact jw_iret (ty := .boolean) dX7_same_47 rfl rfl

theorem l_X7_same_b22 {hi : jw_H} : ∀ (n : Nat) (h : jw_H) (x0 : Nat) (x1 : Int32) (x2 : Option Nat) (x3 : Int32) (x4 : Int32) (x5 : Int32) (r : Int32) (h' : jw_H), f_X7_same_b22  n h x0 x1 x2 x3 x4 x5 = some (r, h') → jw_E 1 uX7_same hi 22 [some (.ref x0), some (.int x1), some (va_rf x2), some (.int x3), some (.int x4), some (.int x5)] [] h (.inl (some (.int r))) h' := by
  intro n
  induction n with
  | zero => intro h x0 x1 x2 x3 x4 x5 r h' hq; exact nomatch hq
  | succ n ih => intro h x0 x1 x2 x3 x4 x5 r h' hq; exact l_X7_same_b22g ih hq

set_option maxRecDepth 100000 in
set_option maxHeartbeats 4000000 in
theorem l_X7_same {hi : jw_H} {h : jw_H} {x0 : Nat} {x1 : Int32} {x2 : Option Nat} {x3 : Int32} {r : Int32} {h' : jw_H} (hq : f_X7_same  h x0 x1 x2 x3 = some (r, h')) : jw_E 1 uX7_same hi 0 [some (.ref x0), some (.int x1), some (va_rf x2), some (.int x3), none, none] [] h (.inl (some (.int r))) h' := by
  unfold f_X7_same at hq
  refine jw_aload_n dX7_same_0 (o := (some x0)) rfl ?_
  refine jw_iload_n dX7_same_1 rfl ?_
  obtain ⟨a1, ea1, hq⟩ := Option.bind_eq_some_iff.mp hq
  obtain ⟨eoa1, eta1⟩ := jw_rc_spec ea1
  obtain ⟨w3, h2, ew3, hq⟩ := jw_b2_spec hq
  refine jw_callV (As := [.int x1]) (S := []) (a := a1) (v := some (.int w3)) dX7_same_2 mt_X7_lengthOf in_X7_lengthOf se_X7_lengthOf lk_X7_42 (c_X7_lengthOf ew3) eta1 (by decide) rfl rfl (by decide) (Nat.le_of_ble_eq_true rfl) (by cases eoa1; rfl) ?_
  refine jw_istore (L' := [some (.ref x0), some (.int x1), some (va_rf x2), some (.int x3), some (.int w3), none]) dX7_same_5 (Nat.le_of_ble_eq_true rfl) rfl ?_
  refine jw_iload dX7_same_7 rfl ?_
  refine jw_aload_n dX7_same_9 (o := x2) rfl ?_
  refine jw_iload_n dX7_same_10 rfl ?_
  obtain ⟨a4, ea4, hq⟩ := Option.bind_eq_some_iff.mp hq
  obtain ⟨eoa4, eta4⟩ := jw_rc_spec ea4
  obtain ⟨w6, h5, ew6, hq⟩ := jw_b2_spec hq
  refine jw_callV (As := [.int x3]) (S := [.int w3]) (a := a4) (v := some (.int w6)) dX7_same_11 mt_X7_lengthOf in_X7_lengthOf se_X7_lengthOf lk_X7_42 (c_X7_lengthOf ew6) eta4 (by decide) rfl rfl (by decide) (Nat.le_of_ble_eq_true rfl) (by cases eoa4; rfl) ?_
  rcases jw_if hq with ⟨c7, hq⟩ | ⟨c7, hq⟩
  · refine jw_icmp_eq_t (tgt := 19) dX7_same_14 (by decide) c7 ?_
    refine jw_iconst dX7_same_19 (v := (0 : Int32)) (by decide) ?_
    refine jw_istore (L' := [some (.ref x0), some (.int x1), some (va_rf x2), some (.int x3), some (.int w3), some (.int (0 : Int32))]) dX7_same_20 (Nat.le_of_ble_eq_true rfl) rfl ?_
    exact l_X7_same_b22  jw_FU _ _ _ _ _ _ _ _ _ hq
  · refine jw_icmp_eq_f (tgt := 19) dX7_same_14 (by decide) c7 ?_
    refine jw_iconst dX7_same_17 (v := (0 : Int32)) (by decide) ?_
    cases hq
    exact jw_iret (ty := .boolean) dX7_same_18 rfl rfl

theorem c_X7_same {h : jw_H} {x0 : Nat} {x1 : Int32} {x2 : Option Nat} {x3 : Int32} {r : Int32} {h' : jw_H} (hq : f_X7_same h x0 x1 x2 x3 = some (r, h')) : jw_Con (Cond.code yX7_same cX7_same 6 (some .boolean)) yX7_same 1 [.ref x0, .int x1, va_rf x2, .int x3] h (.inl (some (.int r))) h' :=
  jw_con false (plainFor_of_name (by decide +kernel)) (fun z => nomatch z) (by simp [jw_ent, jw_sl0_nil, jw_sl0_int, jw_sl0_long, jw_sl0_ref, jw_sl0_rf, jw_sl0_scr, List.replicate]) (by simp [jw_sl0_nil, jw_sl0_int, jw_sl0_long, jw_sl0_ref, jw_sl0_rf, jw_sl0_scr]) (l_X7_same hq)


/-! X10_leaveOutSame -/
noncomputable def g_X10_leaveOutSame_b60 (k17 : jw_H → Nat → Int32 → Int32 → Option (Int32 × jw_H)) (h : jw_H) (x0 : Nat) (x1 : Int32) (x2 : Int32) : Option (Int32 × jw_H) :=
 k17 h x0 x1 (x2 + (-1 : Int32))

noncomputable def g_X10_leaveOutSame_b17 (k17 : jw_H → Nat → Int32 → Int32 → Option (Int32 × jw_H)) (h : jw_H) (x0 : Nat) (x1 : Int32) (x2 : Int32) : Option (Int32 × jw_H) :=
 if x2 ≤ 0 then ((jw_gR h 10 (some x0) 1).bind fun v2 =>
 (jw_pI h 9 v2 3 (x1 - (1 : Int32))).bind fun h3 =>
 some ((0 : Int32), h3))
 else ((jw_gR h 10 (some x0) 1).bind fun v4 =>
 (jw_gR h 9 v4 0).bind fun v5 =>
 (jw_gR h 10 (some x0) 1).bind fun v6 =>
 (jw_gR h 9 v6 0).bind fun v7 =>
 (jw_rc h 7 v5).bind fun a8 =>
 jw_b2 (f_X7_same h a8 x1 v7 (x1 - (1 : Int32))) fun w10 h9 =>
 if w10 = 0 then (g_X10_leaveOutSame_b60 k17 h9 x0 (x1 + (1 : Int32)) x2)
 else ((jw_gR h9 10 (some x0) 1).bind fun v12 =>
 (jw_rc h9 9 v12).bind fun a13 =>
 jw_b2 (f_X9_cut h9 a13 x1 (1 : Int32)) fun w15 h14 =>
 g_X10_leaveOutSame_b60 k17 h14 x0 x1 x2))

noncomputable def f_X10_leaveOutSame_b17 (n : Nat) : jw_H → Nat → Int32 → Int32 → Option (Int32 × jw_H) :=
 Nat.rec (fun _ _ _ _ => none) (fun _ k17 => g_X10_leaveOutSame_b17 k17) n

noncomputable def f_X10_leaveOutSame (h : jw_H) (x0 : Nat) : Option (Int32 × jw_H) :=
 (jw_gI h 10 (some x0) 12).bind fun v1 =>
 (jw_gI h 10 (some x0) 13).bind fun v2 =>
 (jw_gI h 10 (some x0) 12).bind fun v3 =>
 f_X10_leaveOutSame_b17  jw_FU h x0 (v1 + (1 : Int32)) (v2 - v3)

set_option maxRecDepth 100000 in
set_option maxHeartbeats 4000000 in
theorem l_X10_leaveOutSame_b60 {hi : jw_H} {k17 : jw_H → Nat → Int32 → Int32 → Option (Int32 × jw_H)} (hk17 : ∀ (h : jw_H) (x0 : Nat) (x1 : Int32) (x2 : Int32) (r : Int32) (h' : jw_H), k17 h x0 x1 x2 = some (r, h') → jw_E 3 uX10_leaveOutSame hi 17 [some (.ref x0), some (.int x1), some (.int x2)] [] h (.inl (some (.int r))) h') {h : jw_H} {x0 : Nat} {x1 : Int32} {x2 : Int32} {r : Int32} {h' : jw_H} (hq : g_X10_leaveOutSame_b60 k17 h x0 x1 x2 = some (r, h')) : jw_E 3 uX10_leaveOutSame hi 60 [some (.ref x0), some (.int x1), some (.int x2)] [] h (.inl (some (.int r))) h' := by
  unfold g_X10_leaveOutSame_b60 at hq
  refine jw_iinc (L' := [some (.ref x0), some (.int x1), some (.int (x2 + (-1 : Int32)))]) dX10_leaveOutSame_60 rfl (v := (-1 : Int32)) (by decide) (Nat.le_of_ble_eq_true rfl) rfl ?_
  refine jw_goto (tgt := 17) dX10_leaveOutSame_63 (by decide) ?_
  exact hk17 _ _ _ _ _ _ hq

set_option maxRecDepth 100000 in
set_option maxHeartbeats 4000000 in
theorem l_X10_leaveOutSame_b17g {hi : jw_H} {k17 : jw_H → Nat → Int32 → Int32 → Option (Int32 × jw_H)} (hk17 : ∀ (h : jw_H) (x0 : Nat) (x1 : Int32) (x2 : Int32) (r : Int32) (h' : jw_H), k17 h x0 x1 x2 = some (r, h') → jw_E 3 uX10_leaveOutSame hi 17 [some (.ref x0), some (.int x1), some (.int x2)] [] h (.inl (some (.int r))) h') {h : jw_H} {x0 : Nat} {x1 : Int32} {x2 : Int32} {r : Int32} {h' : jw_H} (hq : g_X10_leaveOutSame_b17 k17 h x0 x1 x2 = some (r, h')) : jw_E 3 uX10_leaveOutSame hi 17 [some (.ref x0), some (.int x1), some (.int x2)] [] h (.inl (some (.int r))) h' := by
  unfold g_X10_leaveOutSame_b17 at hq
  refine jw_iload_n dX10_leaveOutSame_17 rfl ?_
  rcases jw_if hq with ⟨c1, hq⟩ | ⟨c1, hq⟩
  · refine jw_if_le_t (tgt := 66) dX10_leaveOutSame_18 (by decide) c1 ?_
    refine jw_aload_n dX10_leaveOutSame_66 (o := (some x0)) rfl ?_
    obtain ⟨v2, ev2, hq⟩ := Option.bind_eq_some_iff.mp hq
    refine jw_getR (o := (some x0)) dX10_leaveOutSame_67 ev2 fl_X10_15 rfl ?_
    refine jw_iload_n dX10_leaveOutSame_70 rfl ?_
    refine jw_iconst dX10_leaveOutSame_71 (v := (1 : Int32)) (by decide) ?_
    refine jw_isub dX10_leaveOutSame_72 ?_
    obtain ⟨h3, eh3, hq⟩ := Option.bind_eq_some_iff.mp hq
    refine jw_putI (o := v2) dX10_leaveOutSame_73 eh3 fl_X10_135 rfl rfl ?_
    refine jw_iconst dX10_leaveOutSame_76 (v := (0 : Int32)) (by decide) ?_
    cases hq
    exact jw_iret (ty := .int) dX10_leaveOutSame_77 rfl rfl
  · refine jw_if_le_f (tgt := 66) dX10_leaveOutSame_18 (by decide) c1 ?_
    refine jw_aload_n dX10_leaveOutSame_21 (o := (some x0)) rfl ?_
    obtain ⟨v4, ev4, hq⟩ := Option.bind_eq_some_iff.mp hq
    refine jw_getR (o := (some x0)) dX10_leaveOutSame_22 ev4 fl_X10_15 rfl ?_
    obtain ⟨v5, ev5, hq⟩ := Option.bind_eq_some_iff.mp hq
    refine jw_getR (o := v4) dX10_leaveOutSame_25 ev5 fl_X10_123 rfl ?_
    refine jw_iload_n dX10_leaveOutSame_28 rfl ?_
    refine jw_aload_n dX10_leaveOutSame_29 (o := (some x0)) rfl ?_
    obtain ⟨v6, ev6, hq⟩ := Option.bind_eq_some_iff.mp hq
    refine jw_getR (o := (some x0)) dX10_leaveOutSame_30 ev6 fl_X10_15 rfl ?_
    obtain ⟨v7, ev7, hq⟩ := Option.bind_eq_some_iff.mp hq
    refine jw_getR (o := v6) dX10_leaveOutSame_33 ev7 fl_X10_123 rfl ?_
    refine jw_iload_n dX10_leaveOutSame_36 rfl ?_
    refine jw_iconst dX10_leaveOutSame_37 (v := (1 : Int32)) (by decide) ?_
    refine jw_isub dX10_leaveOutSame_38 ?_
    obtain ⟨a8, ea8, hq⟩ := Option.bind_eq_some_iff.mp hq
    obtain ⟨eoa8, eta8⟩ := jw_rc_spec ea8
    obtain ⟨w10, h9, ew10, hq⟩ := jw_b2_spec hq
    refine jw_callV (As := [.int x1, va_rf v7, .int (x1 - (1 : Int32))]) (S := []) (a := a8) (v := some (.int w10)) dX10_leaveOutSame_39 mt_X7_same in_X7_same se_X7_same lk_X10_303 (c_X7_same ew10) eta8 (by decide) rfl rfl (by decide) (Nat.le_of_ble_eq_true rfl) (by cases eoa8; rfl) ?_
    rcases jw_if hq with ⟨c11, hq⟩ | ⟨c11, hq⟩
    · refine jw_if_eq_t (tgt := 57) dX10_leaveOutSame_42 (by decide) c11 ?_
      refine jw_iinc (L' := [some (.ref x0), some (.int (x1 + (1 : Int32))), some (.int x2)]) dX10_leaveOutSame_57 rfl (v := (1 : Int32)) (by decide) (Nat.le_of_ble_eq_true rfl) rfl ?_
      exact l_X10_leaveOutSame_b60 hk17 hq
    · refine jw_if_eq_f (tgt := 57) dX10_leaveOutSame_42 (by decide) c11 ?_
      refine jw_aload_n dX10_leaveOutSame_45 (o := (some x0)) rfl ?_
      obtain ⟨v12, ev12, hq⟩ := Option.bind_eq_some_iff.mp hq
      refine jw_getR (o := (some x0)) dX10_leaveOutSame_46 ev12 fl_X10_15 rfl ?_
      refine jw_iload_n dX10_leaveOutSame_49 rfl ?_
      refine jw_iconst dX10_leaveOutSame_50 (v := (1 : Int32)) (by decide) ?_
      obtain ⟨a13, ea13, hq⟩ := Option.bind_eq_some_iff.mp hq
      obtain ⟨eoa13, eta13⟩ := jw_rc_spec ea13
      obtain ⟨w15, h14, ew15, hq⟩ := jw_b2_spec hq
      refine jw_callV (As := [.int x1, .int (1 : Int32)]) (S := []) (a := a13) (v := none) dX10_leaveOutSame_51 mt_X9_cut in_X9_cut se_X9_cut lk_X10_247 (c_X9_cut ew15) eta13 (by decide) rfl rfl (by decide) (Nat.le_of_ble_eq_true rfl) (by cases eoa13; rfl) ?_
      refine jw_goto (tgt := 60) dX10_leaveOutSame_54 (by decide) ?_
      exact l_X10_leaveOutSame_b60 hk17 hq

theorem l_X10_leaveOutSame_b17 {hi : jw_H} : ∀ (n : Nat) (h : jw_H) (x0 : Nat) (x1 : Int32) (x2 : Int32) (r : Int32) (h' : jw_H), f_X10_leaveOutSame_b17  n h x0 x1 x2 = some (r, h') → jw_E 3 uX10_leaveOutSame hi 17 [some (.ref x0), some (.int x1), some (.int x2)] [] h (.inl (some (.int r))) h' := by
  intro n
  induction n with
  | zero => intro h x0 x1 x2 r h' hq; exact nomatch hq
  | succ n ih => intro h x0 x1 x2 r h' hq; exact l_X10_leaveOutSame_b17g ih hq

set_option maxRecDepth 100000 in
set_option maxHeartbeats 4000000 in
theorem l_X10_leaveOutSame {hi : jw_H} {h : jw_H} {x0 : Nat} {r : Int32} {h' : jw_H} (hq : f_X10_leaveOutSame  h x0 = some (r, h')) : jw_E 3 uX10_leaveOutSame hi 0 [some (.ref x0), none, none] [] h (.inl (some (.int r))) h' := by
  unfold f_X10_leaveOutSame at hq
  refine jw_aload_n dX10_leaveOutSame_0 (o := (some x0)) rfl ?_
  obtain ⟨v1, ev1, hq⟩ := Option.bind_eq_some_iff.mp hq
  refine jw_getI (o := (some x0)) dX10_leaveOutSame_1 ev1 fl_X10_138 rfl ?_
  refine jw_iconst dX10_leaveOutSame_4 (v := (1 : Int32)) (by decide) ?_
  refine jw_iadd dX10_leaveOutSame_5 ?_
  refine jw_istore_n (L' := [some (.ref x0), some (.int (v1 + (1 : Int32))), none]) dX10_leaveOutSame_6 (Nat.le_of_ble_eq_true rfl) rfl ?_
  refine jw_aload_n dX10_leaveOutSame_7 (o := (some x0)) rfl ?_
  obtain ⟨v2, ev2, hq⟩ := Option.bind_eq_some_iff.mp hq
  refine jw_getI (o := (some x0)) dX10_leaveOutSame_8 ev2 fl_X10_141 rfl ?_
  refine jw_aload_n dX10_leaveOutSame_11 (o := (some x0)) rfl ?_
  obtain ⟨v3, ev3, hq⟩ := Option.bind_eq_some_iff.mp hq
  refine jw_getI (o := (some x0)) dX10_leaveOutSame_12 ev3 fl_X10_138 rfl ?_
  refine jw_isub dX10_leaveOutSame_15 ?_
  refine jw_istore_n (L' := [some (.ref x0), some (.int (v1 + (1 : Int32))), some (.int (v2 - v3))]) dX10_leaveOutSame_16 (Nat.le_of_ble_eq_true rfl) rfl ?_
  exact l_X10_leaveOutSame_b17  jw_FU _ _ _ _ _ _ hq

theorem c_X10_leaveOutSame {h : jw_H} {x0 : Nat} {r : Int32} {h' : jw_H} (hq : f_X10_leaveOutSame h x0 = some (r, h')) : jw_Con (Cond.code yX10_leaveOutSame cX10_leaveOutSame 3 (some .int)) yX10_leaveOutSame 3 [.ref x0] h (.inl (some (.int r))) h' :=
  jw_con false (plainFor_of_name (by decide +kernel)) (fun z => nomatch z) (by simp [jw_ent, jw_sl0_nil, jw_sl0_int, jw_sl0_long, jw_sl0_ref, jw_sl0_rf, jw_sl0_scr, List.replicate]) (by simp [jw_sl0_nil, jw_sl0_int, jw_sl0_long, jw_sl0_ref, jw_sl0_rf, jw_sl0_scr]) (l_X10_leaveOutSame hq)


/-! X10_lineUp -/
noncomputable def g_X10_lineUp_b6 (k6 : jw_H → Nat → Int32 → Int32 → Int32 → Option (Int32 × jw_H)) (h : jw_H) (x0 : Nat) (x3 : Int32) (x4 : Int32) (x5 : Int32) : Option (Int32 × jw_H) :=
 if x3 < x5 then (some (x4, h))
 else (if x4 < 0 then (some (x4, h))
 else ((jw_gR h 10 (some x0) 9).bind fun v3 =>
 (jw_ln h v3).bind fun v4 =>
 if v4 ≤ x4 then (some (x4, h))
 else ((jw_gR h 10 (some x0) 9).bind fun v6 =>
 (jw_si h 20 v6 x4 x5).bind fun h7 =>
 k6 h7 x0 x3 (x4 + (1 : Int32)) (x5 + (1 : Int32)))))

noncomputable def f_X10_lineUp_b6 (n : Nat) : jw_H → Nat → Int32 → Int32 → Int32 → Option (Int32 × jw_H) :=
 Nat.rec (fun _ _ _ _ _ => none) (fun _ k6 => g_X10_lineUp_b6 k6) n

noncomputable def f_X10_lineUp (h : jw_H) (x0 : Nat) (x1 : Int32) (x2 : Int32) (x3 : Int32) : Option (Int32 × jw_H) :=
 f_X10_lineUp_b6  jw_FU h x0 x3 x1 x2

set_option maxRecDepth 100000 in
set_option maxHeartbeats 4000000 in
theorem l_X10_lineUp_b6g {hi : jw_H} {k6 : jw_H → Nat → Int32 → Int32 → Int32 → Option (Int32 × jw_H)} (hk6 : ∀ (h : jw_H) (x0 : Nat) (x3 : Int32) (x4 : Int32) (x5 : Int32) (r : Int32) (h' : jw_H), k6 h x0 x3 x4 x5 = some (r, h') → jw_E 0 uX10_lineUp hi 6 [some (.ref x0), none, none, some (.int x3), some (.int x4), some (.int x5)] [] h (.inl (some (.int r))) h') {h : jw_H} {x0 : Nat} {x3 : Int32} {x4 : Int32} {x5 : Int32} {r : Int32} {h' : jw_H} (hq : g_X10_lineUp_b6 k6 h x0 x3 x4 x5 = some (r, h')) : jw_E 0 uX10_lineUp hi 6 [some (.ref x0), none, none, some (.int x3), some (.int x4), some (.int x5)] [] h (.inl (some (.int r))) h' := by
  unfold g_X10_lineUp_b6 at hq
  refine jw_iload dX10_lineUp_6 rfl ?_
  refine jw_iload_n dX10_lineUp_8 rfl ?_
  rcases jw_if hq with ⟨c1, hq⟩ | ⟨c1, hq⟩
  · refine jw_icmp_gt_t (tgt := 45) dX10_lineUp_9 (by decide) c1 ?_
    refine jw_iload dX10_lineUp_45 rfl ?_
    cases hq
    exact jw_iret (ty := .int) dX10_lineUp_47 rfl rfl
  · refine jw_icmp_gt_f (tgt := 45) dX10_lineUp_9 (by decide) c1 ?_
    refine jw_iload dX10_lineUp_12 rfl ?_
    rcases jw_if hq with ⟨c2, hq⟩ | ⟨c2, hq⟩
    · refine jw_if_lt_t (tgt := 45) dX10_lineUp_14 (by decide) c2 ?_
      refine jw_iload dX10_lineUp_45 rfl ?_
      cases hq
      exact jw_iret (ty := .int) dX10_lineUp_47 rfl rfl
    · refine jw_if_lt_f (tgt := 45) dX10_lineUp_14 (by decide) c2 ?_
      refine jw_iload dX10_lineUp_17 rfl ?_
      refine jw_aload_n dX10_lineUp_19 (o := (some x0)) rfl ?_
      obtain ⟨v3, ev3, hq⟩ := Option.bind_eq_some_iff.mp hq
      refine jw_getR (o := (some x0)) dX10_lineUp_20 ev3 fl_X10_53 rfl ?_
      obtain ⟨v4, ev4, hq⟩ := Option.bind_eq_some_iff.mp hq
      refine jw_alen (o := v3) dX10_lineUp_23 ev4 ?_
      rcases jw_if hq with ⟨c5, hq⟩ | ⟨c5, hq⟩
      · refine jw_icmp_ge_t (tgt := 45) dX10_lineUp_24 (by decide) c5 ?_
        refine jw_iload dX10_lineUp_45 rfl ?_
        cases hq
        exact jw_iret (ty := .int) dX10_lineUp_47 rfl rfl
      · refine jw_icmp_ge_f (tgt := 45) dX10_lineUp_24 (by decide) c5 ?_
        refine jw_aload_n dX10_lineUp_27 (o := (some x0)) rfl ?_
        obtain ⟨v6, ev6, hq⟩ := Option.bind_eq_some_iff.mp hq
        refine jw_getR (o := (some x0)) dX10_lineUp_28 ev6 fl_X10_53 rfl ?_
        refine jw_iload dX10_lineUp_31 rfl ?_
        refine jw_iload dX10_lineUp_33 rfl ?_
        obtain ⟨h7, eh7, hq⟩ := Option.bind_eq_some_iff.mp hq
        refine jw_iast (o := v6) dX10_lineUp_35 eh7 ?_
        refine jw_iinc (L' := [some (.ref x0), none, none, some (.int x3), some (.int (x4 + (1 : Int32))), some (.int x5)]) dX10_lineUp_36 rfl (v := (1 : Int32)) (by decide) (Nat.le_of_ble_eq_true rfl) rfl ?_
        refine jw_iinc (L' := [some (.ref x0), none, none, some (.int x3), some (.int (x4 + (1 : Int32))), some (.int (x5 + (1 : Int32)))]) dX10_lineUp_39 rfl (v := (1 : Int32)) (by decide) (Nat.le_of_ble_eq_true rfl) rfl ?_
        refine jw_goto (tgt := 6) dX10_lineUp_42 (by decide) ?_
        exact hk6 _ _ _ _ _ _ _ hq

theorem l_X10_lineUp_b6 {hi : jw_H} : ∀ (n : Nat) (h : jw_H) (x0 : Nat) (x3 : Int32) (x4 : Int32) (x5 : Int32) (r : Int32) (h' : jw_H), f_X10_lineUp_b6  n h x0 x3 x4 x5 = some (r, h') → jw_E 0 uX10_lineUp hi 6 [some (.ref x0), none, none, some (.int x3), some (.int x4), some (.int x5)] [] h (.inl (some (.int r))) h' := by
  intro n
  induction n with
  | zero => intro h x0 x3 x4 x5 r h' hq; exact nomatch hq
  | succ n ih => intro h x0 x3 x4 x5 r h' hq; exact l_X10_lineUp_b6g ih hq

set_option maxRecDepth 100000 in
set_option maxHeartbeats 4000000 in
theorem l_X10_lineUp {hi : jw_H} {h : jw_H} {x0 : Nat} {x1 : Int32} {x2 : Int32} {x3 : Int32} {r : Int32} {h' : jw_H} (hq : f_X10_lineUp  h x0 x1 x2 x3 = some (r, h')) : jw_E 0 uX10_lineUp hi 0 [some (.ref x0), some (.int x1), some (.int x2), some (.int x3), none, none] [] h (.inl (some (.int r))) h' := by
  unfold f_X10_lineUp at hq
  refine jw_iload_n dX10_lineUp_0 rfl ?_
  refine jw_istore (L' := [some (.ref x0), some (.int x1), some (.int x2), some (.int x3), some (.int x1), none]) dX10_lineUp_1 (Nat.le_of_ble_eq_true rfl) rfl ?_
  refine jw_iload_n dX10_lineUp_3 rfl ?_
  refine jw_istore (L' := [some (.ref x0), some (.int x1), some (.int x2), some (.int x3), some (.int x1), some (.int x2)]) dX10_lineUp_4 (Nat.le_of_ble_eq_true rfl) rfl ?_
  refine jw_forget [true, false, false, true, true, true] (L' := [some (.ref x0), none, none, some (.int x3), some (.int x1), some (.int x2)]) rfl ?_
  exact l_X10_lineUp_b6  jw_FU _ _ _ _ _ _ _ hq

theorem c_X10_lineUp {h : jw_H} {x0 : Nat} {x1 : Int32} {x2 : Int32} {x3 : Int32} {r : Int32} {h' : jw_H} (hq : f_X10_lineUp h x0 x1 x2 x3 = some (r, h')) : jw_Con (Cond.code yX10_lineUp cX10_lineUp 6 (some .int)) yX10_lineUp 0 [.ref x0, .int x1, .int x2, .int x3] h (.inl (some (.int r))) h' :=
  jw_con false (plainFor_of_name (by decide +kernel)) (fun z => nomatch z) (by simp [jw_ent, jw_sl0_nil, jw_sl0_int, jw_sl0_long, jw_sl0_ref, jw_sl0_rf, jw_sl0_scr, List.replicate]) (by simp [jw_sl0_nil, jw_sl0_int, jw_sl0_long, jw_sl0_ref, jw_sl0_rf, jw_sl0_scr]) (l_X10_lineUp hq)


/-! X9_arrange -/
noncomputable def g_X9_arrange_b7 (k7 : jw_H → Nat → Option Nat → Option Nat → Int32 → Option (Unit × jw_H)) (h : jw_H) (x0 : Nat) (x1 : Option Nat) (x2 : Option Nat) (x3 : Int32) : Option (Unit × jw_H) :=
 (jw_gR h 9 (some x0) 0).bind fun v1 =>
 (jw_gI h 7 v1 2).bind fun v2 =>
 if v2 < x3 then (some ((), h))
 else ((jw_ln h x1).bind fun v4 =>
 if v4 < x3 then (some ((), h))
 else ((jw_gR h 9 (some x0) 1).bind fun v6 =>
 (jw_ln h v6).bind fun v7 =>
 if v7 < x3 then (some ((), h))
 else ((jw_ai h 20 x1 (x3 - (1 : Int32))).bind fun v9 =>
 (jw_gR h 9 (some x0) 0).bind fun v10 =>
 (jw_gR h 9 x2 0).bind fun v11 =>
 (jw_rc h 7 v10).bind fun a12 =>
 jw_b2 (f_X7_take h a12 x3 v11 v9) fun w14 h13 =>
 (jw_gR h13 9 (some x0) 1).bind fun v15 =>
 (jw_rc h13 9 x2).bind fun a16 =>
 jw_b2 (f_X9_idOf h13 a16 v9) fun w18 h17 =>
 (jw_si h17 20 v15 (x3 - (1 : Int32)) w18).bind fun h19 =>
 k7 h19 x0 x1 x2 (x3 + (1 : Int32)))))

noncomputable def f_X9_arrange_b7 (n : Nat) : jw_H → Nat → Option Nat → Option Nat → Int32 → Option (Unit × jw_H) :=
 Nat.rec (fun _ _ _ _ _ => none) (fun _ k7 => g_X9_arrange_b7 k7) n

noncomputable def f_X9_arrange (h : jw_H) (x0 : Nat) (x1 : Option Nat) (x2 : Option Nat) : Option (Unit × jw_H) :=
 (jw_rc h 9 x2).bind fun a1 =>
 jw_b2 (f_X9_copy h a1 (some x0)) fun w3 h2 =>
 f_X9_arrange_b7  jw_FU h2 x0 x1 x2 (1 : Int32)

set_option maxRecDepth 100000 in
set_option maxHeartbeats 4000000 in
theorem l_X9_arrange_b7g {hi : jw_H} {k7 : jw_H → Nat → Option Nat → Option Nat → Int32 → Option (Unit × jw_H)} (hk7 : ∀ (h : jw_H) (x0 : Nat) (x1 : Option Nat) (x2 : Option Nat) (x3 : Int32) (r : Unit) (h' : jw_H), k7 h x0 x1 x2 x3 = some (r, h') → jw_E 3 uX9_arrange hi 7 [some (.ref x0), some (va_rf x1), some (va_rf x2), some (.int x3), none] [] h (.inl none) h') {h : jw_H} {x0 : Nat} {x1 : Option Nat} {x2 : Option Nat} {x3 : Int32} {r : Unit} {h' : jw_H} (hq : g_X9_arrange_b7 k7 h x0 x1 x2 x3 = some (r, h')) : jw_E 3 uX9_arrange hi 7 [some (.ref x0), some (va_rf x1), some (va_rf x2), some (.int x3), none] [] h (.inl none) h' := by
  unfold g_X9_arrange_b7 at hq
  refine jw_iload_n dX9_arrange_7 rfl ?_
  refine jw_aload_n dX9_arrange_8 (o := (some x0)) rfl ?_
  obtain ⟨v1, ev1, hq⟩ := Option.bind_eq_some_iff.mp hq
  refine jw_getR (o := (some x0)) dX9_arrange_9 ev1 fl_X9_14 rfl ?_
  obtain ⟨v2, ev2, hq⟩ := Option.bind_eq_some_iff.mp hq
  refine jw_getI (o := v1) dX9_arrange_12 ev2 fl_X9_41 rfl ?_
  rcases jw_if hq with ⟨c3, hq⟩ | ⟨c3, hq⟩
  · refine jw_icmp_gt_t (tgt := 74) dX9_arrange_15 (by decide) c3 ?_
    cases hq
    exact jw_vret dX9_arrange_74 rfl
  · refine jw_icmp_gt_f (tgt := 74) dX9_arrange_15 (by decide) c3 ?_
    refine jw_iload_n dX9_arrange_18 rfl ?_
    refine jw_aload_n dX9_arrange_19 (o := x1) rfl ?_
    obtain ⟨v4, ev4, hq⟩ := Option.bind_eq_some_iff.mp hq
    refine jw_alen (o := x1) dX9_arrange_20 ev4 ?_
    rcases jw_if hq with ⟨c5, hq⟩ | ⟨c5, hq⟩
    · refine jw_icmp_gt_t (tgt := 74) dX9_arrange_21 (by decide) c5 ?_
      cases hq
      exact jw_vret dX9_arrange_74 rfl
    · refine jw_icmp_gt_f (tgt := 74) dX9_arrange_21 (by decide) c5 ?_
      refine jw_iload_n dX9_arrange_24 rfl ?_
      refine jw_aload_n dX9_arrange_25 (o := (some x0)) rfl ?_
      obtain ⟨v6, ev6, hq⟩ := Option.bind_eq_some_iff.mp hq
      refine jw_getR (o := (some x0)) dX9_arrange_26 ev6 fl_X9_20 rfl ?_
      obtain ⟨v7, ev7, hq⟩ := Option.bind_eq_some_iff.mp hq
      refine jw_alen (o := v6) dX9_arrange_29 ev7 ?_
      rcases jw_if hq with ⟨c8, hq⟩ | ⟨c8, hq⟩
      · refine jw_icmp_gt_t (tgt := 74) dX9_arrange_30 (by decide) c8 ?_
        cases hq
        exact jw_vret dX9_arrange_74 rfl
      · refine jw_icmp_gt_f (tgt := 74) dX9_arrange_30 (by decide) c8 ?_
        refine jw_aload_n dX9_arrange_33 (o := x1) rfl ?_
        refine jw_iload_n dX9_arrange_34 rfl ?_
        refine jw_iconst dX9_arrange_35 (v := (1 : Int32)) (by decide) ?_
        refine jw_isub dX9_arrange_36 ?_
        obtain ⟨v9, ev9, hq⟩ := Option.bind_eq_some_iff.mp hq
        refine jw_iald (o := x1) dX9_arrange_37 ev9 ?_
        refine jw_istore (L' := [some (.ref x0), some (va_rf x1), some (va_rf x2), some (.int x3), some (.int v9)]) dX9_arrange_38 (Nat.le_of_ble_eq_true rfl) rfl ?_
        refine jw_aload_n dX9_arrange_40 (o := (some x0)) rfl ?_
        obtain ⟨v10, ev10, hq⟩ := Option.bind_eq_some_iff.mp hq
        refine jw_getR (o := (some x0)) dX9_arrange_41 ev10 fl_X9_14 rfl ?_
        refine jw_iload_n dX9_arrange_44 rfl ?_
        refine jw_aload_n dX9_arrange_45 (o := x2) rfl ?_
        obtain ⟨v11, ev11, hq⟩ := Option.bind_eq_some_iff.mp hq
        refine jw_getR (o := x2) dX9_arrange_46 ev11 fl_X9_14 rfl ?_
        refine jw_iload dX9_arrange_49 rfl ?_
        obtain ⟨a12, ea12, hq⟩ := Option.bind_eq_some_iff.mp hq
        obtain ⟨eoa12, eta12⟩ := jw_rc_spec ea12
        obtain ⟨w14, h13, ew14, hq⟩ := jw_b2_spec hq
        refine jw_callV (As := [.int x3, va_rf v11, .int v9]) (S := []) (a := a12) (v := none) dX9_arrange_51 mt_X7_take in_X7_take se_X7_take lk_X9_72 (c_X7_take ew14) eta12 (by decide) rfl rfl (by decide) (Nat.le_of_ble_eq_true rfl) (by cases eoa12; rfl) ?_
        refine jw_aload_n dX9_arrange_54 (o := (some x0)) rfl ?_
        obtain ⟨v15, ev15, hq⟩ := Option.bind_eq_some_iff.mp hq
        refine jw_getR (o := (some x0)) dX9_arrange_55 ev15 fl_X9_20 rfl ?_
        refine jw_iload_n dX9_arrange_58 rfl ?_
        refine jw_iconst dX9_arrange_59 (v := (1 : Int32)) (by decide) ?_
        refine jw_isub dX9_arrange_60 ?_
        refine jw_aload_n dX9_arrange_61 (o := x2) rfl ?_
        refine jw_iload dX9_arrange_62 rfl ?_
        obtain ⟨a16, ea16, hq⟩ := Option.bind_eq_some_iff.mp hq
        obtain ⟨eoa16, eta16⟩ := jw_rc_spec ea16
        obtain ⟨w18, h17, ew18, hq⟩ := jw_b2_spec hq
        refine jw_callV (As := [.int v9]) (S := [.int (x3 - (1 : Int32)), va_rf v15]) (a := a16) (v := some (.int w18)) dX9_arrange_64 mt_X9_idOf in_X9_idOf se_X9_idOf lk_X9_76 (c_X9_idOf ew18) eta16 (by decide) rfl rfl (by decide) (by simp only [List.map_cons, List.map_nil, List.sum_cons, List.sum_nil, jw_cat_rf, jw_cat_i, jw_cat_l, jw_cat_a, jw_cat_s] <;> decide) (by cases eoa16; rfl) ?_
        obtain ⟨h19, eh19, hq⟩ := Option.bind_eq_some_iff.mp hq
        refine jw_iast (o := v15) dX9_arrange_67 eh19 ?_
        refine jw_iinc (L' := [some (.ref x0), some (va_rf x1), some (va_rf x2), some (.int (x3 + (1 : Int32))), some (.int v9)]) dX9_arrange_68 rfl (v := (1 : Int32)) (by decide) (Nat.le_of_ble_eq_true rfl) ((jw_st1_of (j := 2) jw_long_rf).trans rfl) ?_
        refine jw_goto (tgt := 7) dX9_arrange_71 (by decide) ?_
        refine jw_forget [true, true, true, true, false] (L' := [some (.ref x0), some (va_rf x1), some (va_rf x2), some (.int (x3 + (1 : Int32))), none]) rfl ?_
        exact hk7 _ _ _ _ _ _ _ hq

theorem l_X9_arrange_b7 {hi : jw_H} : ∀ (n : Nat) (h : jw_H) (x0 : Nat) (x1 : Option Nat) (x2 : Option Nat) (x3 : Int32) (r : Unit) (h' : jw_H), f_X9_arrange_b7  n h x0 x1 x2 x3 = some (r, h') → jw_E 3 uX9_arrange hi 7 [some (.ref x0), some (va_rf x1), some (va_rf x2), some (.int x3), none] [] h (.inl none) h' := by
  intro n
  induction n with
  | zero => intro h x0 x1 x2 x3 r h' hq; exact nomatch hq
  | succ n ih => intro h x0 x1 x2 x3 r h' hq; exact l_X9_arrange_b7g ih hq

set_option maxRecDepth 100000 in
set_option maxHeartbeats 4000000 in
theorem l_X9_arrange {hi : jw_H} {h : jw_H} {x0 : Nat} {x1 : Option Nat} {x2 : Option Nat} {r : Unit} {h' : jw_H} (hq : f_X9_arrange  h x0 x1 x2 = some (r, h')) : jw_E 3 uX9_arrange hi 0 [some (.ref x0), some (va_rf x1), some (va_rf x2), none, none] [] h (.inl none) h' := by
  unfold f_X9_arrange at hq
  refine jw_aload_n dX9_arrange_0 (o := x2) rfl ?_
  refine jw_aload_n dX9_arrange_1 (o := (some x0)) rfl ?_
  obtain ⟨a1, ea1, hq⟩ := Option.bind_eq_some_iff.mp hq
  obtain ⟨eoa1, eta1⟩ := jw_rc_spec ea1
  obtain ⟨w3, h2, ew3, hq⟩ := jw_b2_spec hq
  refine jw_callV (As := [va_rf (some x0)]) (S := []) (a := a1) (v := none) dX9_arrange_2 mt_X9_copy in_X9_copy se_X9_copy lk_X9_69 (c_X9_copy ew3) eta1 (by decide) rfl rfl (by decide) (Nat.le_of_ble_eq_true rfl) (by cases eoa1; rfl) ?_
  refine jw_iconst dX9_arrange_5 (v := (1 : Int32)) (by decide) ?_
  refine jw_istore_n (L' := [some (.ref x0), some (va_rf x1), some (va_rf x2), some (.int (1 : Int32)), none]) dX9_arrange_6 (Nat.le_of_ble_eq_true rfl) ((jw_st1_of (j := 2) jw_long_rf).trans rfl) ?_
  exact l_X9_arrange_b7  jw_FU _ _ _ _ _ _ _ hq

theorem c_X9_arrange {h : jw_H} {x0 : Nat} {x1 : Option Nat} {x2 : Option Nat} {r : Unit} {h' : jw_H} (hq : f_X9_arrange h x0 x1 x2 = some (r, h')) : jw_Con (Cond.code yX9_arrange cX9_arrange 5 none) yX9_arrange 3 [.ref x0, va_rf x1, va_rf x2] h (.inl none) h' :=
  jw_con false (plainFor_of_name (by decide +kernel)) (fun z => nomatch z) (by simp [jw_ent, jw_sl0_nil, jw_sl0_int, jw_sl0_long, jw_sl0_ref, jw_sl0_rf, jw_sl0_scr, List.replicate]) (by simp [jw_sl0_nil, jw_sl0_int, jw_sl0_long, jw_sl0_ref, jw_sl0_rf, jw_sl0_scr]) (l_X9_arrange hq)

