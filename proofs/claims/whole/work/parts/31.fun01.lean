/-! X6_signAt -/
noncomputable def g_X6_signAt_b31 (h : jw_H) (t0 : Int32) : Option (Int32 × jw_H) :=
 some (t0, h)

noncomputable def g_X6_signAt_b30 (h : jw_H)  : Option (Int32 × jw_H) :=
 g_X6_signAt_b31  h (-1 : Int32)

noncomputable def f_X6_signAt (h : jw_H) (x0 : Nat) (x1 : Int32) : Option (Int32 × jw_H) :=
 if x1 < 0 then (g_X6_signAt_b30  h )
 else ((jw_gI h 6 (some x0) 4).bind fun v2 =>
 if v2 ≤ x1 then (g_X6_signAt_b30  h )
 else ((jw_gR h 6 (some x0) 3).bind fun v4 =>
 (jw_ln h v4).bind fun v5 =>
 if v5 ≤ x1 then (g_X6_signAt_b30  h )
 else ((jw_gR h 6 (some x0) 3).bind fun v7 =>
 (jw_ai h 21 v7 x1).bind fun v8 =>
 g_X6_signAt_b31  h v8)))

set_option maxRecDepth 100000 in
set_option maxHeartbeats 4000000 in
theorem l_X6_signAt_b31 {hi : jw_H} {h : jw_H} {t0 : Int32} {r : Int32} {h' : jw_H} (hq : g_X6_signAt_b31  h t0 = some (r, h')) : jw_E 0 uX6_signAt hi 31 [none, none] [.int t0] h (.inl (some (.int r))) h' := by
  unfold g_X6_signAt_b31 at hq
  cases hq
  exact jw_iret (ty := .int) dX6_signAt_31 rfl rfl

set_option maxRecDepth 100000 in
set_option maxHeartbeats 4000000 in
theorem l_X6_signAt_b30 {hi : jw_H} {h : jw_H}  {r : Int32} {h' : jw_H} (hq : g_X6_signAt_b30  h  = some (r, h')) : jw_E 0 uX6_signAt hi 30 [none, none] [] h (.inl (some (.int r))) h' := by
  unfold g_X6_signAt_b30 at hq
  refine jw_iconst dX6_signAt_30 (v := (-1 : Int32)) (by decide) ?_
  exact l_X6_signAt_b31  hq

set_option maxRecDepth 100000 in
set_option maxHeartbeats 4000000 in
theorem l_X6_signAt {hi : jw_H} {h : jw_H} {x0 : Nat} {x1 : Int32} {r : Int32} {h' : jw_H} (hq : f_X6_signAt  h x0 x1 = some (r, h')) : jw_E 0 uX6_signAt hi 0 [some (.ref x0), some (.int x1)] [] h (.inl (some (.int r))) h' := by
  unfold f_X6_signAt at hq
  refine jw_iload_n dX6_signAt_0 rfl ?_
  rcases jw_if hq with ⟨c1, hq⟩ | ⟨c1, hq⟩
  · refine jw_if_lt_t (tgt := 30) dX6_signAt_1 (by decide) c1 ?_
    refine jw_forget [false, false] (L' := [none, none]) rfl ?_
    exact l_X6_signAt_b30  hq
  · refine jw_if_lt_f (tgt := 30) dX6_signAt_1 (by decide) c1 ?_
    refine jw_iload_n dX6_signAt_4 rfl ?_
    refine jw_aload_n dX6_signAt_5 (o := (some x0)) rfl ?_
    obtain ⟨v2, ev2, hq⟩ := Option.bind_eq_some_iff.mp hq
    refine jw_getI (o := (some x0)) dX6_signAt_6 ev2 fl_X6_34 rfl ?_
    rcases jw_if hq with ⟨c3, hq⟩ | ⟨c3, hq⟩
    · refine jw_icmp_ge_t (tgt := 30) dX6_signAt_9 (by decide) c3 ?_
      refine jw_forget [false, false] (L' := [none, none]) rfl ?_
      exact l_X6_signAt_b30  hq
    · refine jw_icmp_ge_f (tgt := 30) dX6_signAt_9 (by decide) c3 ?_
      refine jw_iload_n dX6_signAt_12 rfl ?_
      refine jw_aload_n dX6_signAt_13 (o := (some x0)) rfl ?_
      obtain ⟨v4, ev4, hq⟩ := Option.bind_eq_some_iff.mp hq
      refine jw_getR (o := (some x0)) dX6_signAt_14 ev4 fl_X6_26 rfl ?_
      obtain ⟨v5, ev5, hq⟩ := Option.bind_eq_some_iff.mp hq
      refine jw_alen (o := v4) dX6_signAt_17 ev5 ?_
      rcases jw_if hq with ⟨c6, hq⟩ | ⟨c6, hq⟩
      · refine jw_icmp_ge_t (tgt := 30) dX6_signAt_18 (by decide) c6 ?_
        refine jw_forget [false, false] (L' := [none, none]) rfl ?_
        exact l_X6_signAt_b30  hq
      · refine jw_icmp_ge_f (tgt := 30) dX6_signAt_18 (by decide) c6 ?_
        refine jw_aload_n dX6_signAt_21 (o := (some x0)) rfl ?_
        obtain ⟨v7, ev7, hq⟩ := Option.bind_eq_some_iff.mp hq
        refine jw_getR (o := (some x0)) dX6_signAt_22 ev7 fl_X6_26 rfl ?_
        refine jw_iload_n dX6_signAt_25 rfl ?_
        obtain ⟨v8, ev8, hq⟩ := Option.bind_eq_some_iff.mp hq
        refine jw_bald (o := v7) dX6_signAt_26 ev8 ?_
        refine jw_goto (tgt := 31) dX6_signAt_27 (by decide) ?_
        refine jw_forget [false, false] (L' := [none, none]) rfl ?_
        exact l_X6_signAt_b31  hq

theorem c_X6_signAt {h : jw_H} {x0 : Nat} {x1 : Int32} {r : Int32} {h' : jw_H} (hq : f_X6_signAt h x0 x1 = some (r, h')) : jw_Con (Cond.code yX6_signAt cX6_signAt 2 (some .int)) yX6_signAt 0 [.ref x0, .int x1] h (.inl (some (.int r))) h' :=
  jw_con false (plainFor_of_name (by decide +kernel)) (fun z => nomatch z) (by simp [jw_ent, jw_sl0_nil, jw_sl0_int, jw_sl0_long, jw_sl0_ref, jw_sl0_rf, jw_sl0_scr, List.replicate]) (by simp [jw_sl0_nil, jw_sl0_int, jw_sl0_long, jw_sl0_ref, jw_sl0_rf, jw_sl0_scr]) (l_X6_signAt hq)


/-! X2_append -/
noncomputable def g_X2_append_b43 (h : jw_H) (x0 : Nat) : Option (Unit × jw_H) :=
 (jw_pB h 2 (some x0) 4 (1 : Int32)).bind fun h1 =>
 some ((), h1)

noncomputable def f_X2_append (h : jw_H) (x0 : Nat) (x1 : Int32) : Option (Unit × jw_H) :=
 (jw_gI h 2 (some x0) 3).bind fun v1 =>
 if v1 < 0 then (g_X2_append_b43  h x0)
 else ((jw_gI h 2 (some x0) 3).bind fun v3 =>
 (jw_gR h 2 (some x0) 2).bind fun v4 =>
 (jw_ln h v4).bind fun v5 =>
 if v5 ≤ v3 then (g_X2_append_b43  h x0)
 else ((jw_gR h 2 (some x0) 2).bind fun v7 =>
 (jw_gI h 2 (some x0) 3).bind fun v8 =>
 (jw_si h 21 v7 v8 (vp_nar .byte x1.toInt8.toInt32)).bind fun h9 =>
 (jw_gI h9 2 (some x0) 3).bind fun v10 =>
 (jw_pI h9 2 (some x0) 3 (v10 + (1 : Int32))).bind fun h11 =>
 some ((), h11)))

set_option maxRecDepth 100000 in
set_option maxHeartbeats 4000000 in
theorem l_X2_append_b43 {hi : jw_H} {h : jw_H} {x0 : Nat} {r : Unit} {h' : jw_H} (hq : g_X2_append_b43  h x0 = some (r, h')) : jw_E 0 uX2_append hi 43 [some (.ref x0), none] [] h (.inl none) h' := by
  unfold g_X2_append_b43 at hq
  refine jw_aload_n dX2_append_43 (o := (some x0)) rfl ?_
  refine jw_iconst dX2_append_44 (v := (1 : Int32)) (by decide) ?_
  obtain ⟨h1, eh1, hq⟩ := Option.bind_eq_some_iff.mp hq
  refine jw_putB (o := (some x0)) dX2_append_45 eh1 fl_X2_27 rfl rfl ?_
  cases hq
  exact jw_vret dX2_append_48 rfl

set_option maxRecDepth 100000 in
set_option maxHeartbeats 4000000 in
theorem l_X2_append {hi : jw_H} {h : jw_H} {x0 : Nat} {x1 : Int32} {r : Unit} {h' : jw_H} (hq : f_X2_append  h x0 x1 = some (r, h')) : jw_E 0 uX2_append hi 0 [some (.ref x0), some (.int x1)] [] h (.inl none) h' := by
  unfold f_X2_append at hq
  refine jw_aload_n dX2_append_0 (o := (some x0)) rfl ?_
  obtain ⟨v1, ev1, hq⟩ := Option.bind_eq_some_iff.mp hq
  refine jw_getI (o := (some x0)) dX2_append_1 ev1 fl_X2_23 rfl ?_
  rcases jw_if hq with ⟨c2, hq⟩ | ⟨c2, hq⟩
  · refine jw_if_lt_t (tgt := 43) dX2_append_4 (by decide) c2 ?_
    refine jw_forget [true, false] (L' := [some (.ref x0), none]) rfl ?_
    exact l_X2_append_b43  hq
  · refine jw_if_lt_f (tgt := 43) dX2_append_4 (by decide) c2 ?_
    refine jw_aload_n dX2_append_7 (o := (some x0)) rfl ?_
    obtain ⟨v3, ev3, hq⟩ := Option.bind_eq_some_iff.mp hq
    refine jw_getI (o := (some x0)) dX2_append_8 ev3 fl_X2_23 rfl ?_
    refine jw_aload_n dX2_append_11 (o := (some x0)) rfl ?_
    obtain ⟨v4, ev4, hq⟩ := Option.bind_eq_some_iff.mp hq
    refine jw_getR (o := (some x0)) dX2_append_12 ev4 fl_X2_19 rfl ?_
    obtain ⟨v5, ev5, hq⟩ := Option.bind_eq_some_iff.mp hq
    refine jw_alen (o := v4) dX2_append_15 ev5 ?_
    rcases jw_if hq with ⟨c6, hq⟩ | ⟨c6, hq⟩
    · refine jw_icmp_ge_t (tgt := 43) dX2_append_16 (by decide) c6 ?_
      refine jw_forget [true, false] (L' := [some (.ref x0), none]) rfl ?_
      exact l_X2_append_b43  hq
    · refine jw_icmp_ge_f (tgt := 43) dX2_append_16 (by decide) c6 ?_
      refine jw_aload_n dX2_append_19 (o := (some x0)) rfl ?_
      obtain ⟨v7, ev7, hq⟩ := Option.bind_eq_some_iff.mp hq
      refine jw_getR (o := (some x0)) dX2_append_20 ev7 fl_X2_19 rfl ?_
      refine jw_aload_n dX2_append_23 (o := (some x0)) rfl ?_
      obtain ⟨v8, ev8, hq⟩ := Option.bind_eq_some_iff.mp hq
      refine jw_getI (o := (some x0)) dX2_append_24 ev8 fl_X2_23 rfl ?_
      refine jw_iload_n dX2_append_27 rfl ?_
      refine jw_i2b dX2_append_28 ?_
      obtain ⟨h9, eh9, hq⟩ := Option.bind_eq_some_iff.mp hq
      refine jw_bast (o := v7) rfl dX2_append_29 eh9 ?_
      refine jw_aload_n dX2_append_30 (o := (some x0)) rfl ?_
      refine jw_dup dX2_append_31 rfl ?_
      obtain ⟨v10, ev10, hq⟩ := Option.bind_eq_some_iff.mp hq
      refine jw_getI (o := (some x0)) dX2_append_32 ev10 fl_X2_23 rfl ?_
      refine jw_iconst dX2_append_35 (v := (1 : Int32)) (by decide) ?_
      refine jw_iadd dX2_append_36 ?_
      obtain ⟨h11, eh11, hq⟩ := Option.bind_eq_some_iff.mp hq
      refine jw_putI (o := (some x0)) dX2_append_37 eh11 fl_X2_23 rfl rfl ?_
      refine jw_goto (tgt := 48) dX2_append_40 (by decide) ?_
      cases hq
      exact jw_vret dX2_append_48 rfl

theorem c_X2_append {h : jw_H} {x0 : Nat} {x1 : Int32} {r : Unit} {h' : jw_H} (hq : f_X2_append h x0 x1 = some (r, h')) : jw_Con (Cond.code yX2_append cX2_append 2 none) yX2_append 0 [.ref x0, .int x1] h (.inl none) h' :=
  jw_con false (plainFor_of_name (by decide +kernel)) (fun z => nomatch z) (by simp [jw_ent, jw_sl0_nil, jw_sl0_int, jw_sl0_long, jw_sl0_ref, jw_sl0_rf, jw_sl0_scr, List.replicate]) (by simp [jw_sl0_nil, jw_sl0_int, jw_sl0_long, jw_sl0_ref, jw_sl0_rf, jw_sl0_scr]) (l_X2_append hq)


/-! X2_appendPut -/
noncomputable def g_X2_appendPut_b115 (k5 : jw_H → Nat → Option Nat → Int32 → Option (Unit × jw_H)) (h : jw_H) (x0 : Nat) (x1 : Option Nat) (x2 : Int32) : Option (Unit × jw_H) :=
 k5 h x0 x1 (x2 + (1 : Int32))

noncomputable def g_X2_appendPut_b107 (k5 : jw_H → Nat → Option Nat → Int32 → Option (Unit × jw_H)) (h : jw_H) (x0 : Nat) (x1 : Option Nat) (x2 : Int32) : Option (Unit × jw_H) :=
 g_X2_appendPut_b115 k5 h x0 x1 x2

noncomputable def g_X2_appendPut_b5 (k5 : jw_H → Nat → Option Nat → Int32 → Option (Unit × jw_H)) (h : jw_H) (x0 : Nat) (x1 : Option Nat) (x2 : Int32) : Option (Unit × jw_H) :=
 (jw_gI h 5 x1 8).bind fun v1 =>
 if v1 ≤ x2 then (some ((), h))
 else ((jw_gR h 2 (some x0) 0).bind fun v3 =>
 (jw_rc h 6 v3).bind fun a4 =>
 jw_b2 (f_X6_signAt h a4 x2) fun w6 h5 =>
 if w6 = (38 : Int32) then ((jw_gR h5 2 (some x0) 1).bind fun v27 =>
 (jw_gI h5 4 v27 6).bind fun v28 =>
 (jw_gR h5 2 (some x0) 1).bind fun v29 =>
 (jw_gI h5 4 v29 7).bind fun v30 =>
 (jw_rc h5 2 (some x0)).bind fun a31 =>
 jw_b2 (f_X2_appendRow h5 a31 v28 v30) fun w33 h32 =>
 g_X2_appendPut_b115 k5 h32 x0 x1 x2)
 else (if w6 = (92 : Int32) then ((jw_gR h5 2 (some x0) 0).bind fun v12 =>
 (jw_rc h5 6 v12).bind fun a13 =>
 jw_b2 (f_X6_signAt h5 a13 (x2 + (1 : Int32))) fun w15 h14 =>
 if (w15 - (48 : Int32)) < (1 : Int32) then (g_X2_appendPut_b107 k5 h14 x0 x1 (x2 + (1 : Int32)))
 else (if (2 : Int32) < (w15 - (48 : Int32)) then (g_X2_appendPut_b107 k5 h14 x0 x1 (x2 + (1 : Int32)))
 else ((jw_gR h14 2 (some x0) 1).bind fun v18 =>
 (jw_gR h14 4 v18 3).bind fun v19 =>
 (jw_ai h14 20 v19 (w15 - (48 : Int32))).bind fun v20 =>
 (jw_gR h14 2 (some x0) 1).bind fun v21 =>
 (jw_gR h14 4 v21 4).bind fun v22 =>
 (jw_ai h14 20 v22 (w15 - (48 : Int32))).bind fun v23 =>
 (jw_rc h14 2 (some x0)).bind fun a24 =>
 jw_b2 (f_X2_appendRow h14 a24 v20 v23) fun w26 h25 =>
 g_X2_appendPut_b107 k5 h25 x0 x1 (x2 + (1 : Int32)))))
 else ((jw_rc h5 2 (some x0)).bind fun a9 =>
 jw_b2 (f_X2_append h5 a9 w6) fun w11 h10 =>
 g_X2_appendPut_b115 k5 h10 x0 x1 x2)))

noncomputable def f_X2_appendPut_b5 (n : Nat) : jw_H → Nat → Option Nat → Int32 → Option (Unit × jw_H) :=
 Nat.rec (fun _ _ _ _ => none) (fun _ k5 => g_X2_appendPut_b5 k5) n

noncomputable def f_X2_appendPut (h : jw_H) (x0 : Nat) (x1 : Option Nat) : Option (Unit × jw_H) :=
 (jw_gI h 5 x1 7).bind fun v1 =>
 f_X2_appendPut_b5  jw_FU h x0 x1 v1

set_option maxRecDepth 100000 in
set_option maxHeartbeats 4000000 in
theorem l_X2_appendPut_b115 {hi : jw_H} {k5 : jw_H → Nat → Option Nat → Int32 → Option (Unit × jw_H)} (hk5 : ∀ (h : jw_H) (x0 : Nat) (x1 : Option Nat) (x2 : Int32) (r : Unit) (h' : jw_H), k5 h x0 x1 x2 = some (r, h') → jw_E 2 uX2_appendPut hi 5 [some (.ref x0), some (va_rf x1), some (.int x2), none, none] [] h (.inl none) h') {h : jw_H} {x0 : Nat} {x1 : Option Nat} {x2 : Int32} {r : Unit} {h' : jw_H} (hq : g_X2_appendPut_b115 k5 h x0 x1 x2 = some (r, h')) : jw_E 2 uX2_appendPut hi 115 [some (.ref x0), some (va_rf x1), some (.int x2), none, none] [] h (.inl none) h' := by
  unfold g_X2_appendPut_b115 at hq
  refine jw_iinc (L' := [some (.ref x0), some (va_rf x1), some (.int (x2 + (1 : Int32))), none, none]) dX2_appendPut_115 rfl (v := (1 : Int32)) (by decide) (Nat.le_of_ble_eq_true rfl) ((jw_st1_of (j := 1) jw_long_rf).trans rfl) ?_
  refine jw_goto (tgt := 5) dX2_appendPut_118 (by decide) ?_
  exact hk5 _ _ _ _ _ _ hq

set_option maxRecDepth 100000 in
set_option maxHeartbeats 4000000 in
theorem l_X2_appendPut_b107 {hi : jw_H} {k5 : jw_H → Nat → Option Nat → Int32 → Option (Unit × jw_H)} (hk5 : ∀ (h : jw_H) (x0 : Nat) (x1 : Option Nat) (x2 : Int32) (r : Unit) (h' : jw_H), k5 h x0 x1 x2 = some (r, h') → jw_E 2 uX2_appendPut hi 5 [some (.ref x0), some (va_rf x1), some (.int x2), none, none] [] h (.inl none) h') {h : jw_H} {x0 : Nat} {x1 : Option Nat} {x2 : Int32} {r : Unit} {h' : jw_H} (hq : g_X2_appendPut_b107 k5 h x0 x1 x2 = some (r, h')) : jw_E 2 uX2_appendPut hi 107 [some (.ref x0), some (va_rf x1), some (.int x2), none, none] [] h (.inl none) h' := by
  unfold g_X2_appendPut_b107 at hq
  refine jw_goto (tgt := 115) dX2_appendPut_107 (by decide) ?_
  exact l_X2_appendPut_b115 hk5 hq

set_option maxRecDepth 100000 in
set_option maxHeartbeats 4000000 in
theorem l_X2_appendPut_b5g {hi : jw_H} {k5 : jw_H → Nat → Option Nat → Int32 → Option (Unit × jw_H)} (hk5 : ∀ (h : jw_H) (x0 : Nat) (x1 : Option Nat) (x2 : Int32) (r : Unit) (h' : jw_H), k5 h x0 x1 x2 = some (r, h') → jw_E 2 uX2_appendPut hi 5 [some (.ref x0), some (va_rf x1), some (.int x2), none, none] [] h (.inl none) h') {h : jw_H} {x0 : Nat} {x1 : Option Nat} {x2 : Int32} {r : Unit} {h' : jw_H} (hq : g_X2_appendPut_b5 k5 h x0 x1 x2 = some (r, h')) : jw_E 2 uX2_appendPut hi 5 [some (.ref x0), some (va_rf x1), some (.int x2), none, none] [] h (.inl none) h' := by
  unfold g_X2_appendPut_b5 at hq
  refine jw_iload_n dX2_appendPut_5 rfl ?_
  refine jw_aload_n dX2_appendPut_6 (o := x1) rfl ?_
  obtain ⟨v1, ev1, hq⟩ := Option.bind_eq_some_iff.mp hq
  refine jw_getI (o := x1) dX2_appendPut_7 ev1 fl_X2_101 rfl ?_
  rcases jw_if hq with ⟨c2, hq⟩ | ⟨c2, hq⟩
  · refine jw_icmp_ge_t (tgt := 121) dX2_appendPut_10 (by decide) c2 ?_
    cases hq
    exact jw_vret dX2_appendPut_121 rfl
  · refine jw_icmp_ge_f (tgt := 121) dX2_appendPut_10 (by decide) c2 ?_
    refine jw_aload_n dX2_appendPut_13 (o := (some x0)) rfl ?_
    obtain ⟨v3, ev3, hq⟩ := Option.bind_eq_some_iff.mp hq
    refine jw_getR (o := (some x0)) dX2_appendPut_14 ev3 fl_X2_9 rfl ?_
    refine jw_iload_n dX2_appendPut_17 rfl ?_
    obtain ⟨a4, ea4, hq⟩ := Option.bind_eq_some_iff.mp hq
    obtain ⟨eoa4, eta4⟩ := jw_rc_spec ea4
    obtain ⟨w6, h5, ew6, hq⟩ := jw_b2_spec hq
    refine jw_callV (As := [.int x2]) (S := []) (a := a4) (v := some (.int w6)) dX2_appendPut_18 mt_X6_signAt in_X6_signAt se_X6_signAt lk_X2_104 (c_X6_signAt ew6) eta4 (by decide) rfl rfl (by decide) (Nat.le_of_ble_eq_true rfl) (by cases eoa4; rfl) ?_
    refine jw_istore_n (L' := [some (.ref x0), some (va_rf x1), some (.int x2), some (.int w6), none]) dX2_appendPut_21 (Nat.le_of_ble_eq_true rfl) rfl ?_
    refine jw_iload_n dX2_appendPut_22 rfl ?_
    refine jw_bipush dX2_appendPut_23 (v := (38 : Int32)) (by decide) ?_
    rcases jw_if hq with ⟨c7, hq⟩ | ⟨c7, hq⟩
    · refine jw_icmp_ne_f (tgt := 49) dX2_appendPut_25 (by decide) c7 ?_
      refine jw_aload_n dX2_appendPut_28 (o := (some x0)) rfl ?_
      refine jw_aload_n dX2_appendPut_29 (o := (some x0)) rfl ?_
      obtain ⟨v27, ev27, hq⟩ := Option.bind_eq_some_iff.mp hq
      refine jw_getR (o := (some x0)) dX2_appendPut_30 ev27 fl_X2_15 rfl ?_
      obtain ⟨v28, ev28, hq⟩ := Option.bind_eq_some_iff.mp hq
      refine jw_getI (o := v27) dX2_appendPut_33 ev28 fl_X2_84 rfl ?_
      refine jw_aload_n dX2_appendPut_36 (o := (some x0)) rfl ?_
      obtain ⟨v29, ev29, hq⟩ := Option.bind_eq_some_iff.mp hq
      refine jw_getR (o := (some x0)) dX2_appendPut_37 ev29 fl_X2_15 rfl ?_
      obtain ⟨v30, ev30, hq⟩ := Option.bind_eq_some_iff.mp hq
      refine jw_getI (o := v29) dX2_appendPut_40 ev30 fl_X2_77 rfl ?_
      obtain ⟨a31, ea31, hq⟩ := Option.bind_eq_some_iff.mp hq
      obtain ⟨eoa31, eta31⟩ := jw_rc_spec ea31
      obtain ⟨w33, h32, ew33, hq⟩ := jw_b2_spec hq
      refine jw_callV (As := [.int v28, .int v30]) (S := []) (a := a31) (v := none) dX2_appendPut_43 mt_X2_appendRow in_X2_appendRow se_X2_appendRow lk_X2_87 (c_X2_appendRow ew33) eta31 (by decide) rfl rfl (by decide) (Nat.le_of_ble_eq_true rfl) (by cases eoa31; rfl) ?_
      refine jw_goto (tgt := 115) dX2_appendPut_46 (by decide) ?_
      refine jw_forget [true, true, true, false, true] (L' := [some (.ref x0), some (va_rf x1), some (.int x2), none, none]) rfl ?_
      exact l_X2_appendPut_b115 hk5 hq
    · refine jw_icmp_ne_t (tgt := 49) dX2_appendPut_25 (by decide) c7 ?_
      refine jw_iload_n dX2_appendPut_49 rfl ?_
      refine jw_bipush dX2_appendPut_50 (v := (92 : Int32)) (by decide) ?_
      rcases jw_if hq with ⟨c8, hq⟩ | ⟨c8, hq⟩
      · refine jw_icmp_ne_f (tgt := 110) dX2_appendPut_52 (by decide) c8 ?_
        refine jw_iinc (L' := [some (.ref x0), some (va_rf x1), some (.int (x2 + (1 : Int32))), some (.int w6), none]) dX2_appendPut_55 rfl (v := (1 : Int32)) (by decide) (Nat.le_of_ble_eq_true rfl) ((jw_st1_of (j := 1) jw_long_rf).trans rfl) ?_
        refine jw_aload_n dX2_appendPut_58 (o := (some x0)) rfl ?_
        obtain ⟨v12, ev12, hq⟩ := Option.bind_eq_some_iff.mp hq
        refine jw_getR (o := (some x0)) dX2_appendPut_59 ev12 fl_X2_9 rfl ?_
        refine jw_iload_n dX2_appendPut_62 rfl ?_
        obtain ⟨a13, ea13, hq⟩ := Option.bind_eq_some_iff.mp hq
        obtain ⟨eoa13, eta13⟩ := jw_rc_spec ea13
        obtain ⟨w15, h14, ew15, hq⟩ := jw_b2_spec hq
        refine jw_callV (As := [.int (x2 + (1 : Int32))]) (S := []) (a := a13) (v := some (.int w15)) dX2_appendPut_63 mt_X6_signAt in_X6_signAt se_X6_signAt lk_X2_104 (c_X6_signAt ew15) eta13 (by decide) rfl rfl (by decide) (Nat.le_of_ble_eq_true rfl) (by cases eoa13; rfl) ?_
        refine jw_bipush dX2_appendPut_66 (v := (48 : Int32)) (by decide) ?_
        refine jw_isub dX2_appendPut_68 ?_
        refine jw_istore (L' := [some (.ref x0), some (va_rf x1), some (.int (x2 + (1 : Int32))), some (.int w6), some (.int (w15 - (48 : Int32)))]) dX2_appendPut_69 (Nat.le_of_ble_eq_true rfl) rfl ?_
        refine jw_iload dX2_appendPut_71 rfl ?_
        refine jw_iconst dX2_appendPut_73 (v := (1 : Int32)) (by decide) ?_
        rcases jw_if hq with ⟨c16, hq⟩ | ⟨c16, hq⟩
        · refine jw_icmp_lt_t (tgt := 107) dX2_appendPut_74 (by decide) c16 ?_
          refine jw_forget [true, true, true, false, false] (L' := [some (.ref x0), some (va_rf x1), some (.int (x2 + (1 : Int32))), none, none]) rfl ?_
          exact l_X2_appendPut_b107 hk5 hq
        · refine jw_icmp_lt_f (tgt := 107) dX2_appendPut_74 (by decide) c16 ?_
          refine jw_iload dX2_appendPut_77 rfl ?_
          refine jw_iconst dX2_appendPut_79 (v := (2 : Int32)) (by decide) ?_
          rcases jw_if hq with ⟨c17, hq⟩ | ⟨c17, hq⟩
          · refine jw_icmp_gt_t (tgt := 107) dX2_appendPut_80 (by decide) c17 ?_
            refine jw_forget [true, true, true, false, false] (L' := [some (.ref x0), some (va_rf x1), some (.int (x2 + (1 : Int32))), none, none]) rfl ?_
            exact l_X2_appendPut_b107 hk5 hq
          · refine jw_icmp_gt_f (tgt := 107) dX2_appendPut_80 (by decide) c17 ?_
            refine jw_aload_n dX2_appendPut_83 (o := (some x0)) rfl ?_
            refine jw_aload_n dX2_appendPut_84 (o := (some x0)) rfl ?_
            obtain ⟨v18, ev18, hq⟩ := Option.bind_eq_some_iff.mp hq
            refine jw_getR (o := (some x0)) dX2_appendPut_85 ev18 fl_X2_15 rfl ?_
            obtain ⟨v19, ev19, hq⟩ := Option.bind_eq_some_iff.mp hq
            refine jw_getR (o := v18) dX2_appendPut_88 ev19 fl_X2_110 rfl ?_
            refine jw_iload dX2_appendPut_91 rfl ?_
            obtain ⟨v20, ev20, hq⟩ := Option.bind_eq_some_iff.mp hq
            refine jw_iald (o := v19) dX2_appendPut_93 ev20 ?_
            refine jw_aload_n dX2_appendPut_94 (o := (some x0)) rfl ?_
            obtain ⟨v21, ev21, hq⟩ := Option.bind_eq_some_iff.mp hq
            refine jw_getR (o := (some x0)) dX2_appendPut_95 ev21 fl_X2_15 rfl ?_
            obtain ⟨v22, ev22, hq⟩ := Option.bind_eq_some_iff.mp hq
            refine jw_getR (o := v21) dX2_appendPut_98 ev22 fl_X2_114 rfl ?_
            refine jw_iload dX2_appendPut_101 rfl ?_
            obtain ⟨v23, ev23, hq⟩ := Option.bind_eq_some_iff.mp hq
            refine jw_iald (o := v22) dX2_appendPut_103 ev23 ?_
            obtain ⟨a24, ea24, hq⟩ := Option.bind_eq_some_iff.mp hq
            obtain ⟨eoa24, eta24⟩ := jw_rc_spec ea24
            obtain ⟨w26, h25, ew26, hq⟩ := jw_b2_spec hq
            refine jw_callV (As := [.int v20, .int v23]) (S := []) (a := a24) (v := none) dX2_appendPut_104 mt_X2_appendRow in_X2_appendRow se_X2_appendRow lk_X2_87 (c_X2_appendRow ew26) eta24 (by decide) rfl rfl (by decide) (Nat.le_of_ble_eq_true rfl) (by cases eoa24; rfl) ?_
            refine jw_forget [true, true, true, false, false] (L' := [some (.ref x0), some (va_rf x1), some (.int (x2 + (1 : Int32))), none, none]) rfl ?_
            exact l_X2_appendPut_b107 hk5 hq
      · refine jw_icmp_ne_t (tgt := 110) dX2_appendPut_52 (by decide) c8 ?_
        refine jw_aload_n dX2_appendPut_110 (o := (some x0)) rfl ?_
        refine jw_iload_n dX2_appendPut_111 rfl ?_
        obtain ⟨a9, ea9, hq⟩ := Option.bind_eq_some_iff.mp hq
        obtain ⟨eoa9, eta9⟩ := jw_rc_spec ea9
        obtain ⟨w11, h10, ew11, hq⟩ := jw_b2_spec hq
        refine jw_callV (As := [.int w6]) (S := []) (a := a9) (v := none) dX2_appendPut_112 mt_X2_append in_X2_append se_X2_append lk_X2_117 (c_X2_append ew11) eta9 (by decide) rfl rfl (by decide) (Nat.le_of_ble_eq_true rfl) (by cases eoa9; rfl) ?_
        refine jw_forget [true, true, true, false, true] (L' := [some (.ref x0), some (va_rf x1), some (.int x2), none, none]) rfl ?_
        exact l_X2_appendPut_b115 hk5 hq

theorem l_X2_appendPut_b5 {hi : jw_H} : ∀ (n : Nat) (h : jw_H) (x0 : Nat) (x1 : Option Nat) (x2 : Int32) (r : Unit) (h' : jw_H), f_X2_appendPut_b5  n h x0 x1 x2 = some (r, h') → jw_E 2 uX2_appendPut hi 5 [some (.ref x0), some (va_rf x1), some (.int x2), none, none] [] h (.inl none) h' := by
  intro n
  induction n with
  | zero => intro h x0 x1 x2 r h' hq; exact nomatch hq
  | succ n ih => intro h x0 x1 x2 r h' hq; exact l_X2_appendPut_b5g ih hq

set_option maxRecDepth 100000 in
set_option maxHeartbeats 4000000 in
theorem l_X2_appendPut {hi : jw_H} {h : jw_H} {x0 : Nat} {x1 : Option Nat} {r : Unit} {h' : jw_H} (hq : f_X2_appendPut  h x0 x1 = some (r, h')) : jw_E 2 uX2_appendPut hi 0 [some (.ref x0), some (va_rf x1), none, none, none] [] h (.inl none) h' := by
  unfold f_X2_appendPut at hq
  refine jw_aload_n dX2_appendPut_0 (o := x1) rfl ?_
  obtain ⟨v1, ev1, hq⟩ := Option.bind_eq_some_iff.mp hq
  refine jw_getI (o := x1) dX2_appendPut_1 ev1 fl_X2_98 rfl ?_
  refine jw_istore_n (L' := [some (.ref x0), some (va_rf x1), some (.int v1), none, none]) dX2_appendPut_4 (Nat.le_of_ble_eq_true rfl) ((jw_st1_of (j := 1) jw_long_rf).trans rfl) ?_
  exact l_X2_appendPut_b5  jw_FU _ _ _ _ _ _ hq

theorem c_X2_appendPut {h : jw_H} {x0 : Nat} {x1 : Option Nat} {r : Unit} {h' : jw_H} (hq : f_X2_appendPut h x0 x1 = some (r, h')) : jw_Con (Cond.code yX2_appendPut cX2_appendPut 5 none) yX2_appendPut 2 [.ref x0, va_rf x1] h (.inl none) h' :=
  jw_con false (plainFor_of_name (by decide +kernel)) (fun z => nomatch z) (by simp [jw_ent, jw_sl0_nil, jw_sl0_int, jw_sl0_long, jw_sl0_ref, jw_sl0_rf, jw_sl0_scr, List.replicate]) (by simp [jw_sl0_nil, jw_sl0_int, jw_sl0_long, jw_sl0_ref, jw_sl0_rf, jw_sl0_scr]) (l_X2_appendPut hq)


/-! X2_replace -/
noncomputable def g_X2_replace_b113 (h : jw_H) (x0 : Nat) (x2 : Int32) : Option (Unit × jw_H) :=
 (jw_gR h 2 (some x0) 1).bind fun v1 =>
 (jw_gI h 4 v1 5).bind fun v2 =>
 (jw_rc h 2 (some x0)).bind fun a3 =>
 jw_b2 (f_X2_appendRow h a3 x2 v2) fun w5 h4 =>
 some ((), h4)

noncomputable def g_X2_replace_b95 (k7 : jw_H → Nat → Option Nat → Int32 → Int32 → Int32 → Option (Unit × jw_H)) (h : jw_H) (x0 : Nat) (x1 : Option Nat) (x2 : Int32) (x3 : Int32) (x4 : Int32) : Option (Unit × jw_H) :=
 (jw_gI h 5 x1 5).bind fun v1 =>
 if v1 = x4 then (g_X2_replace_b113  h x0 x2)
 else (k7 h x0 x1 x2 x3 (x4 + (1 : Int32)))

noncomputable def g_X2_replace_b65 (k7 : jw_H → Nat → Option Nat → Int32 → Int32 → Int32 → Option (Unit × jw_H)) (h : jw_H) (x0 : Nat) (x1 : Option Nat) (x2 : Int32) (x3 : Int32) (x4 : Int32) : Option (Unit × jw_H) :=
 (jw_gR h 2 (some x0) 1).bind fun v1 =>
 (jw_gI h 4 v1 6).bind fun v2 =>
 (jw_rc h 2 (some x0)).bind fun a3 =>
 jw_b2 (f_X2_appendRow h a3 x2 v2) fun w5 h4 =>
 (jw_rc h4 2 (some x0)).bind fun a6 =>
 jw_b2 (f_X2_appendPut h4 a6 x1) fun w8 h7 =>
 (jw_gR h7 2 (some x0) 1).bind fun v9 =>
 (jw_gI h7 4 v9 7).bind fun v10 =>
 (jw_pB h7 2 (some x0) 5 (1 : Int32)).bind fun h11 =>
 g_X2_replace_b95 k7 h11 x0 x1 v10 x3 x4

noncomputable def g_X2_replace_b37 (k7 : jw_H → Nat → Option Nat → Int32 → Int32 → Int32 → Option (Unit × jw_H)) (h : jw_H) (x0 : Nat) (x1 : Option Nat) (x2 : Int32) (x3 : Int32) (x4 : Int32) (t0 : Option Nat) (t1 : Int32) (t2 : Int32) : Option (Unit × jw_H) :=
 (jw_rc h 4 t0).bind fun a1 =>
 jw_b2 (f_X4_search h a1 t1 t2 x3) fun w3 h2 =>
 if w3 = 0 then (g_X2_replace_b113  h2 x0 x2)
 else ((jw_gI h2 5 x1 5).bind fun v5 =>
 if v5 = 0 then (g_X2_replace_b65 k7 h2 x0 x1 x2 (1 : Int32) x4)
 else ((jw_gI h2 5 x1 5).bind fun v7 =>
 if v7 = x4 then (g_X2_replace_b65 k7 h2 x0 x1 x2 (1 : Int32) x4)
 else (g_X2_replace_b95 k7 h2 x0 x1 x2 (1 : Int32) x4)))

noncomputable def g_X2_replace_b7 (k7 : jw_H → Nat → Option Nat → Int32 → Int32 → Int32 → Option (Unit × jw_H)) (h : jw_H) (x0 : Nat) (x1 : Option Nat) (x2 : Int32) (x3 : Int32) (x4 : Int32) : Option (Unit × jw_H) :=
 if (31 : Int32) < x4 then (g_X2_replace_b113  h x0 x2)
 else ((jw_gR h 2 (some x0) 1).bind fun v2 =>
 (jw_gI h 5 x1 6).bind fun v3 =>
 if x3 = 0 then (g_X2_replace_b37 k7 h x0 x1 x2 x3 x4 v2 v3 (0 : Int32))
 else ((jw_gR h 2 (some x0) 1).bind fun v5 =>
 (jw_gI h 4 v5 7).bind fun v6 =>
 g_X2_replace_b37 k7 h x0 x1 x2 x3 x4 v2 v3 v6))

noncomputable def f_X2_replace_b7 (n : Nat) : jw_H → Nat → Option Nat → Int32 → Int32 → Int32 → Option (Unit × jw_H) :=
 Nat.rec (fun _ _ _ _ _ _ => none) (fun _ k7 => g_X2_replace_b7 k7) n

noncomputable def f_X2_replace (h : jw_H) (x0 : Nat) (x1 : Option Nat) : Option (Unit × jw_H) :=
 f_X2_replace_b7  jw_FU h x0 x1 (0 : Int32) (0 : Int32) (1 : Int32)

set_option maxRecDepth 100000 in
set_option maxHeartbeats 4000000 in
theorem l_X2_replace_b113 {hi : jw_H} {h : jw_H} {x0 : Nat} {x2 : Int32} {r : Unit} {h' : jw_H} (hq : g_X2_replace_b113  h x0 x2 = some (r, h')) : jw_E 8 uX2_replace hi 113 [some (.ref x0), none, some (.int x2), none, none] [] h (.inl none) h' := by
  unfold g_X2_replace_b113 at hq
  refine jw_aload_n dX2_replace_113 (o := (some x0)) rfl ?_
  refine jw_iload_n dX2_replace_114 rfl ?_
  refine jw_aload_n dX2_replace_115 (o := (some x0)) rfl ?_
  obtain ⟨v1, ev1, hq⟩ := Option.bind_eq_some_iff.mp hq
  refine jw_getR (o := (some x0)) dX2_replace_116 ev1 fl_X2_15 rfl ?_
  obtain ⟨v2, ev2, hq⟩ := Option.bind_eq_some_iff.mp hq
  refine jw_getI (o := v1) dX2_replace_119 ev2 fl_X2_97 rfl ?_
  obtain ⟨a3, ea3, hq⟩ := Option.bind_eq_some_iff.mp hq
  obtain ⟨eoa3, eta3⟩ := jw_rc_spec ea3
  obtain ⟨w5, h4, ew5, hq⟩ := jw_b2_spec hq
  refine jw_callV (As := [.int x2, .int v2]) (S := []) (a := a3) (v := none) dX2_replace_122 mt_X2_appendRow in_X2_appendRow se_X2_appendRow lk_X2_87 (c_X2_appendRow ew5) eta3 (by decide) rfl rfl (by decide) (Nat.le_of_ble_eq_true rfl) (by cases eoa3; rfl) ?_
  cases hq
  exact jw_vret dX2_replace_125 rfl

set_option maxRecDepth 100000 in
set_option maxHeartbeats 4000000 in
theorem l_X2_replace_b95 {hi : jw_H} {k7 : jw_H → Nat → Option Nat → Int32 → Int32 → Int32 → Option (Unit × jw_H)} (hk7 : ∀ (h : jw_H) (x0 : Nat) (x1 : Option Nat) (x2 : Int32) (x3 : Int32) (x4 : Int32) (r : Unit) (h' : jw_H), k7 h x0 x1 x2 x3 x4 = some (r, h') → jw_E 8 uX2_replace hi 7 [some (.ref x0), some (va_rf x1), some (.int x2), some (.int x3), some (.int x4)] [] h (.inl none) h') {h : jw_H} {x0 : Nat} {x1 : Option Nat} {x2 : Int32} {x3 : Int32} {x4 : Int32} {r : Unit} {h' : jw_H} (hq : g_X2_replace_b95 k7 h x0 x1 x2 x3 x4 = some (r, h')) : jw_E 8 uX2_replace hi 95 [some (.ref x0), some (va_rf x1), some (.int x2), some (.int x3), some (.int x4)] [] h (.inl none) h' := by
  unfold g_X2_replace_b95 at hq
  refine jw_aload_n dX2_replace_95 (o := x1) rfl ?_
  obtain ⟨v1, ev1, hq⟩ := Option.bind_eq_some_iff.mp hq
  refine jw_getI (o := x1) dX2_replace_96 ev1 fl_X2_49 rfl ?_
  refine jw_iload dX2_replace_99 rfl ?_
  rcases jw_if hq with ⟨c2, hq⟩ | ⟨c2, hq⟩
  · refine jw_icmp_ne_f (tgt := 107) dX2_replace_101 (by decide) c2 ?_
    refine jw_goto (tgt := 113) dX2_replace_104 (by decide) ?_
    refine jw_forget [true, false, true, false, false] (L' := [some (.ref x0), none, some (.int x2), none, none]) rfl ?_
    exact l_X2_replace_b113  hq
  · refine jw_icmp_ne_t (tgt := 107) dX2_replace_101 (by decide) c2 ?_
    refine jw_iinc (L' := [some (.ref x0), some (va_rf x1), some (.int x2), some (.int x3), some (.int (x4 + (1 : Int32)))]) dX2_replace_107 rfl (v := (1 : Int32)) (by decide) (Nat.le_of_ble_eq_true rfl) rfl ?_
    refine jw_goto (tgt := 7) dX2_replace_110 (by decide) ?_
    exact hk7 _ _ _ _ _ _ _ _ hq

set_option maxRecDepth 100000 in
set_option maxHeartbeats 4000000 in
theorem l_X2_replace_b65 {hi : jw_H} {k7 : jw_H → Nat → Option Nat → Int32 → Int32 → Int32 → Option (Unit × jw_H)} (hk7 : ∀ (h : jw_H) (x0 : Nat) (x1 : Option Nat) (x2 : Int32) (x3 : Int32) (x4 : Int32) (r : Unit) (h' : jw_H), k7 h x0 x1 x2 x3 x4 = some (r, h') → jw_E 8 uX2_replace hi 7 [some (.ref x0), some (va_rf x1), some (.int x2), some (.int x3), some (.int x4)] [] h (.inl none) h') {h : jw_H} {x0 : Nat} {x1 : Option Nat} {x2 : Int32} {x3 : Int32} {x4 : Int32} {r : Unit} {h' : jw_H} (hq : g_X2_replace_b65 k7 h x0 x1 x2 x3 x4 = some (r, h')) : jw_E 8 uX2_replace hi 65 [some (.ref x0), some (va_rf x1), some (.int x2), some (.int x3), some (.int x4)] [] h (.inl none) h' := by
  unfold g_X2_replace_b65 at hq
  refine jw_aload_n dX2_replace_65 (o := (some x0)) rfl ?_
  refine jw_iload_n dX2_replace_66 rfl ?_
  refine jw_aload_n dX2_replace_67 (o := (some x0)) rfl ?_
  obtain ⟨v1, ev1, hq⟩ := Option.bind_eq_some_iff.mp hq
  refine jw_getR (o := (some x0)) dX2_replace_68 ev1 fl_X2_15 rfl ?_
  obtain ⟨v2, ev2, hq⟩ := Option.bind_eq_some_iff.mp hq
  refine jw_getI (o := v1) dX2_replace_71 ev2 fl_X2_84 rfl ?_
  obtain ⟨a3, ea3, hq⟩ := Option.bind_eq_some_iff.mp hq
  obtain ⟨eoa3, eta3⟩ := jw_rc_spec ea3
  obtain ⟨w5, h4, ew5, hq⟩ := jw_b2_spec hq
  refine jw_callV (As := [.int x2, .int v2]) (S := []) (a := a3) (v := none) dX2_replace_74 mt_X2_appendRow in_X2_appendRow se_X2_appendRow lk_X2_87 (c_X2_appendRow ew5) eta3 (by decide) rfl rfl (by decide) (Nat.le_of_ble_eq_true rfl) (by cases eoa3; rfl) ?_
  refine jw_aload_n dX2_replace_77 (o := (some x0)) rfl ?_
  refine jw_aload_n dX2_replace_78 (o := x1) rfl ?_
  obtain ⟨a6, ea6, hq⟩ := Option.bind_eq_some_iff.mp hq
  obtain ⟨eoa6, eta6⟩ := jw_rc_spec ea6
  obtain ⟨w8, h7, ew8, hq⟩ := jw_b2_spec hq
  refine jw_callV (As := [va_rf x1]) (S := []) (a := a6) (v := none) dX2_replace_79 mt_X2_appendPut in_X2_appendPut se_X2_appendPut lk_X2_91 (c_X2_appendPut ew8) eta6 (by decide) rfl rfl (by decide) (Nat.le_of_ble_eq_true rfl) (by cases eoa6; rfl) ?_
  refine jw_aload_n dX2_replace_82 (o := (some x0)) rfl ?_
  obtain ⟨v9, ev9, hq⟩ := Option.bind_eq_some_iff.mp hq
  refine jw_getR (o := (some x0)) dX2_replace_83 ev9 fl_X2_15 rfl ?_
  obtain ⟨v10, ev10, hq⟩ := Option.bind_eq_some_iff.mp hq
  refine jw_getI (o := v9) dX2_replace_86 ev10 fl_X2_77 rfl ?_
  refine jw_istore_n (L' := [some (.ref x0), some (va_rf x1), some (.int v10), some (.int x3), some (.int x4)]) dX2_replace_89 (Nat.le_of_ble_eq_true rfl) ((jw_st1_of (j := 1) jw_long_rf).trans rfl) ?_
  refine jw_aload_n dX2_replace_90 (o := (some x0)) rfl ?_
  refine jw_iconst dX2_replace_91 (v := (1 : Int32)) (by decide) ?_
  obtain ⟨h11, eh11, hq⟩ := Option.bind_eq_some_iff.mp hq
  refine jw_putB (o := (some x0)) dX2_replace_92 eh11 fl_X2_94 rfl rfl ?_
  exact l_X2_replace_b95 hk7 hq

set_option maxRecDepth 100000 in
set_option maxHeartbeats 4000000 in
theorem l_X2_replace_b37 {hi : jw_H} {k7 : jw_H → Nat → Option Nat → Int32 → Int32 → Int32 → Option (Unit × jw_H)} (hk7 : ∀ (h : jw_H) (x0 : Nat) (x1 : Option Nat) (x2 : Int32) (x3 : Int32) (x4 : Int32) (r : Unit) (h' : jw_H), k7 h x0 x1 x2 x3 x4 = some (r, h') → jw_E 8 uX2_replace hi 7 [some (.ref x0), some (va_rf x1), some (.int x2), some (.int x3), some (.int x4)] [] h (.inl none) h') {h : jw_H} {x0 : Nat} {x1 : Option Nat} {x2 : Int32} {x3 : Int32} {x4 : Int32} {t0 : Option Nat} {t1 : Int32} {t2 : Int32} {r : Unit} {h' : jw_H} (hq : g_X2_replace_b37 k7 h x0 x1 x2 x3 x4 t0 t1 t2 = some (r, h')) : jw_E 8 uX2_replace hi 37 [some (.ref x0), some (va_rf x1), some (.int x2), some (.int x3), some (.int x4)] [.int t2, .int t1, va_rf t0] h (.inl none) h' := by
  unfold g_X2_replace_b37 at hq
  refine jw_iload_n dX2_replace_37 rfl ?_
  obtain ⟨a1, ea1, hq⟩ := Option.bind_eq_some_iff.mp hq
  obtain ⟨eoa1, eta1⟩ := jw_rc_spec ea1
  obtain ⟨w3, h2, ew3, hq⟩ := jw_b2_spec hq
  refine jw_callV (As := [.int t1, .int t2, .int x3]) (S := []) (a := a1) (v := some (.int w3)) dX2_replace_38 mt_X4_search in_X4_search se_X4_search lk_X2_80 (c_X4_search ew3) eta1 (by decide) rfl rfl (by decide) (Nat.le_of_ble_eq_true rfl) (by cases eoa1; rfl) ?_
  rcases jw_if hq with ⟨c4, hq⟩ | ⟨c4, hq⟩
  · refine jw_if_ne_f (tgt := 47) dX2_replace_41 (by decide) c4 ?_
    refine jw_goto (tgt := 113) dX2_replace_44 (by decide) ?_
    refine jw_forget [true, false, true, false, false] (L' := [some (.ref x0), none, some (.int x2), none, none]) rfl ?_
    exact l_X2_replace_b113  hq
  · refine jw_if_ne_t (tgt := 47) dX2_replace_41 (by decide) c4 ?_
    refine jw_iconst dX2_replace_47 (v := (1 : Int32)) (by decide) ?_
    refine jw_istore_n (L' := [some (.ref x0), some (va_rf x1), some (.int x2), some (.int (1 : Int32)), some (.int x4)]) dX2_replace_48 (Nat.le_of_ble_eq_true rfl) rfl ?_
    refine jw_aload_n dX2_replace_49 (o := x1) rfl ?_
    obtain ⟨v5, ev5, hq⟩ := Option.bind_eq_some_iff.mp hq
    refine jw_getI (o := x1) dX2_replace_50 ev5 fl_X2_49 rfl ?_
    rcases jw_if hq with ⟨c6, hq⟩ | ⟨c6, hq⟩
    · refine jw_if_eq_t (tgt := 65) dX2_replace_53 (by decide) c6 ?_
      exact l_X2_replace_b65 hk7 hq
    · refine jw_if_eq_f (tgt := 65) dX2_replace_53 (by decide) c6 ?_
      refine jw_aload_n dX2_replace_56 (o := x1) rfl ?_
      obtain ⟨v7, ev7, hq⟩ := Option.bind_eq_some_iff.mp hq
      refine jw_getI (o := x1) dX2_replace_57 ev7 fl_X2_49 rfl ?_
      refine jw_iload dX2_replace_60 rfl ?_
      rcases jw_if hq with ⟨c8, hq⟩ | ⟨c8, hq⟩
      · refine jw_icmp_ne_f (tgt := 95) dX2_replace_62 (by decide) c8 ?_
        exact l_X2_replace_b65 hk7 hq
      · refine jw_icmp_ne_t (tgt := 95) dX2_replace_62 (by decide) c8 ?_
        exact l_X2_replace_b95 hk7 hq

set_option maxRecDepth 100000 in
set_option maxHeartbeats 4000000 in
theorem l_X2_replace_b7g {hi : jw_H} {k7 : jw_H → Nat → Option Nat → Int32 → Int32 → Int32 → Option (Unit × jw_H)} (hk7 : ∀ (h : jw_H) (x0 : Nat) (x1 : Option Nat) (x2 : Int32) (x3 : Int32) (x4 : Int32) (r : Unit) (h' : jw_H), k7 h x0 x1 x2 x3 x4 = some (r, h') → jw_E 8 uX2_replace hi 7 [some (.ref x0), some (va_rf x1), some (.int x2), some (.int x3), some (.int x4)] [] h (.inl none) h') {h : jw_H} {x0 : Nat} {x1 : Option Nat} {x2 : Int32} {x3 : Int32} {x4 : Int32} {r : Unit} {h' : jw_H} (hq : g_X2_replace_b7 k7 h x0 x1 x2 x3 x4 = some (r, h')) : jw_E 8 uX2_replace hi 7 [some (.ref x0), some (va_rf x1), some (.int x2), some (.int x3), some (.int x4)] [] h (.inl none) h' := by
  unfold g_X2_replace_b7 at hq
  refine jw_iload dX2_replace_7 rfl ?_
  refine jw_bipush dX2_replace_9 (v := (31 : Int32)) (by decide) ?_
  rcases jw_if hq with ⟨c1, hq⟩ | ⟨c1, hq⟩
  · refine jw_icmp_gt_t (tgt := 113) dX2_replace_11 (by decide) c1 ?_
    refine jw_forget [true, false, true, false, false] (L' := [some (.ref x0), none, some (.int x2), none, none]) rfl ?_
    exact l_X2_replace_b113  hq
  · refine jw_icmp_gt_f (tgt := 113) dX2_replace_11 (by decide) c1 ?_
    refine jw_aload_n dX2_replace_14 (o := (some x0)) rfl ?_
    obtain ⟨v2, ev2, hq⟩ := Option.bind_eq_some_iff.mp hq
    refine jw_getR (o := (some x0)) dX2_replace_15 ev2 fl_X2_15 rfl ?_
    refine jw_aload_n dX2_replace_18 (o := x1) rfl ?_
    obtain ⟨v3, ev3, hq⟩ := Option.bind_eq_some_iff.mp hq
    refine jw_getI (o := x1) dX2_replace_19 ev3 fl_X2_74 rfl ?_
    refine jw_iload_n dX2_replace_22 rfl ?_
    rcases jw_if hq with ⟨c4, hq⟩ | ⟨c4, hq⟩
    · refine jw_if_eq_t (tgt := 36) dX2_replace_23 (by decide) c4 ?_
      refine jw_iconst dX2_replace_36 (v := (0 : Int32)) (by decide) ?_
      exact l_X2_replace_b37 hk7 hq
    · refine jw_if_eq_f (tgt := 36) dX2_replace_23 (by decide) c4 ?_
      refine jw_aload_n dX2_replace_26 (o := (some x0)) rfl ?_
      obtain ⟨v5, ev5, hq⟩ := Option.bind_eq_some_iff.mp hq
      refine jw_getR (o := (some x0)) dX2_replace_27 ev5 fl_X2_15 rfl ?_
      obtain ⟨v6, ev6, hq⟩ := Option.bind_eq_some_iff.mp hq
      refine jw_getI (o := v5) dX2_replace_30 ev6 fl_X2_77 rfl ?_
      refine jw_goto (tgt := 37) dX2_replace_33 (by decide) ?_
      exact l_X2_replace_b37 hk7 hq

theorem l_X2_replace_b7 {hi : jw_H} : ∀ (n : Nat) (h : jw_H) (x0 : Nat) (x1 : Option Nat) (x2 : Int32) (x3 : Int32) (x4 : Int32) (r : Unit) (h' : jw_H), f_X2_replace_b7  n h x0 x1 x2 x3 x4 = some (r, h') → jw_E 8 uX2_replace hi 7 [some (.ref x0), some (va_rf x1), some (.int x2), some (.int x3), some (.int x4)] [] h (.inl none) h' := by
  intro n
  induction n with
  | zero => intro h x0 x1 x2 x3 x4 r h' hq; exact nomatch hq
  | succ n ih => intro h x0 x1 x2 x3 x4 r h' hq; exact l_X2_replace_b7g ih hq

set_option maxRecDepth 100000 in
set_option maxHeartbeats 4000000 in
theorem l_X2_replace {hi : jw_H} {h : jw_H} {x0 : Nat} {x1 : Option Nat} {r : Unit} {h' : jw_H} (hq : f_X2_replace  h x0 x1 = some (r, h')) : jw_E 8 uX2_replace hi 0 [some (.ref x0), some (va_rf x1), none, none, none] [] h (.inl none) h' := by
  unfold f_X2_replace at hq
  refine jw_iconst dX2_replace_0 (v := (0 : Int32)) (by decide) ?_
  refine jw_istore_n (L' := [some (.ref x0), some (va_rf x1), some (.int (0 : Int32)), none, none]) dX2_replace_1 (Nat.le_of_ble_eq_true rfl) ((jw_st1_of (j := 1) jw_long_rf).trans rfl) ?_
  refine jw_iconst dX2_replace_2 (v := (0 : Int32)) (by decide) ?_
  refine jw_istore_n (L' := [some (.ref x0), some (va_rf x1), some (.int (0 : Int32)), some (.int (0 : Int32)), none]) dX2_replace_3 (Nat.le_of_ble_eq_true rfl) rfl ?_
  refine jw_iconst dX2_replace_4 (v := (1 : Int32)) (by decide) ?_
  refine jw_istore (L' := [some (.ref x0), some (va_rf x1), some (.int (0 : Int32)), some (.int (0 : Int32)), some (.int (1 : Int32))]) dX2_replace_5 (Nat.le_of_ble_eq_true rfl) rfl ?_
  exact l_X2_replace_b7  jw_FU _ _ _ _ _ _ _ _ hq

theorem c_X2_replace {h : jw_H} {x0 : Nat} {x1 : Option Nat} {r : Unit} {h' : jw_H} (hq : f_X2_replace h x0 x1 = some (r, h')) : jw_Con (Cond.code yX2_replace cX2_replace 5 none) yX2_replace 8 [.ref x0, va_rf x1] h (.inl none) h' :=
  jw_con false (plainFor_of_name (by decide +kernel)) (fun z => nomatch z) (by simp [jw_ent, jw_sl0_nil, jw_sl0_int, jw_sl0_long, jw_sl0_ref, jw_sl0_rf, jw_sl0_scr, List.replicate]) (by simp [jw_sl0_nil, jw_sl0_int, jw_sl0_long, jw_sl0_ref, jw_sl0_rf, jw_sl0_scr]) (l_X2_replace hq)


/-! X2_turn -/
noncomputable def g_X2_turn_b85 (k46 : jw_H → Nat → Option Nat → Int32 → Int32 → Int32 → Int32 → Option (Unit × jw_H)) (h : jw_H) (x0 : Nat) (x1 : Option Nat) (x2 : Int32) (x3 : Int32) (x4 : Int32) (x5 : Int32) : Option (Unit × jw_H) :=
 k46 h x0 x1 x2 x3 x4 (x5 + (-1 : Int32))

noncomputable def g_X2_turn_b46 (k2 : jw_H → Nat → Option Nat → Int32 → Option (Unit × jw_H)) (k46 : jw_H → Nat → Option Nat → Int32 → Int32 → Int32 → Int32 → Option (Unit × jw_H)) (h : jw_H) (x0 : Nat) (x1 : Option Nat) (x2 : Int32) (x3 : Int32) (x4 : Int32) (x5 : Int32) : Option (Unit × jw_H) :=
 if x5 < 0 then ((jw_rc h 2 (some x0)).bind fun a2 =>
 jw_b2 (f_X2_append h a2 x4) fun w4 h3 =>
 k2 h3 x0 x1 (x2 + (1 : Int32)))
 else ((jw_gR h 2 (some x0) 0).bind fun v5 =>
 (jw_gI h 5 x1 7).bind fun v6 =>
 (jw_rc h 6 v5).bind fun a7 =>
 jw_b2 (f_X6_signAt h a7 (v6 + x5)) fun w9 h8 =>
 if w9 = x3 then ((jw_gR h8 2 (some x0) 0).bind fun v11 =>
 (jw_gI h8 5 x1 8).bind fun v12 =>
 (jw_rc h8 6 v11).bind fun a13 =>
 jw_b2 (f_X6_signAt h8 a13 (v12 + x5)) fun w15 h14 =>
 g_X2_turn_b85 k46 h14 x0 x1 x2 x3 w15 x5)
 else (g_X2_turn_b85 k46 h8 x0 x1 x2 x3 x4 x5))

noncomputable def f_X2_turn_b46 (k2 : jw_H → Nat → Option Nat → Int32 → Option (Unit × jw_H)) (n : Nat) : jw_H → Nat → Option Nat → Int32 → Int32 → Int32 → Int32 → Option (Unit × jw_H) :=
 Nat.rec (fun _ _ _ _ _ _ _ => none) (fun _ k46 => g_X2_turn_b46 k2 k46) n

noncomputable def g_X2_turn_b2 (k2 : jw_H → Nat → Option Nat → Int32 → Option (Unit × jw_H)) (h : jw_H) (x0 : Nat) (x1 : Option Nat) (x2 : Int32) : Option (Unit × jw_H) :=
 (jw_gR h 2 (some x0) 1).bind fun v1 =>
 (jw_gI h 4 v1 5).bind fun v2 =>
 if v2 ≤ x2 then (some ((), h))
 else ((jw_gR h 2 (some x0) 1).bind fun v4 =>
 (jw_gR h 4 v4 1).bind fun v5 =>
 (jw_ln h v5).bind fun v6 =>
 if v6 ≤ x2 then (some ((), h))
 else ((jw_gR h 2 (some x0) 1).bind fun v8 =>
 (jw_gR h 4 v8 1).bind fun v9 =>
 (jw_ai h 21 v9 x2).bind fun v10 =>
 (jw_gI h 5 x1 5).bind fun v11 =>
 f_X2_turn_b46 k2 jw_FU h x0 x1 x2 v10 v10 (v11 - (1 : Int32))))

noncomputable def f_X2_turn_b2 (n : Nat) : jw_H → Nat → Option Nat → Int32 → Option (Unit × jw_H) :=
 Nat.rec (fun _ _ _ _ => none) (fun _ k2 => g_X2_turn_b2 k2) n

noncomputable def f_X2_turn (h : jw_H) (x0 : Nat) (x1 : Option Nat) : Option (Unit × jw_H) :=
 f_X2_turn_b2  jw_FU h x0 x1 (0 : Int32)

set_option maxRecDepth 100000 in
set_option maxHeartbeats 4000000 in
theorem l_X2_turn_b85 {hi : jw_H} {k46 : jw_H → Nat → Option Nat → Int32 → Int32 → Int32 → Int32 → Option (Unit × jw_H)} (hk46 : ∀ (h : jw_H) (x0 : Nat) (x1 : Option Nat) (x2 : Int32) (x3 : Int32) (x4 : Int32) (x5 : Int32) (r : Unit) (h' : jw_H), k46 h x0 x1 x2 x3 x4 x5 = some (r, h') → jw_E 1 uX2_turn hi 46 [some (.ref x0), some (va_rf x1), some (.int x2), some (.int x3), some (.int x4), some (.int x5)] [] h (.inl none) h') {h : jw_H} {x0 : Nat} {x1 : Option Nat} {x2 : Int32} {x3 : Int32} {x4 : Int32} {x5 : Int32} {r : Unit} {h' : jw_H} (hq : g_X2_turn_b85 k46 h x0 x1 x2 x3 x4 x5 = some (r, h')) : jw_E 1 uX2_turn hi 85 [some (.ref x0), some (va_rf x1), some (.int x2), some (.int x3), some (.int x4), some (.int x5)] [] h (.inl none) h' := by
  unfold g_X2_turn_b85 at hq
  refine jw_iinc (L' := [some (.ref x0), some (va_rf x1), some (.int x2), some (.int x3), some (.int x4), some (.int (x5 + (-1 : Int32)))]) dX2_turn_85 rfl (v := (-1 : Int32)) (by decide) (Nat.le_of_ble_eq_true rfl) rfl ?_
  refine jw_goto (tgt := 46) dX2_turn_88 (by decide) ?_
  exact hk46 _ _ _ _ _ _ _ _ _ hq

set_option maxRecDepth 100000 in
set_option maxHeartbeats 4000000 in
theorem l_X2_turn_b46g {hi : jw_H} {k2 : jw_H → Nat → Option Nat → Int32 → Option (Unit × jw_H)} (hk2 : ∀ (h : jw_H) (x0 : Nat) (x1 : Option Nat) (x2 : Int32) (r : Unit) (h' : jw_H), k2 h x0 x1 x2 = some (r, h') → jw_E 1 uX2_turn hi 2 [some (.ref x0), some (va_rf x1), some (.int x2), none, none, none] [] h (.inl none) h') {k46 : jw_H → Nat → Option Nat → Int32 → Int32 → Int32 → Int32 → Option (Unit × jw_H)} (hk46 : ∀ (h : jw_H) (x0 : Nat) (x1 : Option Nat) (x2 : Int32) (x3 : Int32) (x4 : Int32) (x5 : Int32) (r : Unit) (h' : jw_H), k46 h x0 x1 x2 x3 x4 x5 = some (r, h') → jw_E 1 uX2_turn hi 46 [some (.ref x0), some (va_rf x1), some (.int x2), some (.int x3), some (.int x4), some (.int x5)] [] h (.inl none) h') {h : jw_H} {x0 : Nat} {x1 : Option Nat} {x2 : Int32} {x3 : Int32} {x4 : Int32} {x5 : Int32} {r : Unit} {h' : jw_H} (hq : g_X2_turn_b46 k2 k46 h x0 x1 x2 x3 x4 x5 = some (r, h')) : jw_E 1 uX2_turn hi 46 [some (.ref x0), some (va_rf x1), some (.int x2), some (.int x3), some (.int x4), some (.int x5)] [] h (.inl none) h' := by
  unfold g_X2_turn_b46 at hq
  refine jw_iload dX2_turn_46 rfl ?_
  rcases jw_if hq with ⟨c1, hq⟩ | ⟨c1, hq⟩
  · refine jw_if_lt_t (tgt := 91) dX2_turn_48 (by decide) c1 ?_
    refine jw_aload_n dX2_turn_91 (o := (some x0)) rfl ?_
    refine jw_iload dX2_turn_92 rfl ?_
    obtain ⟨a2, ea2, hq⟩ := Option.bind_eq_some_iff.mp hq
    obtain ⟨eoa2, eta2⟩ := jw_rc_spec ea2
    obtain ⟨w4, h3, ew4, hq⟩ := jw_b2_spec hq
    refine jw_callV (As := [.int x4]) (S := []) (a := a2) (v := none) dX2_turn_94 mt_X2_append in_X2_append se_X2_append lk_X2_117 (c_X2_append ew4) eta2 (by decide) rfl rfl (by decide) (Nat.le_of_ble_eq_true rfl) (by cases eoa2; rfl) ?_
    refine jw_iinc (L' := [some (.ref x0), some (va_rf x1), some (.int (x2 + (1 : Int32))), some (.int x3), some (.int x4), some (.int x5)]) dX2_turn_97 rfl (v := (1 : Int32)) (by decide) (Nat.le_of_ble_eq_true rfl) ((jw_st1_of (j := 1) jw_long_rf).trans rfl) ?_
    refine jw_goto (tgt := 2) dX2_turn_100 (by decide) ?_
    refine jw_forget [true, true, true, false, false, false] (L' := [some (.ref x0), some (va_rf x1), some (.int (x2 + (1 : Int32))), none, none, none]) rfl ?_
    exact hk2 _ _ _ _ _ _ hq
  · refine jw_if_lt_f (tgt := 91) dX2_turn_48 (by decide) c1 ?_
    refine jw_aload_n dX2_turn_51 (o := (some x0)) rfl ?_
    obtain ⟨v5, ev5, hq⟩ := Option.bind_eq_some_iff.mp hq
    refine jw_getR (o := (some x0)) dX2_turn_52 ev5 fl_X2_9 rfl ?_
    refine jw_aload_n dX2_turn_55 (o := x1) rfl ?_
    obtain ⟨v6, ev6, hq⟩ := Option.bind_eq_some_iff.mp hq
    refine jw_getI (o := x1) dX2_turn_56 ev6 fl_X2_98 rfl ?_
    refine jw_iload dX2_turn_59 rfl ?_
    refine jw_iadd dX2_turn_61 ?_
    obtain ⟨a7, ea7, hq⟩ := Option.bind_eq_some_iff.mp hq
    obtain ⟨eoa7, eta7⟩ := jw_rc_spec ea7
    obtain ⟨w9, h8, ew9, hq⟩ := jw_b2_spec hq
    refine jw_callV (As := [.int (v6 + x5)]) (S := []) (a := a7) (v := some (.int w9)) dX2_turn_62 mt_X6_signAt in_X6_signAt se_X6_signAt lk_X2_104 (c_X6_signAt ew9) eta7 (by decide) rfl rfl (by decide) (Nat.le_of_ble_eq_true rfl) (by cases eoa7; rfl) ?_
    refine jw_iload_n dX2_turn_65 rfl ?_
    rcases jw_if hq with ⟨c10, hq⟩ | ⟨c10, hq⟩
    · refine jw_icmp_ne_f (tgt := 85) dX2_turn_66 (by decide) c10 ?_
      refine jw_aload_n dX2_turn_69 (o := (some x0)) rfl ?_
      obtain ⟨v11, ev11, hq⟩ := Option.bind_eq_some_iff.mp hq
      refine jw_getR (o := (some x0)) dX2_turn_70 ev11 fl_X2_9 rfl ?_
      refine jw_aload_n dX2_turn_73 (o := x1) rfl ?_
      obtain ⟨v12, ev12, hq⟩ := Option.bind_eq_some_iff.mp hq
      refine jw_getI (o := x1) dX2_turn_74 ev12 fl_X2_101 rfl ?_
      refine jw_iload dX2_turn_77 rfl ?_
      refine jw_iadd dX2_turn_79 ?_
      obtain ⟨a13, ea13, hq⟩ := Option.bind_eq_some_iff.mp hq
      obtain ⟨eoa13, eta13⟩ := jw_rc_spec ea13
      obtain ⟨w15, h14, ew15, hq⟩ := jw_b2_spec hq
      refine jw_callV (As := [.int (v12 + x5)]) (S := []) (a := a13) (v := some (.int w15)) dX2_turn_80 mt_X6_signAt in_X6_signAt se_X6_signAt lk_X2_104 (c_X6_signAt ew15) eta13 (by decide) rfl rfl (by decide) (Nat.le_of_ble_eq_true rfl) (by cases eoa13; rfl) ?_
      refine jw_istore (L' := [some (.ref x0), some (va_rf x1), some (.int x2), some (.int x3), some (.int w15), some (.int x5)]) dX2_turn_83 (Nat.le_of_ble_eq_true rfl) rfl ?_
      exact l_X2_turn_b85 hk46 hq
    · refine jw_icmp_ne_t (tgt := 85) dX2_turn_66 (by decide) c10 ?_
      exact l_X2_turn_b85 hk46 hq

theorem l_X2_turn_b46 {hi : jw_H} {k2 : jw_H → Nat → Option Nat → Int32 → Option (Unit × jw_H)} (hk2 : ∀ (h : jw_H) (x0 : Nat) (x1 : Option Nat) (x2 : Int32) (r : Unit) (h' : jw_H), k2 h x0 x1 x2 = some (r, h') → jw_E 1 uX2_turn hi 2 [some (.ref x0), some (va_rf x1), some (.int x2), none, none, none] [] h (.inl none) h') : ∀ (n : Nat) (h : jw_H) (x0 : Nat) (x1 : Option Nat) (x2 : Int32) (x3 : Int32) (x4 : Int32) (x5 : Int32) (r : Unit) (h' : jw_H), f_X2_turn_b46 k2 n h x0 x1 x2 x3 x4 x5 = some (r, h') → jw_E 1 uX2_turn hi 46 [some (.ref x0), some (va_rf x1), some (.int x2), some (.int x3), some (.int x4), some (.int x5)] [] h (.inl none) h' := by
  intro n
  induction n with
  | zero => intro h x0 x1 x2 x3 x4 x5 r h' hq; exact nomatch hq
  | succ n ih => intro h x0 x1 x2 x3 x4 x5 r h' hq; exact l_X2_turn_b46g hk2 ih hq

set_option maxRecDepth 100000 in
set_option maxHeartbeats 4000000 in
theorem l_X2_turn_b2g {hi : jw_H} {k2 : jw_H → Nat → Option Nat → Int32 → Option (Unit × jw_H)} (hk2 : ∀ (h : jw_H) (x0 : Nat) (x1 : Option Nat) (x2 : Int32) (r : Unit) (h' : jw_H), k2 h x0 x1 x2 = some (r, h') → jw_E 1 uX2_turn hi 2 [some (.ref x0), some (va_rf x1), some (.int x2), none, none, none] [] h (.inl none) h') {h : jw_H} {x0 : Nat} {x1 : Option Nat} {x2 : Int32} {r : Unit} {h' : jw_H} (hq : g_X2_turn_b2 k2 h x0 x1 x2 = some (r, h')) : jw_E 1 uX2_turn hi 2 [some (.ref x0), some (va_rf x1), some (.int x2), none, none, none] [] h (.inl none) h' := by
  unfold g_X2_turn_b2 at hq
  refine jw_iload_n dX2_turn_2 rfl ?_
  refine jw_aload_n dX2_turn_3 (o := (some x0)) rfl ?_
  obtain ⟨v1, ev1, hq⟩ := Option.bind_eq_some_iff.mp hq
  refine jw_getR (o := (some x0)) dX2_turn_4 ev1 fl_X2_15 rfl ?_
  obtain ⟨v2, ev2, hq⟩ := Option.bind_eq_some_iff.mp hq
  refine jw_getI (o := v1) dX2_turn_7 ev2 fl_X2_97 rfl ?_
  rcases jw_if hq with ⟨c3, hq⟩ | ⟨c3, hq⟩
  · refine jw_icmp_ge_t (tgt := 103) dX2_turn_10 (by decide) c3 ?_
    cases hq
    exact jw_vret dX2_turn_103 rfl
  · refine jw_icmp_ge_f (tgt := 103) dX2_turn_10 (by decide) c3 ?_
    refine jw_iload_n dX2_turn_13 rfl ?_
    refine jw_aload_n dX2_turn_14 (o := (some x0)) rfl ?_
    obtain ⟨v4, ev4, hq⟩ := Option.bind_eq_some_iff.mp hq
    refine jw_getR (o := (some x0)) dX2_turn_15 ev4 fl_X2_15 rfl ?_
    obtain ⟨v5, ev5, hq⟩ := Option.bind_eq_some_iff.mp hq
    refine jw_getR (o := v4) dX2_turn_18 ev5 fl_X2_65 rfl ?_
    obtain ⟨v6, ev6, hq⟩ := Option.bind_eq_some_iff.mp hq
    refine jw_alen (o := v5) dX2_turn_21 ev6 ?_
    rcases jw_if hq with ⟨c7, hq⟩ | ⟨c7, hq⟩
    · refine jw_icmp_ge_t (tgt := 103) dX2_turn_22 (by decide) c7 ?_
      cases hq
      exact jw_vret dX2_turn_103 rfl
    · refine jw_icmp_ge_f (tgt := 103) dX2_turn_22 (by decide) c7 ?_
      refine jw_aload_n dX2_turn_25 (o := (some x0)) rfl ?_
      obtain ⟨v8, ev8, hq⟩ := Option.bind_eq_some_iff.mp hq
      refine jw_getR (o := (some x0)) dX2_turn_26 ev8 fl_X2_15 rfl ?_
      obtain ⟨v9, ev9, hq⟩ := Option.bind_eq_some_iff.mp hq
      refine jw_getR (o := v8) dX2_turn_29 ev9 fl_X2_65 rfl ?_
      refine jw_iload_n dX2_turn_32 rfl ?_
      obtain ⟨v10, ev10, hq⟩ := Option.bind_eq_some_iff.mp hq
      refine jw_bald (o := v9) dX2_turn_33 ev10 ?_
      refine jw_istore_n (L' := [some (.ref x0), some (va_rf x1), some (.int x2), some (.int v10), none, none]) dX2_turn_34 (Nat.le_of_ble_eq_true rfl) rfl ?_
      refine jw_iload_n dX2_turn_35 rfl ?_
      refine jw_istore (L' := [some (.ref x0), some (va_rf x1), some (.int x2), some (.int v10), some (.int v10), none]) dX2_turn_36 (Nat.le_of_ble_eq_true rfl) rfl ?_
      refine jw_aload_n dX2_turn_38 (o := x1) rfl ?_
      obtain ⟨v11, ev11, hq⟩ := Option.bind_eq_some_iff.mp hq
      refine jw_getI (o := x1) dX2_turn_39 ev11 fl_X2_49 rfl ?_
      refine jw_iconst dX2_turn_42 (v := (1 : Int32)) (by decide) ?_
      refine jw_isub dX2_turn_43 ?_
      refine jw_istore (L' := [some (.ref x0), some (va_rf x1), some (.int x2), some (.int v10), some (.int v10), some (.int (v11 - (1 : Int32)))]) dX2_turn_44 (Nat.le_of_ble_eq_true rfl) rfl ?_
      exact l_X2_turn_b46 hk2 jw_FU _ _ _ _ _ _ _ _ _ hq

theorem l_X2_turn_b2 {hi : jw_H} : ∀ (n : Nat) (h : jw_H) (x0 : Nat) (x1 : Option Nat) (x2 : Int32) (r : Unit) (h' : jw_H), f_X2_turn_b2  n h x0 x1 x2 = some (r, h') → jw_E 1 uX2_turn hi 2 [some (.ref x0), some (va_rf x1), some (.int x2), none, none, none] [] h (.inl none) h' := by
  intro n
  induction n with
  | zero => intro h x0 x1 x2 r h' hq; exact nomatch hq
  | succ n ih => intro h x0 x1 x2 r h' hq; exact l_X2_turn_b2g ih hq

set_option maxRecDepth 100000 in
set_option maxHeartbeats 4000000 in
theorem l_X2_turn {hi : jw_H} {h : jw_H} {x0 : Nat} {x1 : Option Nat} {r : Unit} {h' : jw_H} (hq : f_X2_turn  h x0 x1 = some (r, h')) : jw_E 1 uX2_turn hi 0 [some (.ref x0), some (va_rf x1), none, none, none, none] [] h (.inl none) h' := by
  unfold f_X2_turn at hq
  refine jw_iconst dX2_turn_0 (v := (0 : Int32)) (by decide) ?_
  refine jw_istore_n (L' := [some (.ref x0), some (va_rf x1), some (.int (0 : Int32)), none, none, none]) dX2_turn_1 (Nat.le_of_ble_eq_true rfl) ((jw_st1_of (j := 1) jw_long_rf).trans rfl) ?_
  exact l_X2_turn_b2  jw_FU _ _ _ _ _ _ hq

theorem c_X2_turn {h : jw_H} {x0 : Nat} {x1 : Option Nat} {r : Unit} {h' : jw_H} (hq : f_X2_turn h x0 x1 = some (r, h')) : jw_Con (Cond.code yX2_turn cX2_turn 6 none) yX2_turn 1 [.ref x0, va_rf x1] h (.inl none) h' :=
  jw_con false (plainFor_of_name (by decide +kernel)) (fun z => nomatch z) (by simp [jw_ent, jw_sl0_nil, jw_sl0_int, jw_sl0_long, jw_sl0_ref, jw_sl0_rf, jw_sl0_scr, List.replicate]) (by simp [jw_sl0_nil, jw_sl0_int, jw_sl0_long, jw_sl0_ref, jw_sl0_rf, jw_sl0_scr]) (l_X2_turn hq)


/-! X2_shiftBehind -/
noncomputable def g_X2_shiftBehind_b2 (k2 : jw_H → Nat → Int32 → Int32 → Option (Unit × jw_H)) (h : jw_H) (x0 : Nat) (x1 : Int32) (x2 : Int32) : Option (Unit × jw_H) :=
 if x1 ≤ x2 then ((jw_gR h 2 (some x0) 1).bind fun v2 =>
 (jw_gI h 4 v2 5).bind fun v3 =>
 (jw_rc h 2 (some x0)).bind fun a4 =>
 jw_b2 (f_X2_appendRow h a4 (0 : Int32) v3) fun w6 h5 =>
 some ((), h5))
 else ((jw_rc h 2 (some x0)).bind fun a7 =>
 jw_b2 (f_X2_append h a7 (32 : Int32)) fun w9 h8 =>
 k2 h8 x0 x1 (x2 + (1 : Int32)))

noncomputable def f_X2_shiftBehind_b2 (n : Nat) : jw_H → Nat → Int32 → Int32 → Option (Unit × jw_H) :=
 Nat.rec (fun _ _ _ _ => none) (fun _ k2 => g_X2_shiftBehind_b2 k2) n

noncomputable def f_X2_shiftBehind (h : jw_H) (x0 : Nat) (x1 : Int32) : Option (Unit × jw_H) :=
 f_X2_shiftBehind_b2  jw_FU h x0 x1 (0 : Int32)

set_option maxRecDepth 100000 in
set_option maxHeartbeats 4000000 in
theorem l_X2_shiftBehind_b2g {hi : jw_H} {k2 : jw_H → Nat → Int32 → Int32 → Option (Unit × jw_H)} (hk2 : ∀ (h : jw_H) (x0 : Nat) (x1 : Int32) (x2 : Int32) (r : Unit) (h' : jw_H), k2 h x0 x1 x2 = some (r, h') → jw_E 2 uX2_shiftBehind hi 2 [some (.ref x0), some (.int x1), some (.int x2)] [] h (.inl none) h') {h : jw_H} {x0 : Nat} {x1 : Int32} {x2 : Int32} {r : Unit} {h' : jw_H} (hq : g_X2_shiftBehind_b2 k2 h x0 x1 x2 = some (r, h')) : jw_E 2 uX2_shiftBehind hi 2 [some (.ref x0), some (.int x1), some (.int x2)] [] h (.inl none) h' := by
  unfold g_X2_shiftBehind_b2 at hq
  refine jw_iload_n dX2_shiftBehind_2 rfl ?_
  refine jw_iload_n dX2_shiftBehind_3 rfl ?_
  rcases jw_if hq with ⟨c1, hq⟩ | ⟨c1, hq⟩
  · refine jw_icmp_ge_t (tgt := 19) dX2_shiftBehind_4 (by decide) c1 ?_
    refine jw_aload_n dX2_shiftBehind_19 (o := (some x0)) rfl ?_
    refine jw_iconst dX2_shiftBehind_20 (v := (0 : Int32)) (by decide) ?_
    refine jw_aload_n dX2_shiftBehind_21 (o := (some x0)) rfl ?_
    obtain ⟨v2, ev2, hq⟩ := Option.bind_eq_some_iff.mp hq
    refine jw_getR (o := (some x0)) dX2_shiftBehind_22 ev2 fl_X2_15 rfl ?_
    obtain ⟨v3, ev3, hq⟩ := Option.bind_eq_some_iff.mp hq
    refine jw_getI (o := v2) dX2_shiftBehind_25 ev3 fl_X2_97 rfl ?_
    obtain ⟨a4, ea4, hq⟩ := Option.bind_eq_some_iff.mp hq
    obtain ⟨eoa4, eta4⟩ := jw_rc_spec ea4
    obtain ⟨w6, h5, ew6, hq⟩ := jw_b2_spec hq
    refine jw_callV (As := [.int (0 : Int32), .int v3]) (S := []) (a := a4) (v := none) dX2_shiftBehind_28 mt_X2_appendRow in_X2_appendRow se_X2_appendRow lk_X2_87 (c_X2_appendRow ew6) eta4 (by decide) rfl rfl (by decide) (Nat.le_of_ble_eq_true rfl) (by cases eoa4; rfl) ?_
    cases hq
    exact jw_vret dX2_shiftBehind_31 rfl
  · refine jw_icmp_ge_f (tgt := 19) dX2_shiftBehind_4 (by decide) c1 ?_
    refine jw_aload_n dX2_shiftBehind_7 (o := (some x0)) rfl ?_
    refine jw_bipush dX2_shiftBehind_8 (v := (32 : Int32)) (by decide) ?_
    obtain ⟨a7, ea7, hq⟩ := Option.bind_eq_some_iff.mp hq
    obtain ⟨eoa7, eta7⟩ := jw_rc_spec ea7
    obtain ⟨w9, h8, ew9, hq⟩ := jw_b2_spec hq
    refine jw_callV (As := [.int (32 : Int32)]) (S := []) (a := a7) (v := none) dX2_shiftBehind_10 mt_X2_append in_X2_append se_X2_append lk_X2_117 (c_X2_append ew9) eta7 (by decide) rfl rfl (by decide) (Nat.le_of_ble_eq_true rfl) (by cases eoa7; rfl) ?_
    refine jw_iinc (L' := [some (.ref x0), some (.int x1), some (.int (x2 + (1 : Int32)))]) dX2_shiftBehind_13 rfl (v := (1 : Int32)) (by decide) (Nat.le_of_ble_eq_true rfl) rfl ?_
    refine jw_goto (tgt := 2) dX2_shiftBehind_16 (by decide) ?_
    exact hk2 _ _ _ _ _ _ hq

theorem l_X2_shiftBehind_b2 {hi : jw_H} : ∀ (n : Nat) (h : jw_H) (x0 : Nat) (x1 : Int32) (x2 : Int32) (r : Unit) (h' : jw_H), f_X2_shiftBehind_b2  n h x0 x1 x2 = some (r, h') → jw_E 2 uX2_shiftBehind hi 2 [some (.ref x0), some (.int x1), some (.int x2)] [] h (.inl none) h' := by
  intro n
  induction n with
  | zero => intro h x0 x1 x2 r h' hq; exact nomatch hq
  | succ n ih => intro h x0 x1 x2 r h' hq; exact l_X2_shiftBehind_b2g ih hq

set_option maxRecDepth 100000 in
set_option maxHeartbeats 4000000 in
theorem l_X2_shiftBehind {hi : jw_H} {h : jw_H} {x0 : Nat} {x1 : Int32} {r : Unit} {h' : jw_H} (hq : f_X2_shiftBehind  h x0 x1 = some (r, h')) : jw_E 2 uX2_shiftBehind hi 0 [some (.ref x0), some (.int x1), none] [] h (.inl none) h' := by
  unfold f_X2_shiftBehind at hq
  refine jw_iconst dX2_shiftBehind_0 (v := (0 : Int32)) (by decide) ?_
  refine jw_istore_n (L' := [some (.ref x0), some (.int x1), some (.int (0 : Int32))]) dX2_shiftBehind_1 (Nat.le_of_ble_eq_true rfl) rfl ?_
  exact l_X2_shiftBehind_b2  jw_FU _ _ _ _ _ _ hq

theorem c_X2_shiftBehind {h : jw_H} {x0 : Nat} {x1 : Int32} {r : Unit} {h' : jw_H} (hq : f_X2_shiftBehind h x0 x1 = some (r, h')) : jw_Con (Cond.code yX2_shiftBehind cX2_shiftBehind 3 none) yX2_shiftBehind 2 [.ref x0, .int x1] h (.inl none) h' :=
  jw_con false (plainFor_of_name (by decide +kernel)) (fun z => nomatch z) (by simp [jw_ent, jw_sl0_nil, jw_sl0_int, jw_sl0_long, jw_sl0_ref, jw_sl0_rf, jw_sl0_scr, List.replicate]) (by simp [jw_sl0_nil, jw_sl0_int, jw_sl0_long, jw_sl0_ref, jw_sl0_rf, jw_sl0_scr]) (l_X2_shiftBehind hq)


/-! X2_shiftAhead -/
noncomputable def g_X2_shiftAhead_b58 (h : jw_H) (x0 : Nat) (x2 : Int32) : Option (Unit × jw_H) :=
 (jw_gR h 2 (some x0) 1).bind fun v1 =>
 (jw_gI h 4 v1 5).bind fun v2 =>
 (jw_rc h 2 (some x0)).bind fun a3 =>
 jw_b2 (f_X2_appendRow h a3 x2 v2) fun w5 h4 =>
 some ((), h4)

noncomputable def g_X2_shiftAhead_b4 (k4 : jw_H → Nat → Int32 → Int32 → Int32 → Option (Unit × jw_H)) (h : jw_H) (x0 : Nat) (x1 : Int32) (x2 : Int32) (x3 : Int32) : Option (Unit × jw_H) :=
 if x1 ≤ x3 then (g_X2_shiftAhead_b58  h x0 x2)
 else ((jw_gR h 2 (some x0) 1).bind fun v2 =>
 (jw_gI h 4 v2 5).bind fun v3 =>
 if v3 ≤ x3 then (g_X2_shiftAhead_b58  h x0 x2)
 else ((jw_gR h 2 (some x0) 1).bind fun v5 =>
 (jw_gR h 4 v5 1).bind fun v6 =>
 (jw_ln h v6).bind fun v7 =>
 if v7 ≤ x3 then (g_X2_shiftAhead_b58  h x0 x2)
 else ((jw_gR h 2 (some x0) 1).bind fun v9 =>
 (jw_gR h 4 v9 1).bind fun v10 =>
 (jw_ai h 21 v10 x3).bind fun v11 =>
 if v11 = (32 : Int32) then (k4 h x0 x1 (x2 + (1 : Int32)) (x3 + (1 : Int32)))
 else (g_X2_shiftAhead_b58  h x0 x2))))

noncomputable def f_X2_shiftAhead_b4 (n : Nat) : jw_H → Nat → Int32 → Int32 → Int32 → Option (Unit × jw_H) :=
 Nat.rec (fun _ _ _ _ _ => none) (fun _ k4 => g_X2_shiftAhead_b4 k4) n

noncomputable def f_X2_shiftAhead (h : jw_H) (x0 : Nat) (x1 : Int32) : Option (Unit × jw_H) :=
 f_X2_shiftAhead_b4  jw_FU h x0 x1 (0 : Int32) (0 : Int32)

set_option maxRecDepth 100000 in
set_option maxHeartbeats 4000000 in
theorem l_X2_shiftAhead_b58 {hi : jw_H} {h : jw_H} {x0 : Nat} {x2 : Int32} {r : Unit} {h' : jw_H} (hq : g_X2_shiftAhead_b58  h x0 x2 = some (r, h')) : jw_E 2 uX2_shiftAhead hi 58 [some (.ref x0), none, some (.int x2), none] [] h (.inl none) h' := by
  unfold g_X2_shiftAhead_b58 at hq
  refine jw_aload_n dX2_shiftAhead_58 (o := (some x0)) rfl ?_
  refine jw_iload_n dX2_shiftAhead_59 rfl ?_
  refine jw_aload_n dX2_shiftAhead_60 (o := (some x0)) rfl ?_
  obtain ⟨v1, ev1, hq⟩ := Option.bind_eq_some_iff.mp hq
  refine jw_getR (o := (some x0)) dX2_shiftAhead_61 ev1 fl_X2_15 rfl ?_
  obtain ⟨v2, ev2, hq⟩ := Option.bind_eq_some_iff.mp hq
  refine jw_getI (o := v1) dX2_shiftAhead_64 ev2 fl_X2_97 rfl ?_
  obtain ⟨a3, ea3, hq⟩ := Option.bind_eq_some_iff.mp hq
  obtain ⟨eoa3, eta3⟩ := jw_rc_spec ea3
  obtain ⟨w5, h4, ew5, hq⟩ := jw_b2_spec hq
  refine jw_callV (As := [.int x2, .int v2]) (S := []) (a := a3) (v := none) dX2_shiftAhead_67 mt_X2_appendRow in_X2_appendRow se_X2_appendRow lk_X2_87 (c_X2_appendRow ew5) eta3 (by decide) rfl rfl (by decide) (Nat.le_of_ble_eq_true rfl) (by cases eoa3; rfl) ?_
  cases hq
  exact jw_vret dX2_shiftAhead_70 rfl

set_option maxRecDepth 100000 in
set_option maxHeartbeats 4000000 in
theorem l_X2_shiftAhead_b4g {hi : jw_H} {k4 : jw_H → Nat → Int32 → Int32 → Int32 → Option (Unit × jw_H)} (hk4 : ∀ (h : jw_H) (x0 : Nat) (x1 : Int32) (x2 : Int32) (x3 : Int32) (r : Unit) (h' : jw_H), k4 h x0 x1 x2 x3 = some (r, h') → jw_E 2 uX2_shiftAhead hi 4 [some (.ref x0), some (.int x1), some (.int x2), some (.int x3)] [] h (.inl none) h') {h : jw_H} {x0 : Nat} {x1 : Int32} {x2 : Int32} {x3 : Int32} {r : Unit} {h' : jw_H} (hq : g_X2_shiftAhead_b4 k4 h x0 x1 x2 x3 = some (r, h')) : jw_E 2 uX2_shiftAhead hi 4 [some (.ref x0), some (.int x1), some (.int x2), some (.int x3)] [] h (.inl none) h' := by
  unfold g_X2_shiftAhead_b4 at hq
  refine jw_iload_n dX2_shiftAhead_4 rfl ?_
  refine jw_iload_n dX2_shiftAhead_5 rfl ?_
  rcases jw_if hq with ⟨c1, hq⟩ | ⟨c1, hq⟩
  · refine jw_icmp_ge_t (tgt := 58) dX2_shiftAhead_6 (by decide) c1 ?_
    refine jw_forget [true, false, true, false] (L' := [some (.ref x0), none, some (.int x2), none]) rfl ?_
    exact l_X2_shiftAhead_b58  hq
  · refine jw_icmp_ge_f (tgt := 58) dX2_shiftAhead_6 (by decide) c1 ?_
    refine jw_iload_n dX2_shiftAhead_9 rfl ?_
    refine jw_aload_n dX2_shiftAhead_10 (o := (some x0)) rfl ?_
    obtain ⟨v2, ev2, hq⟩ := Option.bind_eq_some_iff.mp hq
    refine jw_getR (o := (some x0)) dX2_shiftAhead_11 ev2 fl_X2_15 rfl ?_
    obtain ⟨v3, ev3, hq⟩ := Option.bind_eq_some_iff.mp hq
    refine jw_getI (o := v2) dX2_shiftAhead_14 ev3 fl_X2_97 rfl ?_
    rcases jw_if hq with ⟨c4, hq⟩ | ⟨c4, hq⟩
    · refine jw_icmp_ge_t (tgt := 58) dX2_shiftAhead_17 (by decide) c4 ?_
      refine jw_forget [true, false, true, false] (L' := [some (.ref x0), none, some (.int x2), none]) rfl ?_
      exact l_X2_shiftAhead_b58  hq
    · refine jw_icmp_ge_f (tgt := 58) dX2_shiftAhead_17 (by decide) c4 ?_
      refine jw_iload_n dX2_shiftAhead_20 rfl ?_
      refine jw_aload_n dX2_shiftAhead_21 (o := (some x0)) rfl ?_
      obtain ⟨v5, ev5, hq⟩ := Option.bind_eq_some_iff.mp hq
      refine jw_getR (o := (some x0)) dX2_shiftAhead_22 ev5 fl_X2_15 rfl ?_
      obtain ⟨v6, ev6, hq⟩ := Option.bind_eq_some_iff.mp hq
      refine jw_getR (o := v5) dX2_shiftAhead_25 ev6 fl_X2_65 rfl ?_
      obtain ⟨v7, ev7, hq⟩ := Option.bind_eq_some_iff.mp hq
      refine jw_alen (o := v6) dX2_shiftAhead_28 ev7 ?_
      rcases jw_if hq with ⟨c8, hq⟩ | ⟨c8, hq⟩
      · refine jw_icmp_ge_t (tgt := 58) dX2_shiftAhead_29 (by decide) c8 ?_
        refine jw_forget [true, false, true, false] (L' := [some (.ref x0), none, some (.int x2), none]) rfl ?_
        exact l_X2_shiftAhead_b58  hq
      · refine jw_icmp_ge_f (tgt := 58) dX2_shiftAhead_29 (by decide) c8 ?_
        refine jw_aload_n dX2_shiftAhead_32 (o := (some x0)) rfl ?_
        obtain ⟨v9, ev9, hq⟩ := Option.bind_eq_some_iff.mp hq
        refine jw_getR (o := (some x0)) dX2_shiftAhead_33 ev9 fl_X2_15 rfl ?_
        obtain ⟨v10, ev10, hq⟩ := Option.bind_eq_some_iff.mp hq
        refine jw_getR (o := v9) dX2_shiftAhead_36 ev10 fl_X2_65 rfl ?_
        refine jw_iload_n dX2_shiftAhead_39 rfl ?_
        obtain ⟨v11, ev11, hq⟩ := Option.bind_eq_some_iff.mp hq
        refine jw_bald (o := v10) dX2_shiftAhead_40 ev11 ?_
        refine jw_bipush dX2_shiftAhead_41 (v := (32 : Int32)) (by decide) ?_
        rcases jw_if hq with ⟨c12, hq⟩ | ⟨c12, hq⟩
        · refine jw_icmp_eq_t (tgt := 49) dX2_shiftAhead_43 (by decide) c12 ?_
          refine jw_iinc (L' := [some (.ref x0), some (.int x1), some (.int (x2 + (1 : Int32))), some (.int x3)]) dX2_shiftAhead_49 rfl (v := (1 : Int32)) (by decide) (Nat.le_of_ble_eq_true rfl) rfl ?_
          refine jw_iinc (L' := [some (.ref x0), some (.int x1), some (.int (x2 + (1 : Int32))), some (.int (x3 + (1 : Int32)))]) dX2_shiftAhead_52 rfl (v := (1 : Int32)) (by decide) (Nat.le_of_ble_eq_true rfl) rfl ?_
          refine jw_goto (tgt := 4) dX2_shiftAhead_55 (by decide) ?_
          exact hk4 _ _ _ _ _ _ _ hq
        · refine jw_icmp_eq_f (tgt := 49) dX2_shiftAhead_43 (by decide) c12 ?_
          refine jw_goto (tgt := 58) dX2_shiftAhead_46 (by decide) ?_
          refine jw_forget [true, false, true, false] (L' := [some (.ref x0), none, some (.int x2), none]) rfl ?_
          exact l_X2_shiftAhead_b58  hq

theorem l_X2_shiftAhead_b4 {hi : jw_H} : ∀ (n : Nat) (h : jw_H) (x0 : Nat) (x1 : Int32) (x2 : Int32) (x3 : Int32) (r : Unit) (h' : jw_H), f_X2_shiftAhead_b4  n h x0 x1 x2 x3 = some (r, h') → jw_E 2 uX2_shiftAhead hi 4 [some (.ref x0), some (.int x1), some (.int x2), some (.int x3)] [] h (.inl none) h' := by
  intro n
  induction n with
  | zero => intro h x0 x1 x2 x3 r h' hq; exact nomatch hq
  | succ n ih => intro h x0 x1 x2 x3 r h' hq; exact l_X2_shiftAhead_b4g ih hq

set_option maxRecDepth 100000 in
set_option maxHeartbeats 4000000 in
theorem l_X2_shiftAhead {hi : jw_H} {h : jw_H} {x0 : Nat} {x1 : Int32} {r : Unit} {h' : jw_H} (hq : f_X2_shiftAhead  h x0 x1 = some (r, h')) : jw_E 2 uX2_shiftAhead hi 0 [some (.ref x0), some (.int x1), none, none] [] h (.inl none) h' := by
  unfold f_X2_shiftAhead at hq
  refine jw_iconst dX2_shiftAhead_0 (v := (0 : Int32)) (by decide) ?_
  refine jw_istore_n (L' := [some (.ref x0), some (.int x1), some (.int (0 : Int32)), none]) dX2_shiftAhead_1 (Nat.le_of_ble_eq_true rfl) rfl ?_
  refine jw_iconst dX2_shiftAhead_2 (v := (0 : Int32)) (by decide) ?_
  refine jw_istore_n (L' := [some (.ref x0), some (.int x1), some (.int (0 : Int32)), some (.int (0 : Int32))]) dX2_shiftAhead_3 (Nat.le_of_ble_eq_true rfl) rfl ?_
  exact l_X2_shiftAhead_b4  jw_FU _ _ _ _ _ _ _ hq

theorem c_X2_shiftAhead {h : jw_H} {x0 : Nat} {x1 : Int32} {r : Unit} {h' : jw_H} (hq : f_X2_shiftAhead h x0 x1 = some (r, h')) : jw_Con (Cond.code yX2_shiftAhead cX2_shiftAhead 4 none) yX2_shiftAhead 2 [.ref x0, .int x1] h (.inl none) h' :=
  jw_con false (plainFor_of_name (by decide +kernel)) (fun z => nomatch z) (by simp [jw_ent, jw_sl0_nil, jw_sl0_int, jw_sl0_long, jw_sl0_ref, jw_sl0_rf, jw_sl0_scr, List.replicate]) (by simp [jw_sl0_nil, jw_sl0_int, jw_sl0_long, jw_sl0_ref, jw_sl0_rf, jw_sl0_scr]) (l_X2_shiftAhead hq)


/-! X7_write -/
noncomputable def f_X7_write (h : jw_H) (x0 : Nat) (x1 : Int32) (x2 : Option Nat) (x3 : Int32) (x4 : Int32) : Option (Unit × jw_H) :=
 if x1 < (1 : Int32) then (some ((), h))
 else ((jw_gI h 7 (some x0) 2).bind fun v2 =>
 if v2 < x1 then (some ((), h))
 else ((jw_gR h 7 (some x0) 0).bind fun v4 =>
 (jw_ln h v4).bind fun v5 =>
 if x1 ≤ v5 then (if x4 < 0 then (some ((), h))
 else (if (30 : Int32) < x4 then (some ((), h))
 else (if x3 < 0 then (some ((), h))
 else ((jw_ln h x2).bind fun v10 =>
 if x3 ≤ (v10 - x4) then ((jw_gR h 7 (some x0) 1).bind fun v12 =>
 (jw_cp h 21 x2 x3 v12 ((x1 - (1 : Int32)) * (30 : Int32)) x4).bind fun h13 =>
 (jw_gR h13 7 (some x0) 0).bind fun v14 =>
 (jw_si h13 20 v14 (x1 - (1 : Int32)) x4).bind fun h15 =>
 some ((), h15))
 else (some ((), h))))))
 else (some ((), h))))

set_option maxRecDepth 100000 in
set_option maxHeartbeats 4000000 in
theorem l_X7_write {hi : jw_H} {h : jw_H} {x0 : Nat} {x1 : Int32} {x2 : Option Nat} {x3 : Int32} {x4 : Int32} {r : Unit} {h' : jw_H} (hq : f_X7_write  h x0 x1 x2 x3 x4 = some (r, h')) : jw_E 1 uX7_write hi 0 [some (.ref x0), some (.int x1), some (va_rf x2), some (.int x3), some (.int x4)] [] h (.inl none) h' := by
  unfold f_X7_write at hq
  refine jw_iload_n dX7_write_0 rfl ?_
  refine jw_iconst dX7_write_1 (v := (1 : Int32)) (by decide) ?_
  rcases jw_if hq with ⟨c1, hq⟩ | ⟨c1, hq⟩
  · refine jw_icmp_lt_t (tgt := 22) dX7_write_2 (by decide) c1 ?_
    cases hq
    exact jw_vret dX7_write_22 rfl
  · refine jw_icmp_lt_f (tgt := 22) dX7_write_2 (by decide) c1 ?_
    refine jw_iload_n dX7_write_5 rfl ?_
    refine jw_aload_n dX7_write_6 (o := (some x0)) rfl ?_
    obtain ⟨v2, ev2, hq⟩ := Option.bind_eq_some_iff.mp hq
    refine jw_getI (o := (some x0)) dX7_write_7 ev2 fl_X7_25 rfl ?_
    rcases jw_if hq with ⟨c3, hq⟩ | ⟨c3, hq⟩
    · refine jw_icmp_gt_t (tgt := 22) dX7_write_10 (by decide) c3 ?_
      cases hq
      exact jw_vret dX7_write_22 rfl
    · refine jw_icmp_gt_f (tgt := 22) dX7_write_10 (by decide) c3 ?_
      refine jw_iload_n dX7_write_13 rfl ?_
      refine jw_aload_n dX7_write_14 (o := (some x0)) rfl ?_
      obtain ⟨v4, ev4, hq⟩ := Option.bind_eq_some_iff.mp hq
      refine jw_getR (o := (some x0)) dX7_write_15 ev4 fl_X7_15 rfl ?_
      obtain ⟨v5, ev5, hq⟩ := Option.bind_eq_some_iff.mp hq
      refine jw_alen (o := v4) dX7_write_18 ev5 ?_
      rcases jw_if hq with ⟨c6, hq⟩ | ⟨c6, hq⟩
      · refine jw_icmp_le_t (tgt := 23) dX7_write_19 (by decide) c6 ?_
        refine jw_iload dX7_write_23 rfl ?_
        rcases jw_if hq with ⟨c7, hq⟩ | ⟨c7, hq⟩
        · refine jw_if_lt_t (tgt := 48) dX7_write_25 (by decide) c7 ?_
          cases hq
          exact jw_vret dX7_write_48 rfl
        · refine jw_if_lt_f (tgt := 48) dX7_write_25 (by decide) c7 ?_
          refine jw_iload dX7_write_28 rfl ?_
          refine jw_bipush dX7_write_30 (v := (30 : Int32)) (by decide) ?_
          rcases jw_if hq with ⟨c8, hq⟩ | ⟨c8, hq⟩
          · refine jw_icmp_gt_t (tgt := 48) dX7_write_32 (by decide) c8 ?_
            cases hq
            exact jw_vret dX7_write_48 rfl
          · refine jw_icmp_gt_f (tgt := 48) dX7_write_32 (by decide) c8 ?_
            refine jw_iload_n dX7_write_35 rfl ?_
            rcases jw_if hq with ⟨c9, hq⟩ | ⟨c9, hq⟩
            · refine jw_if_lt_t (tgt := 48) dX7_write_36 (by decide) c9 ?_
              cases hq
              exact jw_vret dX7_write_48 rfl
            · refine jw_if_lt_f (tgt := 48) dX7_write_36 (by decide) c9 ?_
              refine jw_iload_n dX7_write_39 rfl ?_
              refine jw_aload_n dX7_write_40 (o := x2) rfl ?_
              obtain ⟨v10, ev10, hq⟩ := Option.bind_eq_some_iff.mp hq
              refine jw_alen (o := x2) dX7_write_41 ev10 ?_
              refine jw_iload dX7_write_42 rfl ?_
              refine jw_isub dX7_write_44 ?_
              rcases jw_if hq with ⟨c11, hq⟩ | ⟨c11, hq⟩
              · refine jw_icmp_le_t (tgt := 49) dX7_write_45 (by decide) c11 ?_
                refine jw_aload_n dX7_write_49 (o := x2) rfl ?_
                refine jw_iload_n dX7_write_50 rfl ?_
                refine jw_aload_n dX7_write_51 (o := (some x0)) rfl ?_
                obtain ⟨v12, ev12, hq⟩ := Option.bind_eq_some_iff.mp hq
                refine jw_getR (o := (some x0)) dX7_write_52 ev12 fl_X7_21 rfl ?_
                refine jw_iload_n dX7_write_55 rfl ?_
                refine jw_iconst dX7_write_56 (v := (1 : Int32)) (by decide) ?_
                refine jw_isub dX7_write_57 ?_
                refine jw_bipush dX7_write_58 (v := (30 : Int32)) (by decide) ?_
                refine jw_imul dX7_write_60 ?_
                refine jw_iload dX7_write_61 rfl ?_
                obtain ⟨h13, eh13, hq⟩ := Option.bind_eq_some_iff.mp hq
                refine jw_acp (o1 := x2) (o2 := v12) (t := 21) dX7_write_63 (by decide) al_X7_32 an_0 as_0 ai_0 (by decide) (Nat.le_of_ble_eq_true rfl) eh13 ?_
                refine jw_aload_n dX7_write_66 (o := (some x0)) rfl ?_
                obtain ⟨v14, ev14, hq⟩ := Option.bind_eq_some_iff.mp hq
                refine jw_getR (o := (some x0)) dX7_write_67 ev14 fl_X7_15 rfl ?_
                refine jw_iload_n dX7_write_70 rfl ?_
                refine jw_iconst dX7_write_71 (v := (1 : Int32)) (by decide) ?_
                refine jw_isub dX7_write_72 ?_
                refine jw_iload dX7_write_73 rfl ?_
                obtain ⟨h15, eh15, hq⟩ := Option.bind_eq_some_iff.mp hq
                refine jw_iast (o := v14) dX7_write_75 eh15 ?_
                cases hq
                exact jw_vret dX7_write_76 rfl
              · refine jw_icmp_le_f (tgt := 49) dX7_write_45 (by decide) c11 ?_
                cases hq
                exact jw_vret dX7_write_48 rfl
      · refine jw_icmp_le_f (tgt := 23) dX7_write_19 (by decide) c6 ?_
        cases hq
        exact jw_vret dX7_write_22 rfl

theorem c_X7_write {h : jw_H} {x0 : Nat} {x1 : Int32} {x2 : Option Nat} {x3 : Int32} {x4 : Int32} {r : Unit} {h' : jw_H} (hq : f_X7_write h x0 x1 x2 x3 x4 = some (r, h')) : jw_Con (Cond.code yX7_write cX7_write 5 none) yX7_write 1 [.ref x0, .int x1, va_rf x2, .int x3, .int x4] h (.inl none) h' :=
  jw_con false (plainFor_of_name (by decide +kernel)) (fun z => nomatch z) (by simp [jw_ent, jw_sl0_nil, jw_sl0_int, jw_sl0_long, jw_sl0_ref, jw_sl0_rf, jw_sl0_scr, List.replicate]) (by simp [jw_sl0_nil, jw_sl0_int, jw_sl0_long, jw_sl0_ref, jw_sl0_rf, jw_sl0_scr]) (l_X7_write hq)


/-! X2_change -/
noncomputable def g_X2_change_b103 (k3 : jw_H → Nat → Option Nat → Option Nat → Int32 → Int32 → Option (Int32 × jw_H)) (h : jw_H) (x0 : Nat) (x1 : Option Nat) (x2 : Option Nat) (x4 : Int32) (x5 : Int32) : Option (Int32 × jw_H) :=
 (jw_gI h 2 (some x0) 4).bind fun v1 =>
 if v1 = 0 then ((jw_gR h 2 (some x0) 2).bind fun v3 =>
 (jw_gI h 2 (some x0) 3).bind fun v4 =>
 (jw_rc h 7 x2).bind fun a5 =>
 jw_b2 (f_X7_write h a5 x5 v3 (0 : Int32) v4) fun w7 h6 =>
 k3 h6 x0 x1 x2 x4 (x5 + (1 : Int32)))
 else (some ((4 : Int32), h))

noncomputable def g_X2_change_b3 (k3 : jw_H → Nat → Option Nat → Option Nat → Int32 → Int32 → Option (Int32 × jw_H)) (h : jw_H) (x0 : Nat) (x1 : Option Nat) (x2 : Option Nat) (x4 : Int32) (x5 : Int32) : Option (Int32 × jw_H) :=
 if x4 < x5 then (some ((0 : Int32), h))
 else ((jw_pI h 2 (some x0) 3 (0 : Int32)).bind fun h2 =>
 (jw_pB h2 2 (some x0) 4 (0 : Int32)).bind fun h3 =>
 (jw_gR h3 2 (some x0) 1).bind fun v4 =>
 (jw_rc h3 4 v4).bind fun a5 =>
 jw_b2 (f_X4_load h3 a5 x2 x5) fun w7 h6 =>
 (jw_gI h6 5 x1 3).bind fun v8 =>
 if v8 = (62 : Int32) then ((jw_gI h6 5 x1 5).bind fun v10 =>
 (jw_rc h6 2 (some x0)).bind fun a11 =>
 jw_b2 (f_X2_shiftBehind h6 a11 v10) fun w13 h12 =>
 g_X2_change_b103 k3 h12 x0 x1 x2 x4 x5)
 else (if v8 = (115 : Int32) then ((jw_rc h6 2 (some x0)).bind fun a15 =>
 jw_b2 (f_X2_replace h6 a15 x1) fun w17 h16 =>
 g_X2_change_b103 k3 h16 x0 x1 x2 x4 x5)
 else (if v8 = (122 : Int32) then ((jw_rc h6 2 (some x0)).bind fun a19 =>
 jw_b2 (f_X2_turn h6 a19 x1) fun w21 h20 =>
 g_X2_change_b103 k3 h20 x0 x1 x2 x4 x5)
 else ((jw_gI h6 5 x1 5).bind fun v22 =>
 (jw_rc h6 2 (some x0)).bind fun a23 =>
 jw_b2 (f_X2_shiftAhead h6 a23 v22) fun w25 h24 =>
 g_X2_change_b103 k3 h24 x0 x1 x2 x4 x5))))

noncomputable def f_X2_change_b3 (n : Nat) : jw_H → Nat → Option Nat → Option Nat → Int32 → Int32 → Option (Int32 × jw_H) :=
 Nat.rec (fun _ _ _ _ _ _ => none) (fun _ k3 => g_X2_change_b3 k3) n

noncomputable def f_X2_change (h : jw_H) (x0 : Nat) (x1 : Option Nat) (x2 : Option Nat) (x3 : Int32) (x4 : Int32) : Option (Int32 × jw_H) :=
 f_X2_change_b3  jw_FU h x0 x1 x2 x4 x3

set_option maxRecDepth 100000 in
set_option maxHeartbeats 4000000 in
theorem l_X2_change_b103 {hi : jw_H} {k3 : jw_H → Nat → Option Nat → Option Nat → Int32 → Int32 → Option (Int32 × jw_H)} (hk3 : ∀ (h : jw_H) (x0 : Nat) (x1 : Option Nat) (x2 : Option Nat) (x4 : Int32) (x5 : Int32) (r : Int32) (h' : jw_H), k3 h x0 x1 x2 x4 x5 = some (r, h') → jw_E 9 uX2_change hi 3 [some (.ref x0), some (va_rf x1), some (va_rf x2), none, some (.int x4), some (.int x5)] [] h (.inl (some (.int r))) h') {h : jw_H} {x0 : Nat} {x1 : Option Nat} {x2 : Option Nat} {x4 : Int32} {x5 : Int32} {r : Int32} {h' : jw_H} (hq : g_X2_change_b103 k3 h x0 x1 x2 x4 x5 = some (r, h')) : jw_E 9 uX2_change hi 103 [some (.ref x0), some (va_rf x1), some (va_rf x2), none, some (.int x4), some (.int x5)] [] h (.inl (some (.int r))) h' := by
  unfold g_X2_change_b103 at hq
  refine jw_aload_n dX2_change_103 (o := (some x0)) rfl ?_
  obtain ⟨v1, ev1, hq⟩ := Option.bind_eq_some_iff.mp hq
  refine jw_getI (o := (some x0)) dX2_change_104 ev1 fl_X2_27 rfl ?_
  rcases jw_if hq with ⟨c2, hq⟩ | ⟨c2, hq⟩
  · refine jw_if_eq_t (tgt := 112) dX2_change_107 (by decide) c2 ?_
    refine jw_aload_n dX2_change_112 (o := x2) rfl ?_
    refine jw_iload dX2_change_113 rfl ?_
    refine jw_aload_n dX2_change_115 (o := (some x0)) rfl ?_
    obtain ⟨v3, ev3, hq⟩ := Option.bind_eq_some_iff.mp hq
    refine jw_getR (o := (some x0)) dX2_change_116 ev3 fl_X2_19 rfl ?_
    refine jw_iconst dX2_change_119 (v := (0 : Int32)) (by decide) ?_
    refine jw_aload_n dX2_change_120 (o := (some x0)) rfl ?_
    obtain ⟨v4, ev4, hq⟩ := Option.bind_eq_some_iff.mp hq
    refine jw_getI (o := (some x0)) dX2_change_121 ev4 fl_X2_23 rfl ?_
    obtain ⟨a5, ea5, hq⟩ := Option.bind_eq_some_iff.mp hq
    obtain ⟨eoa5, eta5⟩ := jw_rc_spec ea5
    obtain ⟨w7, h6, ew7, hq⟩ := jw_b2_spec hq
    refine jw_callV (As := [.int x5, va_rf v3, .int (0 : Int32), .int v4]) (S := []) (a := a5) (v := none) dX2_change_124 mt_X7_write in_X7_write se_X7_write lk_X2_59 (c_X7_write ew7) eta5 (by decide) rfl rfl (by decide) (Nat.le_of_ble_eq_true rfl) (by cases eoa5; rfl) ?_
    refine jw_iinc (L' := [some (.ref x0), some (va_rf x1), some (va_rf x2), none, some (.int x4), some (.int (x5 + (1 : Int32)))]) dX2_change_127 rfl (v := (1 : Int32)) (by decide) (Nat.le_of_ble_eq_true rfl) rfl ?_
    refine jw_goto (tgt := 3) dX2_change_130 (by decide) ?_
    exact hk3 _ _ _ _ _ _ _ _ hq
  · refine jw_if_eq_f (tgt := 112) dX2_change_107 (by decide) c2 ?_
    refine jw_iconst dX2_change_110 (v := (4 : Int32)) (by decide) ?_
    cases hq
    exact jw_iret (ty := .int) dX2_change_111 rfl rfl

set_option maxRecDepth 100000 in
set_option maxHeartbeats 4000000 in
theorem l_X2_change_b3g {hi : jw_H} {k3 : jw_H → Nat → Option Nat → Option Nat → Int32 → Int32 → Option (Int32 × jw_H)} (hk3 : ∀ (h : jw_H) (x0 : Nat) (x1 : Option Nat) (x2 : Option Nat) (x4 : Int32) (x5 : Int32) (r : Int32) (h' : jw_H), k3 h x0 x1 x2 x4 x5 = some (r, h') → jw_E 9 uX2_change hi 3 [some (.ref x0), some (va_rf x1), some (va_rf x2), none, some (.int x4), some (.int x5)] [] h (.inl (some (.int r))) h') {h : jw_H} {x0 : Nat} {x1 : Option Nat} {x2 : Option Nat} {x4 : Int32} {x5 : Int32} {r : Int32} {h' : jw_H} (hq : g_X2_change_b3 k3 h x0 x1 x2 x4 x5 = some (r, h')) : jw_E 9 uX2_change hi 3 [some (.ref x0), some (va_rf x1), some (va_rf x2), none, some (.int x4), some (.int x5)] [] h (.inl (some (.int r))) h' := by
  unfold g_X2_change_b3 at hq
  refine jw_iload dX2_change_3 rfl ?_
  refine jw_iload dX2_change_5 rfl ?_
  rcases jw_if hq with ⟨c1, hq⟩ | ⟨c1, hq⟩
  · refine jw_icmp_gt_t (tgt := 133) dX2_change_7 (by decide) c1 ?_
    refine jw_iconst dX2_change_133 (v := (0 : Int32)) (by decide) ?_
    cases hq
    exact jw_iret (ty := .int) dX2_change_134 rfl rfl
  · refine jw_icmp_gt_f (tgt := 133) dX2_change_7 (by decide) c1 ?_
    refine jw_aload_n dX2_change_10 (o := (some x0)) rfl ?_
    refine jw_iconst dX2_change_11 (v := (0 : Int32)) (by decide) ?_
    obtain ⟨h2, eh2, hq⟩ := Option.bind_eq_some_iff.mp hq
    refine jw_putI (o := (some x0)) dX2_change_12 eh2 fl_X2_23 rfl rfl ?_
    refine jw_aload_n dX2_change_15 (o := (some x0)) rfl ?_
    refine jw_iconst dX2_change_16 (v := (0 : Int32)) (by decide) ?_
    obtain ⟨h3, eh3, hq⟩ := Option.bind_eq_some_iff.mp hq
    refine jw_putB (o := (some x0)) dX2_change_17 eh3 fl_X2_27 rfl rfl ?_
    refine jw_aload_n dX2_change_20 (o := (some x0)) rfl ?_
    obtain ⟨v4, ev4, hq⟩ := Option.bind_eq_some_iff.mp hq
    refine jw_getR (o := (some x0)) dX2_change_21 ev4 fl_X2_15 rfl ?_
    refine jw_aload_n dX2_change_24 (o := x2) rfl ?_
    refine jw_iload dX2_change_25 rfl ?_
    obtain ⟨a5, ea5, hq⟩ := Option.bind_eq_some_iff.mp hq
    obtain ⟨eoa5, eta5⟩ := jw_rc_spec ea5
    obtain ⟨w7, h6, ew7, hq⟩ := jw_b2_spec hq
    refine jw_callV (As := [va_rf x2, .int x5]) (S := []) (a := a5) (v := none) dX2_change_27 mt_X4_load in_X4_load se_X4_load lk_X2_31 (c_X4_load ew7) eta5 (by decide) rfl rfl (by decide) (Nat.le_of_ble_eq_true rfl) (by cases eoa5; rfl) ?_
    refine jw_aload_n dX2_change_30 (o := x1) rfl ?_
    obtain ⟨v8, ev8, hq⟩ := Option.bind_eq_some_iff.mp hq
    refine jw_getI (o := x1) dX2_change_31 ev8 fl_X2_37 rfl ?_
    rcases jw_if hq with ⟨c9, hq⟩ | ⟨c9, hq⟩
    · refine jw_lookup (off := 50) (tgt := 84) dX2_change_34 (by decide) (jw_lks (l := [(62, 50), (115, 34), (122, 42)]) (by rw [c9]; rfl)) (by decide) ?_
      refine jw_aload_n dX2_change_84 (o := (some x0)) rfl ?_
      refine jw_aload_n dX2_change_85 (o := x1) rfl ?_
      obtain ⟨v10, ev10, hq⟩ := Option.bind_eq_some_iff.mp hq
      refine jw_getI (o := x1) dX2_change_86 ev10 fl_X2_49 rfl ?_
      obtain ⟨a11, ea11, hq⟩ := Option.bind_eq_some_iff.mp hq
      obtain ⟨eoa11, eta11⟩ := jw_rc_spec ea11
      obtain ⟨w13, h12, ew13, hq⟩ := jw_b2_spec hq
      refine jw_callV (As := [.int v10]) (S := []) (a := a11) (v := none) dX2_change_89 mt_X2_shiftBehind in_X2_shiftBehind se_X2_shiftBehind lk_X2_52 (c_X2_shiftBehind ew13) eta11 (by decide) rfl rfl (by decide) (Nat.le_of_ble_eq_true rfl) (by cases eoa11; rfl) ?_
      refine jw_goto (tgt := 103) dX2_change_92 (by decide) ?_
      exact l_X2_change_b103 hk3 hq
    · rcases jw_if hq with ⟨c14, hq⟩ | ⟨c14, hq⟩
      · refine jw_lookup (off := 34) (tgt := 68) dX2_change_34 (by decide) (jw_lks (l := [(62, 50), (115, 34), (122, 42)]) (by rw [lv_osw (a := 62) c9 rfl]; rw [c14]; rfl)) (by decide) ?_
        refine jw_aload_n dX2_change_68 (o := (some x0)) rfl ?_
        refine jw_aload_n dX2_change_69 (o := x1) rfl ?_
        obtain ⟨a15, ea15, hq⟩ := Option.bind_eq_some_iff.mp hq
        obtain ⟨eoa15, eta15⟩ := jw_rc_spec ea15
        obtain ⟨w17, h16, ew17, hq⟩ := jw_b2_spec hq
        refine jw_callV (As := [va_rf x1]) (S := []) (a := a15) (v := none) dX2_change_70 mt_X2_replace in_X2_replace se_X2_replace lk_X2_42 (c_X2_replace ew17) eta15 (by decide) rfl rfl (by decide) (Nat.le_of_ble_eq_true rfl) (by cases eoa15; rfl) ?_
        refine jw_goto (tgt := 103) dX2_change_73 (by decide) ?_
        exact l_X2_change_b103 hk3 hq
      · rcases jw_if hq with ⟨c18, hq⟩ | ⟨c18, hq⟩
        · refine jw_lookup (off := 42) (tgt := 76) dX2_change_34 (by decide) (jw_lks (l := [(62, 50), (115, 34), (122, 42)]) (by rw [lv_osw (a := 62) c9 rfl]; rw [lv_osw (a := 115) c14 rfl]; rw [c18]; rfl)) (by decide) ?_
          refine jw_aload_n dX2_change_76 (o := (some x0)) rfl ?_
          refine jw_aload_n dX2_change_77 (o := x1) rfl ?_
          obtain ⟨a19, ea19, hq⟩ := Option.bind_eq_some_iff.mp hq
          obtain ⟨eoa19, eta19⟩ := jw_rc_spec ea19
          obtain ⟨w21, h20, ew21, hq⟩ := jw_b2_spec hq
          refine jw_callV (As := [va_rf x1]) (S := []) (a := a19) (v := none) dX2_change_78 mt_X2_turn in_X2_turn se_X2_turn lk_X2_46 (c_X2_turn ew21) eta19 (by decide) rfl rfl (by decide) (Nat.le_of_ble_eq_true rfl) (by cases eoa19; rfl) ?_
          refine jw_goto (tgt := 103) dX2_change_81 (by decide) ?_
          exact l_X2_change_b103 hk3 hq
        · refine jw_lookup (off := 61) (tgt := 95) dX2_change_34 (by decide) (jw_lks (l := [(62, 50), (115, 34), (122, 42)]) (by rw [lv_osw (a := 62) c9 rfl]; rw [lv_osw (a := 115) c14 rfl]; rw [lv_osw (a := 122) c18 rfl]; rfl)) (by decide) ?_
          refine jw_aload_n dX2_change_95 (o := (some x0)) rfl ?_
          refine jw_aload_n dX2_change_96 (o := x1) rfl ?_
          obtain ⟨v22, ev22, hq⟩ := Option.bind_eq_some_iff.mp hq
          refine jw_getI (o := x1) dX2_change_97 ev22 fl_X2_49 rfl ?_
          obtain ⟨a23, ea23, hq⟩ := Option.bind_eq_some_iff.mp hq
          obtain ⟨eoa23, eta23⟩ := jw_rc_spec ea23
          obtain ⟨w25, h24, ew25, hq⟩ := jw_b2_spec hq
          refine jw_callV (As := [.int v22]) (S := []) (a := a23) (v := none) dX2_change_100 mt_X2_shiftAhead in_X2_shiftAhead se_X2_shiftAhead lk_X2_56 (c_X2_shiftAhead ew25) eta23 (by decide) rfl rfl (by decide) (Nat.le_of_ble_eq_true rfl) (by cases eoa23; rfl) ?_
          exact l_X2_change_b103 hk3 hq

theorem l_X2_change_b3 {hi : jw_H} : ∀ (n : Nat) (h : jw_H) (x0 : Nat) (x1 : Option Nat) (x2 : Option Nat) (x4 : Int32) (x5 : Int32) (r : Int32) (h' : jw_H), f_X2_change_b3  n h x0 x1 x2 x4 x5 = some (r, h') → jw_E 9 uX2_change hi 3 [some (.ref x0), some (va_rf x1), some (va_rf x2), none, some (.int x4), some (.int x5)] [] h (.inl (some (.int r))) h' := by
  intro n
  induction n with
  | zero => intro h x0 x1 x2 x4 x5 r h' hq; exact nomatch hq
  | succ n ih => intro h x0 x1 x2 x4 x5 r h' hq; exact l_X2_change_b3g ih hq

set_option maxRecDepth 100000 in
set_option maxHeartbeats 4000000 in
theorem l_X2_change {hi : jw_H} {h : jw_H} {x0 : Nat} {x1 : Option Nat} {x2 : Option Nat} {x3 : Int32} {x4 : Int32} {r : Int32} {h' : jw_H} (hq : f_X2_change  h x0 x1 x2 x3 x4 = some (r, h')) : jw_E 9 uX2_change hi 0 [some (.ref x0), some (va_rf x1), some (va_rf x2), some (.int x3), some (.int x4), none] [] h (.inl (some (.int r))) h' := by
  unfold f_X2_change at hq
  refine jw_iload_n dX2_change_0 rfl ?_
  refine jw_istore (L' := [some (.ref x0), some (va_rf x1), some (va_rf x2), some (.int x3), some (.int x4), some (.int x3)]) dX2_change_1 (Nat.le_of_ble_eq_true rfl) rfl ?_
  refine jw_forget [true, true, true, false, true, true] (L' := [some (.ref x0), some (va_rf x1), some (va_rf x2), none, some (.int x4), some (.int x3)]) rfl ?_
  exact l_X2_change_b3  jw_FU _ _ _ _ _ _ _ _ hq

theorem c_X2_change {h : jw_H} {x0 : Nat} {x1 : Option Nat} {x2 : Option Nat} {x3 : Int32} {x4 : Int32} {r : Int32} {h' : jw_H} (hq : f_X2_change h x0 x1 x2 x3 x4 = some (r, h')) : jw_Con (Cond.code yX2_change cX2_change 6 (some .int)) yX2_change 9 [.ref x0, va_rf x1, va_rf x2, .int x3, .int x4] h (.inl (some (.int r))) h' :=
  jw_con false (plainFor_of_name (by decide +kernel)) (fun z => nomatch z) (by simp [jw_ent, jw_sl0_nil, jw_sl0_int, jw_sl0_long, jw_sl0_ref, jw_sl0_rf, jw_sl0_scr, List.replicate]) (by simp [jw_sl0_nil, jw_sl0_int, jw_sl0_long, jw_sl0_ref, jw_sl0_rf, jw_sl0_scr]) (l_X2_change hq)


/-! X6_rowsOf -/
noncomputable def g_X6_rowsOf_b71 (k16 : jw_H → Nat → Option Nat → Option Nat → Int32 → Int32 → Option (Unit × jw_H)) (h : jw_H) (x0 : Nat) (x1 : Option Nat) (x2 : Option Nat) (x3 : Int32) (x4 : Int32) : Option (Unit × jw_H) :=
 k16 h x0 x1 x2 x3 (x4 + (1 : Int32))

noncomputable def g_X6_rowsOf_b52 (k16 : jw_H → Nat → Option Nat → Option Nat → Int32 → Int32 → Option (Unit × jw_H)) (h : jw_H) (x0 : Nat) (x1 : Option Nat) (x2 : Option Nat) (x3 : Int32) (x4 : Int32) : Option (Unit × jw_H) :=
 (jw_gR h 6 (some x0) 3).bind fun v1 =>
 (jw_rc h 7 x2).bind fun a2 =>
 jw_b2 (f_X7_add h a2 v1 x3 (x4 - x3)) fun w4 h3 =>
 g_X6_rowsOf_b71 k16 h3 x0 x1 x2 (x4 + (1 : Int32)) x4

noncomputable def g_X6_rowsOf_b16 (k16 : jw_H → Nat → Option Nat → Option Nat → Int32 → Int32 → Option (Unit × jw_H)) (h : jw_H) (x0 : Nat) (x1 : Option Nat) (x2 : Option Nat) (x3 : Int32) (x4 : Int32) : Option (Unit × jw_H) :=
 (jw_gI h 5 x1 8).bind fun v1 =>
 if v1 < x4 then (some ((), h))
 else (if (60 : Int32) < x4 then (some ((), h))
 else ((jw_gI h 5 x1 8).bind fun v4 =>
 if x4 = v4 then (g_X6_rowsOf_b52 k16 h x0 x1 x2 x3 x4)
 else ((jw_rc h 6 (some x0)).bind fun a6 =>
 jw_b2 (f_X6_signAt h a6 x4) fun w8 h7 =>
 if w8 = (124 : Int32) then (g_X6_rowsOf_b52 k16 h7 x0 x1 x2 x3 x4)
 else (g_X6_rowsOf_b71 k16 h7 x0 x1 x2 x3 x4))))

noncomputable def f_X6_rowsOf_b16 (n : Nat) : jw_H → Nat → Option Nat → Option Nat → Int32 → Int32 → Option (Unit × jw_H) :=
 Nat.rec (fun _ _ _ _ _ _ => none) (fun _ k16 => g_X6_rowsOf_b16 k16) n

noncomputable def f_X6_rowsOf (h : jw_H) (x0 : Nat) (x1 : Option Nat) (x2 : Option Nat) : Option (Unit × jw_H) :=
 (jw_rc h 7 x2).bind fun a1 =>
 jw_b2 (f_X7_shrink h a1 (0 : Int32)) fun w3 h2 =>
 (jw_gI h2 5 x1 7).bind fun v4 =>
 (jw_gI h2 5 x1 7).bind fun v5 =>
 f_X6_rowsOf_b16  jw_FU h2 x0 x1 x2 v4 v5

set_option maxRecDepth 100000 in
set_option maxHeartbeats 4000000 in
theorem l_X6_rowsOf_b71 {hi : jw_H} {k16 : jw_H → Nat → Option Nat → Option Nat → Int32 → Int32 → Option (Unit × jw_H)} (hk16 : ∀ (h : jw_H) (x0 : Nat) (x1 : Option Nat) (x2 : Option Nat) (x3 : Int32) (x4 : Int32) (r : Unit) (h' : jw_H), k16 h x0 x1 x2 x3 x4 = some (r, h') → jw_E 2 uX6_rowsOf hi 16 [some (.ref x0), some (va_rf x1), some (va_rf x2), some (.int x3), some (.int x4)] [] h (.inl none) h') {h : jw_H} {x0 : Nat} {x1 : Option Nat} {x2 : Option Nat} {x3 : Int32} {x4 : Int32} {r : Unit} {h' : jw_H} (hq : g_X6_rowsOf_b71 k16 h x0 x1 x2 x3 x4 = some (r, h')) : jw_E 2 uX6_rowsOf hi 71 [some (.ref x0), some (va_rf x1), some (va_rf x2), some (.int x3), some (.int x4)] [] h (.inl none) h' := by
  unfold g_X6_rowsOf_b71 at hq
  refine jw_iinc (L' := [some (.ref x0), some (va_rf x1), some (va_rf x2), some (.int x3), some (.int (x4 + (1 : Int32)))]) dX6_rowsOf_71 rfl (v := (1 : Int32)) (by decide) (Nat.le_of_ble_eq_true rfl) rfl ?_
  refine jw_goto (tgt := 16) dX6_rowsOf_74 (by decide) ?_
  exact hk16 _ _ _ _ _ _ _ _ hq

set_option maxRecDepth 100000 in
set_option maxHeartbeats 4000000 in
theorem l_X6_rowsOf_b52 {hi : jw_H} {k16 : jw_H → Nat → Option Nat → Option Nat → Int32 → Int32 → Option (Unit × jw_H)} (hk16 : ∀ (h : jw_H) (x0 : Nat) (x1 : Option Nat) (x2 : Option Nat) (x3 : Int32) (x4 : Int32) (r : Unit) (h' : jw_H), k16 h x0 x1 x2 x3 x4 = some (r, h') → jw_E 2 uX6_rowsOf hi 16 [some (.ref x0), some (va_rf x1), some (va_rf x2), some (.int x3), some (.int x4)] [] h (.inl none) h') {h : jw_H} {x0 : Nat} {x1 : Option Nat} {x2 : Option Nat} {x3 : Int32} {x4 : Int32} {r : Unit} {h' : jw_H} (hq : g_X6_rowsOf_b52 k16 h x0 x1 x2 x3 x4 = some (r, h')) : jw_E 2 uX6_rowsOf hi 52 [some (.ref x0), some (va_rf x1), some (va_rf x2), some (.int x3), some (.int x4)] [] h (.inl none) h' := by
  unfold g_X6_rowsOf_b52 at hq
  refine jw_aload_n dX6_rowsOf_52 (o := x2) rfl ?_
  refine jw_aload_n dX6_rowsOf_53 (o := (some x0)) rfl ?_
  obtain ⟨v1, ev1, hq⟩ := Option.bind_eq_some_iff.mp hq
  refine jw_getR (o := (some x0)) dX6_rowsOf_54 ev1 fl_X6_26 rfl ?_
  refine jw_iload_n dX6_rowsOf_57 rfl ?_
  refine jw_iload dX6_rowsOf_58 rfl ?_
  refine jw_iload_n dX6_rowsOf_60 rfl ?_
  refine jw_isub dX6_rowsOf_61 ?_
  obtain ⟨a2, ea2, hq⟩ := Option.bind_eq_some_iff.mp hq
  obtain ⟨eoa2, eta2⟩ := jw_rc_spec ea2
  obtain ⟨w4, h3, ew4, hq⟩ := jw_b2_spec hq
  refine jw_callV (As := [va_rf v1, .int x3, .int (x4 - x3)]) (S := []) (a := a2) (v := some (.int w4)) dX6_rowsOf_62 mt_X7_add in_X7_add se_X7_add lk_X6_201 (c_X7_add ew4) eta2 (by decide) rfl rfl (by decide) (Nat.le_of_ble_eq_true rfl) (by cases eoa2; rfl) ?_
  refine jw_pop dX6_rowsOf_65 rfl ?_
  refine jw_iload dX6_rowsOf_66 rfl ?_
  refine jw_iconst dX6_rowsOf_68 (v := (1 : Int32)) (by decide) ?_
  refine jw_iadd dX6_rowsOf_69 ?_
  refine jw_istore_n (L' := [some (.ref x0), some (va_rf x1), some (va_rf x2), some (.int (x4 + (1 : Int32))), some (.int x4)]) dX6_rowsOf_70 (Nat.le_of_ble_eq_true rfl) ((jw_st1_of (j := 2) jw_long_rf).trans rfl) ?_
  exact l_X6_rowsOf_b71 hk16 hq

set_option maxRecDepth 100000 in
set_option maxHeartbeats 4000000 in
theorem l_X6_rowsOf_b16g {hi : jw_H} {k16 : jw_H → Nat → Option Nat → Option Nat → Int32 → Int32 → Option (Unit × jw_H)} (hk16 : ∀ (h : jw_H) (x0 : Nat) (x1 : Option Nat) (x2 : Option Nat) (x3 : Int32) (x4 : Int32) (r : Unit) (h' : jw_H), k16 h x0 x1 x2 x3 x4 = some (r, h') → jw_E 2 uX6_rowsOf hi 16 [some (.ref x0), some (va_rf x1), some (va_rf x2), some (.int x3), some (.int x4)] [] h (.inl none) h') {h : jw_H} {x0 : Nat} {x1 : Option Nat} {x2 : Option Nat} {x3 : Int32} {x4 : Int32} {r : Unit} {h' : jw_H} (hq : g_X6_rowsOf_b16 k16 h x0 x1 x2 x3 x4 = some (r, h')) : jw_E 2 uX6_rowsOf hi 16 [some (.ref x0), some (va_rf x1), some (va_rf x2), some (.int x3), some (.int x4)] [] h (.inl none) h' := by
  unfold g_X6_rowsOf_b16 at hq
  refine jw_iload dX6_rowsOf_16 rfl ?_
  refine jw_aload_n dX6_rowsOf_18 (o := x1) rfl ?_
  obtain ⟨v1, ev1, hq⟩ := Option.bind_eq_some_iff.mp hq
  refine jw_getI (o := x1) dX6_rowsOf_19 ev1 fl_X6_162 rfl ?_
  rcases jw_if hq with ⟨c2, hq⟩ | ⟨c2, hq⟩
  · refine jw_icmp_gt_t (tgt := 77) dX6_rowsOf_22 (by decide) c2 ?_
    cases hq
    exact jw_vret dX6_rowsOf_77 rfl
  · refine jw_icmp_gt_f (tgt := 77) dX6_rowsOf_22 (by decide) c2 ?_
    refine jw_iload dX6_rowsOf_25 rfl ?_
    refine jw_bipush dX6_rowsOf_27 (v := (60 : Int32)) (by decide) ?_
    rcases jw_if hq with ⟨c3, hq⟩ | ⟨c3, hq⟩
    · refine jw_icmp_gt_t (tgt := 77) dX6_rowsOf_29 (by decide) c3 ?_
      cases hq
      exact jw_vret dX6_rowsOf_77 rfl
    · refine jw_icmp_gt_f (tgt := 77) dX6_rowsOf_29 (by decide) c3 ?_
      refine jw_iload dX6_rowsOf_32 rfl ?_
      refine jw_aload_n dX6_rowsOf_34 (o := x1) rfl ?_
      obtain ⟨v4, ev4, hq⟩ := Option.bind_eq_some_iff.mp hq
      refine jw_getI (o := x1) dX6_rowsOf_35 ev4 fl_X6_162 rfl ?_
      rcases jw_if hq with ⟨c5, hq⟩ | ⟨c5, hq⟩
      · refine jw_icmp_eq_t (tgt := 52) dX6_rowsOf_38 (by decide) c5 ?_
        exact l_X6_rowsOf_b52 hk16 hq
      · refine jw_icmp_eq_f (tgt := 52) dX6_rowsOf_38 (by decide) c5 ?_
        refine jw_aload_n dX6_rowsOf_41 (o := (some x0)) rfl ?_
        refine jw_iload dX6_rowsOf_42 rfl ?_
        obtain ⟨a6, ea6, hq⟩ := Option.bind_eq_some_iff.mp hq
        obtain ⟨eoa6, eta6⟩ := jw_rc_spec ea6
        obtain ⟨w8, h7, ew8, hq⟩ := jw_b2_spec hq
        refine jw_callV (As := [.int x4]) (S := []) (a := a6) (v := some (.int w8)) dX6_rowsOf_44 mt_X6_signAt in_X6_signAt se_X6_signAt lk_X6_197 (c_X6_signAt ew8) eta6 (by decide) rfl rfl (by decide) (Nat.le_of_ble_eq_true rfl) (by cases eoa6; rfl) ?_
        refine jw_bipush dX6_rowsOf_47 (v := (124 : Int32)) (by decide) ?_
        rcases jw_if hq with ⟨c9, hq⟩ | ⟨c9, hq⟩
        · refine jw_icmp_ne_f (tgt := 71) dX6_rowsOf_49 (by decide) c9 ?_
          exact l_X6_rowsOf_b52 hk16 hq
        · refine jw_icmp_ne_t (tgt := 71) dX6_rowsOf_49 (by decide) c9 ?_
          exact l_X6_rowsOf_b71 hk16 hq

theorem l_X6_rowsOf_b16 {hi : jw_H} : ∀ (n : Nat) (h : jw_H) (x0 : Nat) (x1 : Option Nat) (x2 : Option Nat) (x3 : Int32) (x4 : Int32) (r : Unit) (h' : jw_H), f_X6_rowsOf_b16  n h x0 x1 x2 x3 x4 = some (r, h') → jw_E 2 uX6_rowsOf hi 16 [some (.ref x0), some (va_rf x1), some (va_rf x2), some (.int x3), some (.int x4)] [] h (.inl none) h' := by
  intro n
  induction n with
  | zero => intro h x0 x1 x2 x3 x4 r h' hq; exact nomatch hq
  | succ n ih => intro h x0 x1 x2 x3 x4 r h' hq; exact l_X6_rowsOf_b16g ih hq

set_option maxRecDepth 100000 in
set_option maxHeartbeats 4000000 in
theorem l_X6_rowsOf {hi : jw_H} {h : jw_H} {x0 : Nat} {x1 : Option Nat} {x2 : Option Nat} {r : Unit} {h' : jw_H} (hq : f_X6_rowsOf  h x0 x1 x2 = some (r, h')) : jw_E 2 uX6_rowsOf hi 0 [some (.ref x0), some (va_rf x1), some (va_rf x2), none, none] [] h (.inl none) h' := by
  unfold f_X6_rowsOf at hq
  refine jw_aload_n dX6_rowsOf_0 (o := x2) rfl ?_
  refine jw_iconst dX6_rowsOf_1 (v := (0 : Int32)) (by decide) ?_
  obtain ⟨a1, ea1, hq⟩ := Option.bind_eq_some_iff.mp hq
  obtain ⟨eoa1, eta1⟩ := jw_rc_spec ea1
  obtain ⟨w3, h2, ew3, hq⟩ := jw_b2_spec hq
  refine jw_callV (As := [.int (0 : Int32)]) (S := []) (a := a1) (v := none) dX6_rowsOf_2 mt_X7_shrink in_X7_shrink se_X7_shrink lk_X6_191 (c_X7_shrink ew3) eta1 (by decide) rfl rfl (by decide) (Nat.le_of_ble_eq_true rfl) (by cases eoa1; rfl) ?_
  refine jw_aload_n dX6_rowsOf_5 (o := x1) rfl ?_
  obtain ⟨v4, ev4, hq⟩ := Option.bind_eq_some_iff.mp hq
  refine jw_getI (o := x1) dX6_rowsOf_6 ev4 fl_X6_155 rfl ?_
  refine jw_istore_n (L' := [some (.ref x0), some (va_rf x1), some (va_rf x2), some (.int v4), none]) dX6_rowsOf_9 (Nat.le_of_ble_eq_true rfl) ((jw_st1_of (j := 2) jw_long_rf).trans rfl) ?_
  refine jw_aload_n dX6_rowsOf_10 (o := x1) rfl ?_
  obtain ⟨v5, ev5, hq⟩ := Option.bind_eq_some_iff.mp hq
  refine jw_getI (o := x1) dX6_rowsOf_11 ev5 fl_X6_155 rfl ?_
  refine jw_istore (L' := [some (.ref x0), some (va_rf x1), some (va_rf x2), some (.int v4), some (.int v5)]) dX6_rowsOf_14 (Nat.le_of_ble_eq_true rfl) rfl ?_
  exact l_X6_rowsOf_b16  jw_FU _ _ _ _ _ _ _ _ hq

theorem c_X6_rowsOf {h : jw_H} {x0 : Nat} {x1 : Option Nat} {x2 : Option Nat} {r : Unit} {h' : jw_H} (hq : f_X6_rowsOf h x0 x1 x2 = some (r, h')) : jw_Con (Cond.code yX6_rowsOf cX6_rowsOf 5 none) yX6_rowsOf 2 [.ref x0, va_rf x1, va_rf x2] h (.inl none) h' :=
  jw_con false (plainFor_of_name (by decide +kernel)) (fun z => nomatch z) (by simp [jw_ent, jw_sl0_nil, jw_sl0_int, jw_sl0_long, jw_sl0_ref, jw_sl0_rf, jw_sl0_scr, List.replicate]) (by simp [jw_sl0_nil, jw_sl0_int, jw_sl0_long, jw_sl0_ref, jw_sl0_rf, jw_sl0_scr]) (l_X6_rowsOf hq)


/-! X1_putDue -/
noncomputable def g_X1_putDue_b2 (k2 : jw_H → Nat → Option Nat → Int32 → Option (Unit × jw_H)) (h : jw_H) (x0 : Nat) (x1 : Option Nat) (x2 : Int32) : Option (Unit × jw_H) :=
 if x1 = none then (some ((), h))
 else ((jw_gI h 7 x1 2).bind fun v2 =>
 if v2 < x2 then (some ((), h))
 else ((jw_gR h 1 (some x0) 8).bind fun v4 =>
 (jw_rc h 7 v4).bind fun a5 =>
 jw_b2 (f_X7_addRow h a5 x1 x2) fun w7 h6 =>
 k2 h6 x0 x1 (x2 + (1 : Int32))))

noncomputable def f_X1_putDue_b2 (n : Nat) : jw_H → Nat → Option Nat → Int32 → Option (Unit × jw_H) :=
 Nat.rec (fun _ _ _ _ => none) (fun _ k2 => g_X1_putDue_b2 k2) n

noncomputable def f_X1_putDue (h : jw_H) (x0 : Nat) (x1 : Option Nat) : Option (Unit × jw_H) :=
 f_X1_putDue_b2  jw_FU h x0 x1 (1 : Int32)

set_option maxRecDepth 100000 in
set_option maxHeartbeats 4000000 in
theorem l_X1_putDue_b2g {hi : jw_H} {k2 : jw_H → Nat → Option Nat → Int32 → Option (Unit × jw_H)} (hk2 : ∀ (h : jw_H) (x0 : Nat) (x1 : Option Nat) (x2 : Int32) (r : Unit) (h' : jw_H), k2 h x0 x1 x2 = some (r, h') → jw_E 3 uX1_putDue hi 2 [some (.ref x0), some (va_rf x1), some (.int x2)] [] h (.inl none) h') {h : jw_H} {x0 : Nat} {x1 : Option Nat} {x2 : Int32} {r : Unit} {h' : jw_H} (hq : g_X1_putDue_b2 k2 h x0 x1 x2 = some (r, h')) : jw_E 3 uX1_putDue hi 2 [some (.ref x0), some (va_rf x1), some (.int x2)] [] h (.inl none) h' := by
  unfold g_X1_putDue_b2 at hq
  refine jw_aload_n dX1_putDue_2 (o := x1) rfl ?_
  rcases jw_if hq with ⟨c1, hq⟩ | ⟨c1, hq⟩
  · refine jw_ifnull_t (o := x1) (tgt := 30) dX1_putDue_3 (by decide) c1 ?_
    cases hq
    exact jw_vret dX1_putDue_30 rfl
  · refine jw_ifnull_f (o := x1) dX1_putDue_3 c1 ?_
    refine jw_iload_n dX1_putDue_6 rfl ?_
    refine jw_aload_n dX1_putDue_7 (o := x1) rfl ?_
    obtain ⟨v2, ev2, hq⟩ := Option.bind_eq_some_iff.mp hq
    refine jw_getI (o := x1) dX1_putDue_8 ev2 fl_X1_99 rfl ?_
    rcases jw_if hq with ⟨c3, hq⟩ | ⟨c3, hq⟩
    · refine jw_icmp_gt_t (tgt := 30) dX1_putDue_11 (by decide) c3 ?_
      cases hq
      exact jw_vret dX1_putDue_30 rfl
    · refine jw_icmp_gt_f (tgt := 30) dX1_putDue_11 (by decide) c3 ?_
      refine jw_aload_n dX1_putDue_14 (o := (some x0)) rfl ?_
      obtain ⟨v4, ev4, hq⟩ := Option.bind_eq_some_iff.mp hq
      refine jw_getR (o := (some x0)) dX1_putDue_15 ev4 fl_X1_49 rfl ?_
      refine jw_aload_n dX1_putDue_18 (o := x1) rfl ?_
      refine jw_iload_n dX1_putDue_19 rfl ?_
      obtain ⟨a5, ea5, hq⟩ := Option.bind_eq_some_iff.mp hq
      obtain ⟨eoa5, eta5⟩ := jw_rc_spec ea5
      obtain ⟨w7, h6, ew7, hq⟩ := jw_b2_spec hq
      refine jw_callV (As := [va_rf x1, .int x2]) (S := []) (a := a5) (v := some (.int w7)) dX1_putDue_20 mt_X7_addRow in_X7_addRow se_X7_addRow lk_X1_144 (c_X7_addRow ew7) eta5 (by decide) rfl rfl (by decide) (Nat.le_of_ble_eq_true rfl) (by cases eoa5; rfl) ?_
      refine jw_pop dX1_putDue_23 rfl ?_
      refine jw_iinc (L' := [some (.ref x0), some (va_rf x1), some (.int (x2 + (1 : Int32)))]) dX1_putDue_24 rfl (v := (1 : Int32)) (by decide) (Nat.le_of_ble_eq_true rfl) ((jw_st1_of (j := 1) jw_long_rf).trans rfl) ?_
      refine jw_goto (tgt := 2) dX1_putDue_27 (by decide) ?_
      exact hk2 _ _ _ _ _ _ hq

theorem l_X1_putDue_b2 {hi : jw_H} : ∀ (n : Nat) (h : jw_H) (x0 : Nat) (x1 : Option Nat) (x2 : Int32) (r : Unit) (h' : jw_H), f_X1_putDue_b2  n h x0 x1 x2 = some (r, h') → jw_E 3 uX1_putDue hi 2 [some (.ref x0), some (va_rf x1), some (.int x2)] [] h (.inl none) h' := by
  intro n
  induction n with
  | zero => intro h x0 x1 x2 r h' hq; exact nomatch hq
  | succ n ih => intro h x0 x1 x2 r h' hq; exact l_X1_putDue_b2g ih hq

set_option maxRecDepth 100000 in
set_option maxHeartbeats 4000000 in
theorem l_X1_putDue {hi : jw_H} {h : jw_H} {x0 : Nat} {x1 : Option Nat} {r : Unit} {h' : jw_H} (hq : f_X1_putDue  h x0 x1 = some (r, h')) : jw_E 3 uX1_putDue hi 0 [some (.ref x0), some (va_rf x1), none] [] h (.inl none) h' := by
  unfold f_X1_putDue at hq
  refine jw_iconst dX1_putDue_0 (v := (1 : Int32)) (by decide) ?_
  refine jw_istore_n (L' := [some (.ref x0), some (va_rf x1), some (.int (1 : Int32))]) dX1_putDue_1 (Nat.le_of_ble_eq_true rfl) ((jw_st1_of (j := 1) jw_long_rf).trans rfl) ?_
  exact l_X1_putDue_b2  jw_FU _ _ _ _ _ _ hq

theorem c_X1_putDue {h : jw_H} {x0 : Nat} {x1 : Option Nat} {r : Unit} {h' : jw_H} (hq : f_X1_putDue h x0 x1 = some (r, h')) : jw_Con (Cond.code yX1_putDue cX1_putDue 3 none) yX1_putDue 3 [.ref x0, va_rf x1] h (.inl none) h' :=
  jw_con false (plainFor_of_name (by decide +kernel)) (fun z => nomatch z) (by simp [jw_ent, jw_sl0_nil, jw_sl0_int, jw_sl0_long, jw_sl0_ref, jw_sl0_rf, jw_sl0_scr, List.replicate]) (by simp [jw_sl0_nil, jw_sl0_int, jw_sl0_long, jw_sl0_ref, jw_sl0_rf, jw_sl0_scr]) (l_X1_putDue hq)


/-! X9_append -/
noncomputable def f_X9_append (h : jw_H) (x0 : Nat) (x1 : Option Nat) (x2 : Int32) (x3 : Int32) : Option (Int32 × jw_H) :=
 (jw_gR h 9 (some x0) 0).bind fun v1 =>
 (jw_gI h 7 v1 2).bind fun v2 =>
 (jw_gR h 9 (some x0) 1).bind fun v3 =>
 (jw_ln h v3).bind fun v4 =>
 if v4 ≤ v2 then (some ((0 : Int32), h))
 else ((jw_gR h 9 (some x0) 0).bind fun v6 =>
 (jw_rc h 7 v6).bind fun a7 =>
 jw_b2 (f_X7_addRow h a7 x1 x2) fun w9 h8 =>
 if w9 = 0 then (some ((0 : Int32), h8))
 else ((jw_gR h8 9 (some x0) 0).bind fun v11 =>
 (jw_gI h8 7 v11 2).bind fun v12 =>
 if v12 < (1 : Int32) then (some ((1 : Int32), h8))
 else ((jw_gR h8 9 (some x0) 0).bind fun v14 =>
 (jw_gI h8 7 v14 2).bind fun v15 =>
 (jw_gR h8 9 (some x0) 1).bind fun v16 =>
 (jw_ln h8 v16).bind fun v17 =>
 if v17 < v15 then (some ((1 : Int32), h8))
 else ((jw_gR h8 9 (some x0) 1).bind fun v19 =>
 (jw_gR h8 9 (some x0) 0).bind fun v20 =>
 (jw_gI h8 7 v20 2).bind fun v21 =>
 (jw_si h8 20 v19 (v21 - (1 : Int32)) x3).bind fun h22 =>
 some ((1 : Int32), h22)))))

set_option maxRecDepth 100000 in
set_option maxHeartbeats 4000000 in
theorem l_X9_append {hi : jw_H} {h : jw_H} {x0 : Nat} {x1 : Option Nat} {x2 : Int32} {x3 : Int32} {r : Int32} {h' : jw_H} (hq : f_X9_append  h x0 x1 x2 x3 = some (r, h')) : jw_E 3 uX9_append hi 0 [some (.ref x0), some (va_rf x1), some (.int x2), some (.int x3)] [] h (.inl (some (.int r))) h' := by
  unfold f_X9_append at hq
  refine jw_aload_n dX9_append_0 (o := (some x0)) rfl ?_
  obtain ⟨v1, ev1, hq⟩ := Option.bind_eq_some_iff.mp hq
  refine jw_getR (o := (some x0)) dX9_append_1 ev1 fl_X9_14 rfl ?_
  obtain ⟨v2, ev2, hq⟩ := Option.bind_eq_some_iff.mp hq
  refine jw_getI (o := v1) dX9_append_4 ev2 fl_X9_41 rfl ?_
  refine jw_aload_n dX9_append_7 (o := (some x0)) rfl ?_
  obtain ⟨v3, ev3, hq⟩ := Option.bind_eq_some_iff.mp hq
  refine jw_getR (o := (some x0)) dX9_append_8 ev3 fl_X9_20 rfl ?_
  obtain ⟨v4, ev4, hq⟩ := Option.bind_eq_some_iff.mp hq
  refine jw_alen (o := v3) dX9_append_11 ev4 ?_
  rcases jw_if hq with ⟨c5, hq⟩ | ⟨c5, hq⟩
  · refine jw_icmp_ge_t (tgt := 27) dX9_append_12 (by decide) c5 ?_
    refine jw_iconst dX9_append_27 (v := (0 : Int32)) (by decide) ?_
    cases hq
    exact jw_iret (ty := .boolean) dX9_append_28 rfl rfl
  · refine jw_icmp_ge_f (tgt := 27) dX9_append_12 (by decide) c5 ?_
    refine jw_aload_n dX9_append_15 (o := (some x0)) rfl ?_
    obtain ⟨v6, ev6, hq⟩ := Option.bind_eq_some_iff.mp hq
    refine jw_getR (o := (some x0)) dX9_append_16 ev6 fl_X9_14 rfl ?_
    refine jw_aload_n dX9_append_19 (o := x1) rfl ?_
    refine jw_iload_n dX9_append_20 rfl ?_
    obtain ⟨a7, ea7, hq⟩ := Option.bind_eq_some_iff.mp hq
    obtain ⟨eoa7, eta7⟩ := jw_rc_spec ea7
    obtain ⟨w9, h8, ew9, hq⟩ := jw_b2_spec hq
    refine jw_callV (As := [va_rf x1, .int x2]) (S := []) (a := a7) (v := some (.int w9)) dX9_append_21 mt_X7_addRow in_X7_addRow se_X7_addRow lk_X9_65 (c_X7_addRow ew9) eta7 (by decide) rfl rfl (by decide) (Nat.le_of_ble_eq_true rfl) (by cases eoa7; rfl) ?_
    rcases jw_if hq with ⟨c10, hq⟩ | ⟨c10, hq⟩
    · refine jw_if_ne_f (tgt := 29) dX9_append_24 (by decide) c10 ?_
      refine jw_iconst dX9_append_27 (v := (0 : Int32)) (by decide) ?_
      cases hq
      exact jw_iret (ty := .boolean) dX9_append_28 rfl rfl
    · refine jw_if_ne_t (tgt := 29) dX9_append_24 (by decide) c10 ?_
      refine jw_aload_n dX9_append_29 (o := (some x0)) rfl ?_
      obtain ⟨v11, ev11, hq⟩ := Option.bind_eq_some_iff.mp hq
      refine jw_getR (o := (some x0)) dX9_append_30 ev11 fl_X9_14 rfl ?_
      obtain ⟨v12, ev12, hq⟩ := Option.bind_eq_some_iff.mp hq
      refine jw_getI (o := v11) dX9_append_33 ev12 fl_X9_41 rfl ?_
      refine jw_iconst dX9_append_36 (v := (1 : Int32)) (by decide) ?_
      rcases jw_if hq with ⟨c13, hq⟩ | ⟨c13, hq⟩
      · refine jw_icmp_lt_t (tgt := 70) dX9_append_37 (by decide) c13 ?_
        refine jw_iconst dX9_append_70 (v := (1 : Int32)) (by decide) ?_
        cases hq
        exact jw_iret (ty := .boolean) dX9_append_71 rfl rfl
      · refine jw_icmp_lt_f (tgt := 70) dX9_append_37 (by decide) c13 ?_
        refine jw_aload_n dX9_append_40 (o := (some x0)) rfl ?_
        obtain ⟨v14, ev14, hq⟩ := Option.bind_eq_some_iff.mp hq
        refine jw_getR (o := (some x0)) dX9_append_41 ev14 fl_X9_14 rfl ?_
        obtain ⟨v15, ev15, hq⟩ := Option.bind_eq_some_iff.mp hq
        refine jw_getI (o := v14) dX9_append_44 ev15 fl_X9_41 rfl ?_
        refine jw_aload_n dX9_append_47 (o := (some x0)) rfl ?_
        obtain ⟨v16, ev16, hq⟩ := Option.bind_eq_some_iff.mp hq
        refine jw_getR (o := (some x0)) dX9_append_48 ev16 fl_X9_20 rfl ?_
        obtain ⟨v17, ev17, hq⟩ := Option.bind_eq_some_iff.mp hq
        refine jw_alen (o := v16) dX9_append_51 ev17 ?_
        rcases jw_if hq with ⟨c18, hq⟩ | ⟨c18, hq⟩
        · refine jw_icmp_gt_t (tgt := 70) dX9_append_52 (by decide) c18 ?_
          refine jw_iconst dX9_append_70 (v := (1 : Int32)) (by decide) ?_
          cases hq
          exact jw_iret (ty := .boolean) dX9_append_71 rfl rfl
        · refine jw_icmp_gt_f (tgt := 70) dX9_append_52 (by decide) c18 ?_
          refine jw_aload_n dX9_append_55 (o := (some x0)) rfl ?_
          obtain ⟨v19, ev19, hq⟩ := Option.bind_eq_some_iff.mp hq
          refine jw_getR (o := (some x0)) dX9_append_56 ev19 fl_X9_20 rfl ?_
          refine jw_aload_n dX9_append_59 (o := (some x0)) rfl ?_
          obtain ⟨v20, ev20, hq⟩ := Option.bind_eq_some_iff.mp hq
          refine jw_getR (o := (some x0)) dX9_append_60 ev20 fl_X9_14 rfl ?_
          obtain ⟨v21, ev21, hq⟩ := Option.bind_eq_some_iff.mp hq
          refine jw_getI (o := v20) dX9_append_63 ev21 fl_X9_41 rfl ?_
          refine jw_iconst dX9_append_66 (v := (1 : Int32)) (by decide) ?_
          refine jw_isub dX9_append_67 ?_
          refine jw_iload_n dX9_append_68 rfl ?_
          obtain ⟨h22, eh22, hq⟩ := Option.bind_eq_some_iff.mp hq
          refine jw_iast (o := v19) dX9_append_69 eh22 ?_
          refine jw_iconst dX9_append_70 (v := (1 : Int32)) (by decide) ?_
          cases hq
          exact jw_iret (ty := .boolean) dX9_append_71 rfl rfl

theorem c_X9_append {h : jw_H} {x0 : Nat} {x1 : Option Nat} {x2 : Int32} {x3 : Int32} {r : Int32} {h' : jw_H} (hq : f_X9_append h x0 x1 x2 x3 = some (r, h')) : jw_Con (Cond.code yX9_append cX9_append 4 (some .boolean)) yX9_append 3 [.ref x0, va_rf x1, .int x2, .int x3] h (.inl (some (.int r))) h' :=
  jw_con false (plainFor_of_name (by decide +kernel)) (fun z => nomatch z) (by simp [jw_ent, jw_sl0_nil, jw_sl0_int, jw_sl0_long, jw_sl0_ref, jw_sl0_rf, jw_sl0_scr, List.replicate]) (by simp [jw_sl0_nil, jw_sl0_int, jw_sl0_long, jw_sl0_ref, jw_sl0_rf, jw_sl0_scr]) (l_X9_append hq)


/-! X1_putNew -/
noncomputable def g_X1_putNew_b2 (k2 : jw_H → Nat → Option Nat → Int32 → Option (Unit × jw_H)) (h : jw_H) (x0 : Nat) (x1 : Option Nat) (x2 : Int32) : Option (Unit × jw_H) :=
 (jw_gI h 7 x1 2).bind fun v1 =>
 if v1 < x2 then (some ((), h))
 else ((jw_gR h 1 (some x0) 6).bind fun v3 =>
 (jw_gR h 1 (some x0) 6).bind fun v4 =>
 (jw_gI h 9 v4 4).bind fun v5 =>
 (jw_rc h 9 v3).bind fun a6 =>
 jw_b2 (f_X9_append h a6 x1 x2 v5) fun w8 h7 =>
 if w8 = 0 then ((jw_pI h7 1 (some x0) 15 (4 : Int32)).bind fun h13 =>
 some ((), h13))
 else ((jw_gR h7 1 (some x0) 6).bind fun v10 =>
 (jw_gI h7 9 v10 4).bind fun v11 =>
 (jw_pI h7 9 v10 4 (v11 + (1 : Int32))).bind fun h12 =>
 k2 h12 x0 x1 (x2 + (1 : Int32))))

noncomputable def f_X1_putNew_b2 (n : Nat) : jw_H → Nat → Option Nat → Int32 → Option (Unit × jw_H) :=
 Nat.rec (fun _ _ _ _ => none) (fun _ k2 => g_X1_putNew_b2 k2) n

noncomputable def f_X1_putNew (h : jw_H) (x0 : Nat) (x1 : Option Nat) : Option (Unit × jw_H) :=
 f_X1_putNew_b2  jw_FU h x0 x1 (1 : Int32)

set_option maxRecDepth 100000 in
set_option maxHeartbeats 4000000 in
theorem l_X1_putNew_b2g {hi : jw_H} {k2 : jw_H → Nat → Option Nat → Int32 → Option (Unit × jw_H)} (hk2 : ∀ (h : jw_H) (x0 : Nat) (x1 : Option Nat) (x2 : Int32) (r : Unit) (h' : jw_H), k2 h x0 x1 x2 = some (r, h') → jw_E 4 uX1_putNew hi 2 [some (.ref x0), some (va_rf x1), some (.int x2)] [] h (.inl none) h') {h : jw_H} {x0 : Nat} {x1 : Option Nat} {x2 : Int32} {r : Unit} {h' : jw_H} (hq : g_X1_putNew_b2 k2 h x0 x1 x2 = some (r, h')) : jw_E 4 uX1_putNew hi 2 [some (.ref x0), some (va_rf x1), some (.int x2)] [] h (.inl none) h' := by
  unfold g_X1_putNew_b2 at hq
  refine jw_iload_n dX1_putNew_2 rfl ?_
  refine jw_aload_n dX1_putNew_3 (o := x1) rfl ?_
  obtain ⟨v1, ev1, hq⟩ := Option.bind_eq_some_iff.mp hq
  refine jw_getI (o := x1) dX1_putNew_4 ev1 fl_X1_99 rfl ?_
  rcases jw_if hq with ⟨c2, hq⟩ | ⟨c2, hq⟩
  · refine jw_icmp_gt_t (tgt := 54) dX1_putNew_7 (by decide) c2 ?_
    cases hq
    exact jw_vret dX1_putNew_54 rfl
  · refine jw_icmp_gt_f (tgt := 54) dX1_putNew_7 (by decide) c2 ?_
    refine jw_aload_n dX1_putNew_10 (o := (some x0)) rfl ?_
    obtain ⟨v3, ev3, hq⟩ := Option.bind_eq_some_iff.mp hq
    refine jw_getR (o := (some x0)) dX1_putNew_11 ev3 fl_X1_37 rfl ?_
    refine jw_aload_n dX1_putNew_14 (o := x1) rfl ?_
    refine jw_iload_n dX1_putNew_15 rfl ?_
    refine jw_aload_n dX1_putNew_16 (o := (some x0)) rfl ?_
    obtain ⟨v4, ev4, hq⟩ := Option.bind_eq_some_iff.mp hq
    refine jw_getR (o := (some x0)) dX1_putNew_17 ev4 fl_X1_37 rfl ?_
    obtain ⟨v5, ev5, hq⟩ := Option.bind_eq_some_iff.mp hq
    refine jw_getI (o := v4) dX1_putNew_20 ev5 fl_X1_106 rfl ?_
    obtain ⟨a6, ea6, hq⟩ := Option.bind_eq_some_iff.mp hq
    obtain ⟨eoa6, eta6⟩ := jw_rc_spec ea6
    obtain ⟨w8, h7, ew8, hq⟩ := jw_b2_spec hq
    refine jw_callV (As := [va_rf x1, .int x2, .int v5]) (S := []) (a := a6) (v := some (.int w8)) dX1_putNew_23 mt_X9_append in_X9_append se_X9_append lk_X1_156 (c_X9_append ew8) eta6 (by decide) rfl rfl (by decide) (Nat.le_of_ble_eq_true rfl) (by cases eoa6; rfl) ?_
    rcases jw_if hq with ⟨c9, hq⟩ | ⟨c9, hq⟩
    · refine jw_if_ne_f (tgt := 35) dX1_putNew_26 (by decide) c9 ?_
      refine jw_aload_n dX1_putNew_29 (o := (some x0)) rfl ?_
      refine jw_iconst dX1_putNew_30 (v := (4 : Int32)) (by decide) ?_
      obtain ⟨h13, eh13, hq⟩ := Option.bind_eq_some_iff.mp hq
      refine jw_putI (o := (some x0)) dX1_putNew_31 eh13 fl_X1_65 rfl rfl ?_
      cases hq
      exact jw_vret dX1_putNew_34 rfl
    · refine jw_if_ne_t (tgt := 35) dX1_putNew_26 (by decide) c9 ?_
      refine jw_aload_n dX1_putNew_35 (o := (some x0)) rfl ?_
      obtain ⟨v10, ev10, hq⟩ := Option.bind_eq_some_iff.mp hq
      refine jw_getR (o := (some x0)) dX1_putNew_36 ev10 fl_X1_37 rfl ?_
      refine jw_dup dX1_putNew_39 jw_cat_rf ?_
      obtain ⟨v11, ev11, hq⟩ := Option.bind_eq_some_iff.mp hq
      refine jw_getI (o := v10) dX1_putNew_40 ev11 fl_X1_106 rfl ?_
      refine jw_iconst dX1_putNew_43 (v := (1 : Int32)) (by decide) ?_
      refine jw_iadd dX1_putNew_44 ?_
      obtain ⟨h12, eh12, hq⟩ := Option.bind_eq_some_iff.mp hq
      refine jw_putI (o := v10) dX1_putNew_45 eh12 fl_X1_106 rfl rfl ?_
      refine jw_iinc (L' := [some (.ref x0), some (va_rf x1), some (.int (x2 + (1 : Int32)))]) dX1_putNew_48 rfl (v := (1 : Int32)) (by decide) (Nat.le_of_ble_eq_true rfl) ((jw_st1_of (j := 1) jw_long_rf).trans rfl) ?_
      refine jw_goto (tgt := 2) dX1_putNew_51 (by decide) ?_
      exact hk2 _ _ _ _ _ _ hq

theorem l_X1_putNew_b2 {hi : jw_H} : ∀ (n : Nat) (h : jw_H) (x0 : Nat) (x1 : Option Nat) (x2 : Int32) (r : Unit) (h' : jw_H), f_X1_putNew_b2  n h x0 x1 x2 = some (r, h') → jw_E 4 uX1_putNew hi 2 [some (.ref x0), some (va_rf x1), some (.int x2)] [] h (.inl none) h' := by
  intro n
  induction n with
  | zero => intro h x0 x1 x2 r h' hq; exact nomatch hq
  | succ n ih => intro h x0 x1 x2 r h' hq; exact l_X1_putNew_b2g ih hq

set_option maxRecDepth 100000 in
set_option maxHeartbeats 4000000 in
theorem l_X1_putNew {hi : jw_H} {h : jw_H} {x0 : Nat} {x1 : Option Nat} {r : Unit} {h' : jw_H} (hq : f_X1_putNew  h x0 x1 = some (r, h')) : jw_E 4 uX1_putNew hi 0 [some (.ref x0), some (va_rf x1), none] [] h (.inl none) h' := by
  unfold f_X1_putNew at hq
  refine jw_iconst dX1_putNew_0 (v := (1 : Int32)) (by decide) ?_
  refine jw_istore_n (L' := [some (.ref x0), some (va_rf x1), some (.int (1 : Int32))]) dX1_putNew_1 (Nat.le_of_ble_eq_true rfl) ((jw_st1_of (j := 1) jw_long_rf).trans rfl) ?_
  exact l_X1_putNew_b2  jw_FU _ _ _ _ _ _ hq

theorem c_X1_putNew {h : jw_H} {x0 : Nat} {x1 : Option Nat} {r : Unit} {h' : jw_H} (hq : f_X1_putNew h x0 x1 = some (r, h')) : jw_Con (Cond.code yX1_putNew cX1_putNew 3 none) yX1_putNew 4 [.ref x0, va_rf x1] h (.inl none) h' :=
  jw_con false (plainFor_of_name (by decide +kernel)) (fun z => nomatch z) (by simp [jw_ent, jw_sl0_nil, jw_sl0_int, jw_sl0_long, jw_sl0_ref, jw_sl0_rf, jw_sl0_scr, List.replicate]) (by simp [jw_sl0_nil, jw_sl0_int, jw_sl0_long, jw_sl0_ref, jw_sl0_rf, jw_sl0_scr]) (l_X1_putNew hq)


/-! X9_dropMarks -/
noncomputable def g_X9_dropMarks_b28 (k2 : jw_H → Nat → Int32 → Int32 → Option (Unit × jw_H)) (h : jw_H) (x0 : Nat) (x1 : Int32) (x2 : Int32) : Option (Unit × jw_H) :=
 k2 h x0 x1 (x2 + (1 : Int32))

noncomputable def g_X9_dropMarks_b2 (k2 : jw_H → Nat → Int32 → Int32 → Option (Unit × jw_H)) (h : jw_H) (x0 : Nat) (x1 : Int32) (x2 : Int32) : Option (Unit × jw_H) :=
 (jw_gR h 9 (some x0) 2).bind fun v1 =>
 (jw_ln h v1).bind fun v2 =>
 if v2 ≤ x2 then (some ((), h))
 else ((jw_gR h 9 (some x0) 2).bind fun v4 =>
 (jw_ai h 20 v4 x2).bind fun v5 =>
 if v5 = x1 then ((jw_gR h 9 (some x0) 2).bind fun v7 =>
 (jw_si h 20 v7 x2 (-1 : Int32)).bind fun h8 =>
 g_X9_dropMarks_b28 k2 h8 x0 x1 x2)
 else (g_X9_dropMarks_b28 k2 h x0 x1 x2))

noncomputable def f_X9_dropMarks_b2 (n : Nat) : jw_H → Nat → Int32 → Int32 → Option (Unit × jw_H) :=
 Nat.rec (fun _ _ _ _ => none) (fun _ k2 => g_X9_dropMarks_b2 k2) n

noncomputable def f_X9_dropMarks (h : jw_H) (x0 : Nat) (x1 : Int32) : Option (Unit × jw_H) :=
 f_X9_dropMarks_b2  jw_FU h x0 x1 (0 : Int32)

set_option maxRecDepth 100000 in
set_option maxHeartbeats 4000000 in
theorem l_X9_dropMarks_b28 {hi : jw_H} {k2 : jw_H → Nat → Int32 → Int32 → Option (Unit × jw_H)} (hk2 : ∀ (h : jw_H) (x0 : Nat) (x1 : Int32) (x2 : Int32) (r : Unit) (h' : jw_H), k2 h x0 x1 x2 = some (r, h') → jw_E 0 uX9_dropMarks hi 2 [some (.ref x0), some (.int x1), some (.int x2)] [] h (.inl none) h') {h : jw_H} {x0 : Nat} {x1 : Int32} {x2 : Int32} {r : Unit} {h' : jw_H} (hq : g_X9_dropMarks_b28 k2 h x0 x1 x2 = some (r, h')) : jw_E 0 uX9_dropMarks hi 28 [some (.ref x0), some (.int x1), some (.int x2)] [] h (.inl none) h' := by
  unfold g_X9_dropMarks_b28 at hq
  refine jw_iinc (L' := [some (.ref x0), some (.int x1), some (.int (x2 + (1 : Int32)))]) dX9_dropMarks_28 rfl (v := (1 : Int32)) (by decide) (Nat.le_of_ble_eq_true rfl) rfl ?_
  refine jw_goto (tgt := 2) dX9_dropMarks_31 (by decide) ?_
  exact hk2 _ _ _ _ _ _ hq

set_option maxRecDepth 100000 in
set_option maxHeartbeats 4000000 in
theorem l_X9_dropMarks_b2g {hi : jw_H} {k2 : jw_H → Nat → Int32 → Int32 → Option (Unit × jw_H)} (hk2 : ∀ (h : jw_H) (x0 : Nat) (x1 : Int32) (x2 : Int32) (r : Unit) (h' : jw_H), k2 h x0 x1 x2 = some (r, h') → jw_E 0 uX9_dropMarks hi 2 [some (.ref x0), some (.int x1), some (.int x2)] [] h (.inl none) h') {h : jw_H} {x0 : Nat} {x1 : Int32} {x2 : Int32} {r : Unit} {h' : jw_H} (hq : g_X9_dropMarks_b2 k2 h x0 x1 x2 = some (r, h')) : jw_E 0 uX9_dropMarks hi 2 [some (.ref x0), some (.int x1), some (.int x2)] [] h (.inl none) h' := by
  unfold g_X9_dropMarks_b2 at hq
  refine jw_iload_n dX9_dropMarks_2 rfl ?_
  refine jw_aload_n dX9_dropMarks_3 (o := (some x0)) rfl ?_
  obtain ⟨v1, ev1, hq⟩ := Option.bind_eq_some_iff.mp hq
  refine jw_getR (o := (some x0)) dX9_dropMarks_4 ev1 fl_X9_24 rfl ?_
  obtain ⟨v2, ev2, hq⟩ := Option.bind_eq_some_iff.mp hq
  refine jw_alen (o := v1) dX9_dropMarks_7 ev2 ?_
  rcases jw_if hq with ⟨c3, hq⟩ | ⟨c3, hq⟩
  · refine jw_icmp_ge_t (tgt := 34) dX9_dropMarks_8 (by decide) c3 ?_
    cases hq
    exact jw_vret dX9_dropMarks_34 rfl
  · refine jw_icmp_ge_f (tgt := 34) dX9_dropMarks_8 (by decide) c3 ?_
    refine jw_aload_n dX9_dropMarks_11 (o := (some x0)) rfl ?_
    obtain ⟨v4, ev4, hq⟩ := Option.bind_eq_some_iff.mp hq
    refine jw_getR (o := (some x0)) dX9_dropMarks_12 ev4 fl_X9_24 rfl ?_
    refine jw_iload_n dX9_dropMarks_15 rfl ?_
    obtain ⟨v5, ev5, hq⟩ := Option.bind_eq_some_iff.mp hq
    refine jw_iald (o := v4) dX9_dropMarks_16 ev5 ?_
    refine jw_iload_n dX9_dropMarks_17 rfl ?_
    rcases jw_if hq with ⟨c6, hq⟩ | ⟨c6, hq⟩
    · refine jw_icmp_ne_f (tgt := 28) dX9_dropMarks_18 (by decide) c6 ?_
      refine jw_aload_n dX9_dropMarks_21 (o := (some x0)) rfl ?_
      obtain ⟨v7, ev7, hq⟩ := Option.bind_eq_some_iff.mp hq
      refine jw_getR (o := (some x0)) dX9_dropMarks_22 ev7 fl_X9_24 rfl ?_
      refine jw_iload_n dX9_dropMarks_25 rfl ?_
      refine jw_iconst dX9_dropMarks_26 (v := (-1 : Int32)) (by decide) ?_
      obtain ⟨h8, eh8, hq⟩ := Option.bind_eq_some_iff.mp hq
      refine jw_iast (o := v7) dX9_dropMarks_27 eh8 ?_
      exact l_X9_dropMarks_b28 hk2 hq
    · refine jw_icmp_ne_t (tgt := 28) dX9_dropMarks_18 (by decide) c6 ?_
      exact l_X9_dropMarks_b28 hk2 hq

theorem l_X9_dropMarks_b2 {hi : jw_H} : ∀ (n : Nat) (h : jw_H) (x0 : Nat) (x1 : Int32) (x2 : Int32) (r : Unit) (h' : jw_H), f_X9_dropMarks_b2  n h x0 x1 x2 = some (r, h') → jw_E 0 uX9_dropMarks hi 2 [some (.ref x0), some (.int x1), some (.int x2)] [] h (.inl none) h' := by
  intro n
  induction n with
  | zero => intro h x0 x1 x2 r h' hq; exact nomatch hq
  | succ n ih => intro h x0 x1 x2 r h' hq; exact l_X9_dropMarks_b2g ih hq

set_option maxRecDepth 100000 in
set_option maxHeartbeats 4000000 in
theorem l_X9_dropMarks {hi : jw_H} {h : jw_H} {x0 : Nat} {x1 : Int32} {r : Unit} {h' : jw_H} (hq : f_X9_dropMarks  h x0 x1 = some (r, h')) : jw_E 0 uX9_dropMarks hi 0 [some (.ref x0), some (.int x1), none] [] h (.inl none) h' := by
  unfold f_X9_dropMarks at hq
  refine jw_iconst dX9_dropMarks_0 (v := (0 : Int32)) (by decide) ?_
  refine jw_istore_n (L' := [some (.ref x0), some (.int x1), some (.int (0 : Int32))]) dX9_dropMarks_1 (Nat.le_of_ble_eq_true rfl) rfl ?_
  exact l_X9_dropMarks_b2  jw_FU _ _ _ _ _ _ hq

theorem c_X9_dropMarks {h : jw_H} {x0 : Nat} {x1 : Int32} {r : Unit} {h' : jw_H} (hq : f_X9_dropMarks h x0 x1 = some (r, h')) : jw_Con (Cond.code yX9_dropMarks cX9_dropMarks 3 none) yX9_dropMarks 0 [.ref x0, .int x1] h (.inl none) h' :=
  jw_con false (plainFor_of_name (by decide +kernel)) (fun z => nomatch z) (by simp [jw_ent, jw_sl0_nil, jw_sl0_int, jw_sl0_long, jw_sl0_ref, jw_sl0_rf, jw_sl0_scr, List.replicate]) (by simp [jw_sl0_nil, jw_sl0_int, jw_sl0_long, jw_sl0_ref, jw_sl0_rf, jw_sl0_scr]) (l_X9_dropMarks hq)


/-! X1_goAway -/
noncomputable def f_X1_goAway (h : jw_H) (x0 : Nat) : Option (Unit × jw_H) :=
 (jw_pB h 1 (some x0) 16 (1 : Int32)).bind fun h1 =>
 (jw_gR h1 1 (some x0) 6).bind fun v2 =>
 (jw_gI h1 1 (some x0) 10).bind fun v3 =>
 (jw_rc h1 9 v2).bind fun a4 =>
 jw_b2 (f_X9_dropMarks h1 a4 v3) fun w6 h5 =>
 some ((), h5)

set_option maxRecDepth 100000 in
set_option maxHeartbeats 4000000 in
theorem l_X1_goAway {hi : jw_H} {h : jw_H} {x0 : Nat} {r : Unit} {h' : jw_H} (hq : f_X1_goAway  h x0 = some (r, h')) : jw_E 1 uX1_goAway hi 0 [some (.ref x0)] [] h (.inl none) h' := by
  unfold f_X1_goAway at hq
  refine jw_aload_n dX1_goAway_0 (o := (some x0)) rfl ?_
  refine jw_iconst dX1_goAway_1 (v := (1 : Int32)) (by decide) ?_
  obtain ⟨h1, eh1, hq⟩ := Option.bind_eq_some_iff.mp hq
  refine jw_putB (o := (some x0)) dX1_goAway_2 eh1 fl_X1_148 rfl rfl ?_
  refine jw_aload_n dX1_goAway_5 (o := (some x0)) rfl ?_
  obtain ⟨v2, ev2, hq⟩ := Option.bind_eq_some_iff.mp hq
  refine jw_getR (o := (some x0)) dX1_goAway_6 ev2 fl_X1_37 rfl ?_
  refine jw_aload_n dX1_goAway_9 (o := (some x0)) rfl ?_
  obtain ⟨v3, ev3, hq⟩ := Option.bind_eq_some_iff.mp hq
  refine jw_getI (o := (some x0)) dX1_goAway_10 ev3 fl_X1_141 rfl ?_
  obtain ⟨a4, ea4, hq⟩ := Option.bind_eq_some_iff.mp hq
  obtain ⟨eoa4, eta4⟩ := jw_rc_spec ea4
  obtain ⟨w6, h5, ew6, hq⟩ := jw_b2_spec hq
  refine jw_callV (As := [.int v3]) (S := []) (a := a4) (v := none) dX1_goAway_13 mt_X9_dropMarks in_X9_dropMarks se_X9_dropMarks lk_X1_275 (c_X9_dropMarks ew6) eta4 (by decide) rfl rfl (by decide) (Nat.le_of_ble_eq_true rfl) (by cases eoa4; rfl) ?_
  cases hq
  exact jw_vret dX1_goAway_16 rfl

theorem c_X1_goAway {h : jw_H} {x0 : Nat} {r : Unit} {h' : jw_H} (hq : f_X1_goAway h x0 = some (r, h')) : jw_Con (Cond.code yX1_goAway cX1_goAway 1 none) yX1_goAway 1 [.ref x0] h (.inl none) h' :=
  jw_con false (plainFor_of_name (by decide +kernel)) (fun z => nomatch z) (by simp [jw_ent, jw_sl0_nil, jw_sl0_int, jw_sl0_long, jw_sl0_ref, jw_sl0_rf, jw_sl0_scr, List.replicate]) (by simp [jw_sl0_nil, jw_sl0_int, jw_sl0_long, jw_sl0_ref, jw_sl0_rf, jw_sl0_scr]) (l_X1_goAway hq)


/-! X7_open -/
noncomputable def g_X7_open_b96 (k96 : jw_H → Nat → Int32 → Int32 → Int32 → Option (Int32 × jw_H)) (h : jw_H) (x0 : Nat) (x1 : Int32) (x2 : Int32) (x4 : Int32) : Option (Int32 × jw_H) :=
 if (x1 + x2) ≤ x4 then ((jw_gI h 7 (some x0) 2).bind fun v2 =>
 (jw_pI h 7 (some x0) 2 (v2 + x2)).bind fun h3 =>
 some ((1 : Int32), h3))
 else ((jw_gR h 7 (some x0) 0).bind fun v4 =>
 (jw_si h 20 v4 (x4 - (1 : Int32)) (0 : Int32)).bind fun h5 =>
 k96 h5 x0 x1 x2 (x4 + (1 : Int32)))

noncomputable def f_X7_open_b96 (n : Nat) : jw_H → Nat → Int32 → Int32 → Int32 → Option (Int32 × jw_H) :=
 Nat.rec (fun _ _ _ _ _ => none) (fun _ k96 => g_X7_open_b96 k96) n

noncomputable def f_X7_open (h : jw_H) (x0 : Nat) (x1 : Int32) (x2 : Int32) : Option (Int32 × jw_H) :=
 if x1 < (1 : Int32) then (some ((0 : Int32), h))
 else ((jw_gI h 7 (some x0) 2).bind fun v2 =>
 if (v2 + (1 : Int32)) < x1 then (some ((0 : Int32), h))
 else (if x2 < 0 then (some ((0 : Int32), h))
 else ((jw_gR h 7 (some x0) 0).bind fun v5 =>
 (jw_ln h v5).bind fun v6 =>
 (jw_gI h 7 (some x0) 2).bind fun v7 =>
 if x2 ≤ (v6 - v7) then ((jw_gI h 7 (some x0) 2).bind fun v9 =>
 (jw_gR h 7 (some x0) 0).bind fun v10 =>
 (jw_gR h 7 (some x0) 0).bind fun v11 =>
 (jw_cp h 20 v10 (x1 - (1 : Int32)) v11 ((x1 - (1 : Int32)) + x2) ((v9 - x1) + (1 : Int32))).bind fun h12 =>
 (jw_gR h12 7 (some x0) 1).bind fun v13 =>
 (jw_gR h12 7 (some x0) 1).bind fun v14 =>
 (jw_cp h12 21 v13 ((x1 - (1 : Int32)) * (30 : Int32)) v14 (((x1 - (1 : Int32)) + x2) * (30 : Int32)) (((v9 - x1) + (1 : Int32)) * (30 : Int32))).bind fun h15 =>
 f_X7_open_b96  jw_FU h15 x0 x1 x2 x1)
 else (some ((0 : Int32), h)))))

set_option maxRecDepth 100000 in
set_option maxHeartbeats 4000000 in
theorem l_X7_open_b96g {hi : jw_H} {k96 : jw_H → Nat → Int32 → Int32 → Int32 → Option (Int32 × jw_H)} (hk96 : ∀ (h : jw_H) (x0 : Nat) (x1 : Int32) (x2 : Int32) (x4 : Int32) (r : Int32) (h' : jw_H), k96 h x0 x1 x2 x4 = some (r, h') → jw_E 1 uX7_open hi 96 [some (.ref x0), some (.int x1), some (.int x2), none, some (.int x4)] [] h (.inl (some (.int r))) h') {h : jw_H} {x0 : Nat} {x1 : Int32} {x2 : Int32} {x4 : Int32} {r : Int32} {h' : jw_H} (hq : g_X7_open_b96 k96 h x0 x1 x2 x4 = some (r, h')) : jw_E 1 uX7_open hi 96 [some (.ref x0), some (.int x1), some (.int x2), none, some (.int x4)] [] h (.inl (some (.int r))) h' := by
  unfold g_X7_open_b96 at hq
  refine jw_iload dX7_open_96 rfl ?_
  refine jw_iload_n dX7_open_98 rfl ?_
  refine jw_iload_n dX7_open_99 rfl ?_
  refine jw_iadd dX7_open_100 ?_
  rcases jw_if hq with ⟨c1, hq⟩ | ⟨c1, hq⟩
  · refine jw_icmp_ge_t (tgt := 120) dX7_open_101 (by decide) c1 ?_
    refine jw_aload_n dX7_open_120 (o := (some x0)) rfl ?_
    refine jw_dup dX7_open_121 rfl ?_
    obtain ⟨v2, ev2, hq⟩ := Option.bind_eq_some_iff.mp hq
    refine jw_getI (o := (some x0)) dX7_open_122 ev2 fl_X7_25 rfl ?_
    refine jw_iload_n dX7_open_125 rfl ?_
    refine jw_iadd dX7_open_126 ?_
    obtain ⟨h3, eh3, hq⟩ := Option.bind_eq_some_iff.mp hq
    refine jw_putI (o := (some x0)) dX7_open_127 eh3 fl_X7_25 rfl rfl ?_
    refine jw_iconst dX7_open_130 (v := (1 : Int32)) (by decide) ?_
    cases hq
    exact jw_iret (ty := .boolean) dX7_open_131 rfl rfl
  · refine jw_icmp_ge_f (tgt := 120) dX7_open_101 (by decide) c1 ?_
    refine jw_aload_n dX7_open_104 (o := (some x0)) rfl ?_
    obtain ⟨v4, ev4, hq⟩ := Option.bind_eq_some_iff.mp hq
    refine jw_getR (o := (some x0)) dX7_open_105 ev4 fl_X7_15 rfl ?_
    refine jw_iload dX7_open_108 rfl ?_
    refine jw_iconst dX7_open_110 (v := (1 : Int32)) (by decide) ?_
    refine jw_isub dX7_open_111 ?_
    refine jw_iconst dX7_open_112 (v := (0 : Int32)) (by decide) ?_
    obtain ⟨h5, eh5, hq⟩ := Option.bind_eq_some_iff.mp hq
    refine jw_iast (o := v4) dX7_open_113 eh5 ?_
    refine jw_iinc (L' := [some (.ref x0), some (.int x1), some (.int x2), none, some (.int (x4 + (1 : Int32)))]) dX7_open_114 rfl (v := (1 : Int32)) (by decide) (Nat.le_of_ble_eq_true rfl) rfl ?_
    refine jw_goto (tgt := 96) dX7_open_117 (by decide) ?_
    exact hk96 _ _ _ _ _ _ _ hq

theorem l_X7_open_b96 {hi : jw_H} : ∀ (n : Nat) (h : jw_H) (x0 : Nat) (x1 : Int32) (x2 : Int32) (x4 : Int32) (r : Int32) (h' : jw_H), f_X7_open_b96  n h x0 x1 x2 x4 = some (r, h') → jw_E 1 uX7_open hi 96 [some (.ref x0), some (.int x1), some (.int x2), none, some (.int x4)] [] h (.inl (some (.int r))) h' := by
  intro n
  induction n with
  | zero => intro h x0 x1 x2 x4 r h' hq; exact nomatch hq
  | succ n ih => intro h x0 x1 x2 x4 r h' hq; exact l_X7_open_b96g ih hq

set_option maxRecDepth 100000 in
set_option maxHeartbeats 4000000 in
theorem l_X7_open {hi : jw_H} {h : jw_H} {x0 : Nat} {x1 : Int32} {x2 : Int32} {r : Int32} {h' : jw_H} (hq : f_X7_open  h x0 x1 x2 = some (r, h')) : jw_E 1 uX7_open hi 0 [some (.ref x0), some (.int x1), some (.int x2), none, none] [] h (.inl (some (.int r))) h' := by
  unfold f_X7_open at hq
  refine jw_iload_n dX7_open_0 rfl ?_
  refine jw_iconst dX7_open_1 (v := (1 : Int32)) (by decide) ?_
  rcases jw_if hq with ⟨c1, hq⟩ | ⟨c1, hq⟩
  · refine jw_icmp_lt_t (tgt := 33) dX7_open_2 (by decide) c1 ?_
    refine jw_iconst dX7_open_33 (v := (0 : Int32)) (by decide) ?_
    cases hq
    exact jw_iret (ty := .boolean) dX7_open_34 rfl rfl
  · refine jw_icmp_lt_f (tgt := 33) dX7_open_2 (by decide) c1 ?_
    refine jw_iload_n dX7_open_5 rfl ?_
    refine jw_aload_n dX7_open_6 (o := (some x0)) rfl ?_
    obtain ⟨v2, ev2, hq⟩ := Option.bind_eq_some_iff.mp hq
    refine jw_getI (o := (some x0)) dX7_open_7 ev2 fl_X7_25 rfl ?_
    refine jw_iconst dX7_open_10 (v := (1 : Int32)) (by decide) ?_
    refine jw_iadd dX7_open_11 ?_
    rcases jw_if hq with ⟨c3, hq⟩ | ⟨c3, hq⟩
    · refine jw_icmp_gt_t (tgt := 33) dX7_open_12 (by decide) c3 ?_
      refine jw_iconst dX7_open_33 (v := (0 : Int32)) (by decide) ?_
      cases hq
      exact jw_iret (ty := .boolean) dX7_open_34 rfl rfl
    · refine jw_icmp_gt_f (tgt := 33) dX7_open_12 (by decide) c3 ?_
      refine jw_iload_n dX7_open_15 rfl ?_
      rcases jw_if hq with ⟨c4, hq⟩ | ⟨c4, hq⟩
      · refine jw_if_lt_t (tgt := 33) dX7_open_16 (by decide) c4 ?_
        refine jw_iconst dX7_open_33 (v := (0 : Int32)) (by decide) ?_
        cases hq
        exact jw_iret (ty := .boolean) dX7_open_34 rfl rfl
      · refine jw_if_lt_f (tgt := 33) dX7_open_16 (by decide) c4 ?_
        refine jw_iload_n dX7_open_19 rfl ?_
        refine jw_aload_n dX7_open_20 (o := (some x0)) rfl ?_
        obtain ⟨v5, ev5, hq⟩ := Option.bind_eq_some_iff.mp hq
        refine jw_getR (o := (some x0)) dX7_open_21 ev5 fl_X7_15 rfl ?_
        obtain ⟨v6, ev6, hq⟩ := Option.bind_eq_some_iff.mp hq
        refine jw_alen (o := v5) dX7_open_24 ev6 ?_
        refine jw_aload_n dX7_open_25 (o := (some x0)) rfl ?_
        obtain ⟨v7, ev7, hq⟩ := Option.bind_eq_some_iff.mp hq
        refine jw_getI (o := (some x0)) dX7_open_26 ev7 fl_X7_25 rfl ?_
        refine jw_isub dX7_open_29 ?_
        rcases jw_if hq with ⟨c8, hq⟩ | ⟨c8, hq⟩
        · refine jw_icmp_le_t (tgt := 35) dX7_open_30 (by decide) c8 ?_
          refine jw_aload_n dX7_open_35 (o := (some x0)) rfl ?_
          obtain ⟨v9, ev9, hq⟩ := Option.bind_eq_some_iff.mp hq
          refine jw_getI (o := (some x0)) dX7_open_36 ev9 fl_X7_25 rfl ?_
          refine jw_iload_n dX7_open_39 rfl ?_
          refine jw_isub dX7_open_40 ?_
          refine jw_iconst dX7_open_41 (v := (1 : Int32)) (by decide) ?_
          refine jw_iadd dX7_open_42 ?_
          refine jw_istore_n (L' := [some (.ref x0), some (.int x1), some (.int x2), some (.int ((v9 - x1) + (1 : Int32))), none]) dX7_open_43 (Nat.le_of_ble_eq_true rfl) rfl ?_
          refine jw_aload_n dX7_open_44 (o := (some x0)) rfl ?_
          obtain ⟨v10, ev10, hq⟩ := Option.bind_eq_some_iff.mp hq
          refine jw_getR (o := (some x0)) dX7_open_45 ev10 fl_X7_15 rfl ?_
          refine jw_iload_n dX7_open_48 rfl ?_
          refine jw_iconst dX7_open_49 (v := (1 : Int32)) (by decide) ?_
          refine jw_isub dX7_open_50 ?_
          refine jw_aload_n dX7_open_51 (o := (some x0)) rfl ?_
          obtain ⟨v11, ev11, hq⟩ := Option.bind_eq_some_iff.mp hq
          refine jw_getR (o := (some x0)) dX7_open_52 ev11 fl_X7_15 rfl ?_
          refine jw_iload_n dX7_open_55 rfl ?_
          refine jw_iconst dX7_open_56 (v := (1 : Int32)) (by decide) ?_
          refine jw_isub dX7_open_57 ?_
          refine jw_iload_n dX7_open_58 rfl ?_
          refine jw_iadd dX7_open_59 ?_
          refine jw_iload_n dX7_open_60 rfl ?_
          obtain ⟨h12, eh12, hq⟩ := Option.bind_eq_some_iff.mp hq
          refine jw_acp (o1 := v10) (o2 := v11) (t := 20) dX7_open_61 (by decide) al_X7_32 an_0 as_0 ai_0 (by decide) (Nat.le_of_ble_eq_true rfl) eh12 ?_
          refine jw_aload_n dX7_open_64 (o := (some x0)) rfl ?_
          obtain ⟨v13, ev13, hq⟩ := Option.bind_eq_some_iff.mp hq
          refine jw_getR (o := (some x0)) dX7_open_65 ev13 fl_X7_21 rfl ?_
          refine jw_iload_n dX7_open_68 rfl ?_
          refine jw_iconst dX7_open_69 (v := (1 : Int32)) (by decide) ?_
          refine jw_isub dX7_open_70 ?_
          refine jw_bipush dX7_open_71 (v := (30 : Int32)) (by decide) ?_
          refine jw_imul dX7_open_73 ?_
          refine jw_aload_n dX7_open_74 (o := (some x0)) rfl ?_
          obtain ⟨v14, ev14, hq⟩ := Option.bind_eq_some_iff.mp hq
          refine jw_getR (o := (some x0)) dX7_open_75 ev14 fl_X7_21 rfl ?_
          refine jw_iload_n dX7_open_78 rfl ?_
          refine jw_iconst dX7_open_79 (v := (1 : Int32)) (by decide) ?_
          refine jw_isub dX7_open_80 ?_
          refine jw_iload_n dX7_open_81 rfl ?_
          refine jw_iadd dX7_open_82 ?_
          refine jw_bipush dX7_open_83 (v := (30 : Int32)) (by decide) ?_
          refine jw_imul dX7_open_85 ?_
          refine jw_iload_n dX7_open_86 rfl ?_
          refine jw_bipush dX7_open_87 (v := (30 : Int32)) (by decide) ?_
          refine jw_imul dX7_open_89 ?_
          obtain ⟨h15, eh15, hq⟩ := Option.bind_eq_some_iff.mp hq
          refine jw_acp (o1 := v13) (o2 := v14) (t := 21) dX7_open_90 (by decide) al_X7_32 an_0 as_0 ai_0 (by decide) (Nat.le_of_ble_eq_true rfl) eh15 ?_
          refine jw_iload_n dX7_open_93 rfl ?_
          refine jw_istore (L' := [some (.ref x0), some (.int x1), some (.int x2), some (.int ((v9 - x1) + (1 : Int32))), some (.int x1)]) dX7_open_94 (Nat.le_of_ble_eq_true rfl) rfl ?_
          refine jw_forget [true, true, true, false, true] (L' := [some (.ref x0), some (.int x1), some (.int x2), none, some (.int x1)]) rfl ?_
          exact l_X7_open_b96  jw_FU _ _ _ _ _ _ _ hq
        · refine jw_icmp_le_f (tgt := 35) dX7_open_30 (by decide) c8 ?_
          refine jw_iconst dX7_open_33 (v := (0 : Int32)) (by decide) ?_
          cases hq
          exact jw_iret (ty := .boolean) dX7_open_34 rfl rfl

theorem c_X7_open {h : jw_H} {x0 : Nat} {x1 : Int32} {x2 : Int32} {r : Int32} {h' : jw_H} (hq : f_X7_open h x0 x1 x2 = some (r, h')) : jw_Con (Cond.code yX7_open cX7_open 5 (some .boolean)) yX7_open 1 [.ref x0, .int x1, .int x2] h (.inl (some (.int r))) h' :=
  jw_con false (plainFor_of_name (by decide +kernel)) (fun z => nomatch z) (by simp [jw_ent, jw_sl0_nil, jw_sl0_int, jw_sl0_long, jw_sl0_ref, jw_sl0_rf, jw_sl0_scr, List.replicate]) (by simp [jw_sl0_nil, jw_sl0_int, jw_sl0_long, jw_sl0_ref, jw_sl0_rf, jw_sl0_scr]) (l_X7_open hq)


/-! X7_moveRest -/
noncomputable def f_X7_moveRest (h : jw_H) (x0 : Nat) (x1 : Int32) (x2 : Int32) : Option (Unit × jw_H) :=
 (jw_rc h 7 (some x0)).bind fun a1 =>
 jw_b2 (f_X7_has h a1 x1) fun w3 h2 =>
 if w3 = 0 then (some ((), h2))
 else (if x2 < 0 then (some ((), h2))
 else ((jw_gR h2 7 (some x0) 0).bind fun v6 =>
 (jw_ai h2 20 v6 (x1 - (1 : Int32))).bind fun v7 =>
 if v7 ≤ x2 then (some ((), h2))
 else ((jw_gR h2 7 (some x0) 1).bind fun v9 =>
 (jw_gR h2 7 (some x0) 0).bind fun v10 =>
 (jw_ai h2 20 v10 (x1 - (1 : Int32))).bind fun v11 =>
 (jw_rc h2 7 (some x0)).bind fun a12 =>
 jw_b2 (f_X7_write h2 a12 (x1 + (1 : Int32)) v9 (((x1 - (1 : Int32)) * (30 : Int32)) + x2) (v11 - x2)) fun w14 h13 =>
 (jw_gR h13 7 (some x0) 0).bind fun v15 =>
 (jw_si h13 20 v15 (x1 - (1 : Int32)) x2).bind fun h16 =>
 some ((), h16))))

set_option maxRecDepth 100000 in
set_option maxHeartbeats 4000000 in
theorem l_X7_moveRest {hi : jw_H} {h : jw_H} {x0 : Nat} {x1 : Int32} {x2 : Int32} {r : Unit} {h' : jw_H} (hq : f_X7_moveRest  h x0 x1 x2 = some (r, h')) : jw_E 2 uX7_moveRest hi 0 [some (.ref x0), some (.int x1), some (.int x2)] [] h (.inl none) h' := by
  unfold f_X7_moveRest at hq
  refine jw_aload_n dX7_moveRest_0 (o := (some x0)) rfl ?_
  refine jw_iload_n dX7_moveRest_1 rfl ?_
  obtain ⟨a1, ea1, hq⟩ := Option.bind_eq_some_iff.mp hq
  obtain ⟨eoa1, eta1⟩ := jw_rc_spec ea1
  obtain ⟨w3, h2, ew3, hq⟩ := jw_b2_spec hq
  refine jw_callV (As := [.int x1]) (S := []) (a := a1) (v := some (.int w3)) dX7_moveRest_2 mt_X7_has in_X7_has se_X7_has lk_X7_38 (c_X7_has ew3) eta1 (by decide) rfl rfl (by decide) (Nat.le_of_ble_eq_true rfl) (by cases eoa1; rfl) ?_
  rcases jw_if hq with ⟨c4, hq⟩ | ⟨c4, hq⟩
  · refine jw_if_eq_t (tgt := 62) dX7_moveRest_5 (by decide) c4 ?_
    cases hq
    exact jw_vret dX7_moveRest_62 rfl
  · refine jw_if_eq_f (tgt := 62) dX7_moveRest_5 (by decide) c4 ?_
    refine jw_iload_n dX7_moveRest_8 rfl ?_
    rcases jw_if hq with ⟨c5, hq⟩ | ⟨c5, hq⟩
    · refine jw_if_lt_t (tgt := 62) dX7_moveRest_9 (by decide) c5 ?_
      cases hq
      exact jw_vret dX7_moveRest_62 rfl
    · refine jw_if_lt_f (tgt := 62) dX7_moveRest_9 (by decide) c5 ?_
      refine jw_iload_n dX7_moveRest_12 rfl ?_
      refine jw_aload_n dX7_moveRest_13 (o := (some x0)) rfl ?_
      obtain ⟨v6, ev6, hq⟩ := Option.bind_eq_some_iff.mp hq
      refine jw_getR (o := (some x0)) dX7_moveRest_14 ev6 fl_X7_15 rfl ?_
      refine jw_iload_n dX7_moveRest_17 rfl ?_
      refine jw_iconst dX7_moveRest_18 (v := (1 : Int32)) (by decide) ?_
      refine jw_isub dX7_moveRest_19 ?_
      obtain ⟨v7, ev7, hq⟩ := Option.bind_eq_some_iff.mp hq
      refine jw_iald (o := v6) dX7_moveRest_20 ev7 ?_
      rcases jw_if hq with ⟨c8, hq⟩ | ⟨c8, hq⟩
      · refine jw_icmp_ge_t (tgt := 62) dX7_moveRest_21 (by decide) c8 ?_
        cases hq
        exact jw_vret dX7_moveRest_62 rfl
      · refine jw_icmp_ge_f (tgt := 62) dX7_moveRest_21 (by decide) c8 ?_
        refine jw_aload_n dX7_moveRest_24 (o := (some x0)) rfl ?_
        refine jw_iload_n dX7_moveRest_25 rfl ?_
        refine jw_iconst dX7_moveRest_26 (v := (1 : Int32)) (by decide) ?_
        refine jw_iadd dX7_moveRest_27 ?_
        refine jw_aload_n dX7_moveRest_28 (o := (some x0)) rfl ?_
        obtain ⟨v9, ev9, hq⟩ := Option.bind_eq_some_iff.mp hq
        refine jw_getR (o := (some x0)) dX7_moveRest_29 ev9 fl_X7_21 rfl ?_
        refine jw_iload_n dX7_moveRest_32 rfl ?_
        refine jw_iconst dX7_moveRest_33 (v := (1 : Int32)) (by decide) ?_
        refine jw_isub dX7_moveRest_34 ?_
        refine jw_bipush dX7_moveRest_35 (v := (30 : Int32)) (by decide) ?_
        refine jw_imul dX7_moveRest_37 ?_
        refine jw_iload_n dX7_moveRest_38 rfl ?_
        refine jw_iadd dX7_moveRest_39 ?_
        refine jw_aload_n dX7_moveRest_40 (o := (some x0)) rfl ?_
        obtain ⟨v10, ev10, hq⟩ := Option.bind_eq_some_iff.mp hq
        refine jw_getR (o := (some x0)) dX7_moveRest_41 ev10 fl_X7_15 rfl ?_
        refine jw_iload_n dX7_moveRest_44 rfl ?_
        refine jw_iconst dX7_moveRest_45 (v := (1 : Int32)) (by decide) ?_
        refine jw_isub dX7_moveRest_46 ?_
        obtain ⟨v11, ev11, hq⟩ := Option.bind_eq_some_iff.mp hq
        refine jw_iald (o := v10) dX7_moveRest_47 ev11 ?_
        refine jw_iload_n dX7_moveRest_48 rfl ?_
        refine jw_isub dX7_moveRest_49 ?_
        obtain ⟨a12, ea12, hq⟩ := Option.bind_eq_some_iff.mp hq
        obtain ⟨eoa12, eta12⟩ := jw_rc_spec ea12
        obtain ⟨w14, h13, ew14, hq⟩ := jw_b2_spec hq
        refine jw_callV (As := [.int (x1 + (1 : Int32)), va_rf v9, .int (((x1 - (1 : Int32)) * (30 : Int32)) + x2), .int (v11 - x2)]) (S := []) (a := a12) (v := none) dX7_moveRest_50 mt_X7_write in_X7_write se_X7_write lk_X7_50 (c_X7_write ew14) eta12 (by decide) rfl rfl (by decide) (Nat.le_of_ble_eq_true rfl) (by cases eoa12; rfl) ?_
        refine jw_aload_n dX7_moveRest_53 (o := (some x0)) rfl ?_
        obtain ⟨v15, ev15, hq⟩ := Option.bind_eq_some_iff.mp hq
        refine jw_getR (o := (some x0)) dX7_moveRest_54 ev15 fl_X7_15 rfl ?_
        refine jw_iload_n dX7_moveRest_57 rfl ?_
        refine jw_iconst dX7_moveRest_58 (v := (1 : Int32)) (by decide) ?_
        refine jw_isub dX7_moveRest_59 ?_
        refine jw_iload_n dX7_moveRest_60 rfl ?_
        obtain ⟨h16, eh16, hq⟩ := Option.bind_eq_some_iff.mp hq
        refine jw_iast (o := v15) dX7_moveRest_61 eh16 ?_
        cases hq
        exact jw_vret dX7_moveRest_62 rfl

theorem c_X7_moveRest {h : jw_H} {x0 : Nat} {x1 : Int32} {x2 : Int32} {r : Unit} {h' : jw_H} (hq : f_X7_moveRest h x0 x1 x2 = some (r, h')) : jw_Con (Cond.code yX7_moveRest cX7_moveRest 3 none) yX7_moveRest 2 [.ref x0, .int x1, .int x2] h (.inl none) h' :=
  jw_con false (plainFor_of_name (by decide +kernel)) (fun z => nomatch z) (by simp [jw_ent, jw_sl0_nil, jw_sl0_int, jw_sl0_long, jw_sl0_ref, jw_sl0_rf, jw_sl0_scr, List.replicate]) (by simp [jw_sl0_nil, jw_sl0_int, jw_sl0_long, jw_sl0_ref, jw_sl0_rf, jw_sl0_scr]) (l_X7_moveRest hq)


/-! X7_cutTo -/
noncomputable def f_X7_cutTo (h : jw_H) (x0 : Nat) (x1 : Int32) (x2 : Int32) : Option (Unit × jw_H) :=
 (jw_rc h 7 (some x0)).bind fun a1 =>
 jw_b2 (f_X7_has h a1 x1) fun w3 h2 =>
 if w3 = 0 then (some ((), h2))
 else (if x2 < 0 then (some ((), h2))
 else ((jw_gR h2 7 (some x0) 0).bind fun v6 =>
 (jw_ai h2 20 v6 (x1 - (1 : Int32))).bind fun v7 =>
 if v7 ≤ x2 then (some ((), h2))
 else ((jw_gR h2 7 (some x0) 0).bind fun v9 =>
 (jw_si h2 20 v9 (x1 - (1 : Int32)) x2).bind fun h10 =>
 some ((), h10))))

set_option maxRecDepth 100000 in
set_option maxHeartbeats 4000000 in
theorem l_X7_cutTo {hi : jw_H} {h : jw_H} {x0 : Nat} {x1 : Int32} {x2 : Int32} {r : Unit} {h' : jw_H} (hq : f_X7_cutTo  h x0 x1 x2 = some (r, h')) : jw_E 1 uX7_cutTo hi 0 [some (.ref x0), some (.int x1), some (.int x2)] [] h (.inl none) h' := by
  unfold f_X7_cutTo at hq
  refine jw_aload_n dX7_cutTo_0 (o := (some x0)) rfl ?_
  refine jw_iload_n dX7_cutTo_1 rfl ?_
  obtain ⟨a1, ea1, hq⟩ := Option.bind_eq_some_iff.mp hq
  obtain ⟨eoa1, eta1⟩ := jw_rc_spec ea1
  obtain ⟨w3, h2, ew3, hq⟩ := jw_b2_spec hq
  refine jw_callV (As := [.int x1]) (S := []) (a := a1) (v := some (.int w3)) dX7_cutTo_2 mt_X7_has in_X7_has se_X7_has lk_X7_38 (c_X7_has ew3) eta1 (by decide) rfl rfl (by decide) (Nat.le_of_ble_eq_true rfl) (by cases eoa1; rfl) ?_
  rcases jw_if hq with ⟨c4, hq⟩ | ⟨c4, hq⟩
  · refine jw_if_eq_t (tgt := 33) dX7_cutTo_5 (by decide) c4 ?_
    cases hq
    exact jw_vret dX7_cutTo_33 rfl
  · refine jw_if_eq_f (tgt := 33) dX7_cutTo_5 (by decide) c4 ?_
    refine jw_iload_n dX7_cutTo_8 rfl ?_
    rcases jw_if hq with ⟨c5, hq⟩ | ⟨c5, hq⟩
    · refine jw_if_lt_t (tgt := 33) dX7_cutTo_9 (by decide) c5 ?_
      cases hq
      exact jw_vret dX7_cutTo_33 rfl
    · refine jw_if_lt_f (tgt := 33) dX7_cutTo_9 (by decide) c5 ?_
      refine jw_iload_n dX7_cutTo_12 rfl ?_
      refine jw_aload_n dX7_cutTo_13 (o := (some x0)) rfl ?_
      obtain ⟨v6, ev6, hq⟩ := Option.bind_eq_some_iff.mp hq
      refine jw_getR (o := (some x0)) dX7_cutTo_14 ev6 fl_X7_15 rfl ?_
      refine jw_iload_n dX7_cutTo_17 rfl ?_
      refine jw_iconst dX7_cutTo_18 (v := (1 : Int32)) (by decide) ?_
      refine jw_isub dX7_cutTo_19 ?_
      obtain ⟨v7, ev7, hq⟩ := Option.bind_eq_some_iff.mp hq
      refine jw_iald (o := v6) dX7_cutTo_20 ev7 ?_
      rcases jw_if hq with ⟨c8, hq⟩ | ⟨c8, hq⟩
      · refine jw_icmp_ge_t (tgt := 33) dX7_cutTo_21 (by decide) c8 ?_
        cases hq
        exact jw_vret dX7_cutTo_33 rfl
      · refine jw_icmp_ge_f (tgt := 33) dX7_cutTo_21 (by decide) c8 ?_
        refine jw_aload_n dX7_cutTo_24 (o := (some x0)) rfl ?_
        obtain ⟨v9, ev9, hq⟩ := Option.bind_eq_some_iff.mp hq
        refine jw_getR (o := (some x0)) dX7_cutTo_25 ev9 fl_X7_15 rfl ?_
        refine jw_iload_n dX7_cutTo_28 rfl ?_
        refine jw_iconst dX7_cutTo_29 (v := (1 : Int32)) (by decide) ?_
        refine jw_isub dX7_cutTo_30 ?_
        refine jw_iload_n dX7_cutTo_31 rfl ?_
        obtain ⟨h10, eh10, hq⟩ := Option.bind_eq_some_iff.mp hq
        refine jw_iast (o := v9) dX7_cutTo_32 eh10 ?_
        cases hq
        exact jw_vret dX7_cutTo_33 rfl

theorem c_X7_cutTo {h : jw_H} {x0 : Nat} {x1 : Int32} {x2 : Int32} {r : Unit} {h' : jw_H} (hq : f_X7_cutTo h x0 x1 x2 = some (r, h')) : jw_Con (Cond.code yX7_cutTo cX7_cutTo 3 none) yX7_cutTo 1 [.ref x0, .int x1, .int x2] h (.inl none) h' :=
  jw_con false (plainFor_of_name (by decide +kernel)) (fun z => nomatch z) (by simp [jw_ent, jw_sl0_nil, jw_sl0_int, jw_sl0_long, jw_sl0_ref, jw_sl0_rf, jw_sl0_scr, List.replicate]) (by simp [jw_sl0_nil, jw_sl0_int, jw_sl0_long, jw_sl0_ref, jw_sl0_rf, jw_sl0_scr]) (l_X7_cutTo hq)


/-! X1_part -/
noncomputable def f_X1_part (h : jw_H) (x0 : Nat) (x1 : Int32) : Option (Unit × jw_H) :=
 (jw_gR h 1 (some x0) 7).bind fun v1 =>
 (jw_rc h 7 v1).bind fun a2 =>
 jw_b2 (f_X7_lengthOf h a2 (1 : Int32)) fun w4 h3 =>
 if x1 < w4 then ((jw_gR h3 1 (some x0) 9).bind fun v6 =>
 (jw_rc h3 7 v6).bind fun a7 =>
 jw_b2 (f_X7_shrink h3 a7 (0 : Int32)) fun w9 h8 =>
 (jw_gR h8 1 (some x0) 9).bind fun v10 =>
 (jw_gR h8 1 (some x0) 7).bind fun v11 =>
 (jw_rc h8 7 v10).bind fun a12 =>
 jw_b2 (f_X7_addRow h8 a12 v11 (1 : Int32)) fun w14 h13 =>
 (jw_gR h13 1 (some x0) 9).bind fun v15 =>
 (jw_rc h13 7 v15).bind fun a16 =>
 jw_b2 (f_X7_open h13 a16 (2 : Int32) (1 : Int32)) fun w18 h17 =>
 (jw_gR h17 1 (some x0) 9).bind fun v19 =>
 (jw_rc h17 7 v19).bind fun a20 =>
 jw_b2 (f_X7_moveRest h17 a20 (1 : Int32) x1) fun w22 h21 =>
 (jw_gR h21 1 (some x0) 8).bind fun v23 =>
 (jw_gR h21 1 (some x0) 9).bind fun v24 =>
 (jw_rc h21 7 v23).bind fun a25 =>
 jw_b2 (f_X7_addRow h21 a25 v24 (2 : Int32)) fun w27 h26 =>
 (jw_gR h26 1 (some x0) 7).bind fun v28 =>
 (jw_rc h26 7 v28).bind fun a29 =>
 jw_b2 (f_X7_cutTo h26 a29 (1 : Int32) x1) fun w31 h30 =>
 some ((), h30))
 else (some ((), h3))

set_option maxRecDepth 100000 in
set_option maxHeartbeats 4000000 in
theorem l_X1_part {hi : jw_H} {h : jw_H} {x0 : Nat} {x1 : Int32} {r : Unit} {h' : jw_H} (hq : f_X1_part  h x0 x1 = some (r, h')) : jw_E 3 uX1_part hi 0 [some (.ref x0), some (.int x1)] [] h (.inl none) h' := by
  unfold f_X1_part at hq
  refine jw_aload_n dX1_part_0 (o := (some x0)) rfl ?_
  obtain ⟨v1, ev1, hq⟩ := Option.bind_eq_some_iff.mp hq
  refine jw_getR (o := (some x0)) dX1_part_1 ev1 fl_X1_45 rfl ?_
  refine jw_iconst dX1_part_4 (v := (1 : Int32)) (by decide) ?_
  obtain ⟨a2, ea2, hq⟩ := Option.bind_eq_some_iff.mp hq
  obtain ⟨eoa2, eta2⟩ := jw_rc_spec ea2
  obtain ⟨w4, h3, ew4, hq⟩ := jw_b2_spec hq
  refine jw_callV (As := [.int (1 : Int32)]) (S := []) (a := a2) (v := some (.int w4)) dX1_part_5 mt_X7_lengthOf in_X7_lengthOf se_X7_lengthOf lk_X1_278 (c_X7_lengthOf ew4) eta2 (by decide) rfl rfl (by decide) (Nat.le_of_ble_eq_true rfl) (by cases eoa2; rfl) ?_
  refine jw_iload_n dX1_part_8 rfl ?_
  rcases jw_if hq with ⟨c5, hq⟩ | ⟨c5, hq⟩
  · refine jw_icmp_gt_t (tgt := 13) dX1_part_9 (by decide) c5 ?_
    refine jw_aload_n dX1_part_13 (o := (some x0)) rfl ?_
    obtain ⟨v6, ev6, hq⟩ := Option.bind_eq_some_iff.mp hq
    refine jw_getR (o := (some x0)) dX1_part_14 ev6 fl_X1_52 rfl ?_
    refine jw_iconst dX1_part_17 (v := (0 : Int32)) (by decide) ?_
    obtain ⟨a7, ea7, hq⟩ := Option.bind_eq_some_iff.mp hq
    obtain ⟨eoa7, eta7⟩ := jw_rc_spec ea7
    obtain ⟨w9, h8, ew9, hq⟩ := jw_b2_spec hq
    refine jw_callV (As := [.int (0 : Int32)]) (S := []) (a := a7) (v := none) dX1_part_18 mt_X7_shrink in_X7_shrink se_X7_shrink lk_X1_112 (c_X7_shrink ew9) eta7 (by decide) rfl rfl (by decide) (Nat.le_of_ble_eq_true rfl) (by cases eoa7; rfl) ?_
    refine jw_aload_n dX1_part_21 (o := (some x0)) rfl ?_
    obtain ⟨v10, ev10, hq⟩ := Option.bind_eq_some_iff.mp hq
    refine jw_getR (o := (some x0)) dX1_part_22 ev10 fl_X1_52 rfl ?_
    refine jw_aload_n dX1_part_25 (o := (some x0)) rfl ?_
    obtain ⟨v11, ev11, hq⟩ := Option.bind_eq_some_iff.mp hq
    refine jw_getR (o := (some x0)) dX1_part_26 ev11 fl_X1_45 rfl ?_
    refine jw_iconst dX1_part_29 (v := (1 : Int32)) (by decide) ?_
    obtain ⟨a12, ea12, hq⟩ := Option.bind_eq_some_iff.mp hq
    obtain ⟨eoa12, eta12⟩ := jw_rc_spec ea12
    obtain ⟨w14, h13, ew14, hq⟩ := jw_b2_spec hq
    refine jw_callV (As := [va_rf v11, .int (1 : Int32)]) (S := []) (a := a12) (v := some (.int w14)) dX1_part_30 mt_X7_addRow in_X7_addRow se_X7_addRow lk_X1_144 (c_X7_addRow ew14) eta12 (by decide) rfl rfl (by decide) (Nat.le_of_ble_eq_true rfl) (by cases eoa12; rfl) ?_
    refine jw_pop dX1_part_33 rfl ?_
    refine jw_aload_n dX1_part_34 (o := (some x0)) rfl ?_
    obtain ⟨v15, ev15, hq⟩ := Option.bind_eq_some_iff.mp hq
    refine jw_getR (o := (some x0)) dX1_part_35 ev15 fl_X1_52 rfl ?_
    refine jw_iconst dX1_part_38 (v := (2 : Int32)) (by decide) ?_
    refine jw_iconst dX1_part_39 (v := (1 : Int32)) (by decide) ?_
    obtain ⟨a16, ea16, hq⟩ := Option.bind_eq_some_iff.mp hq
    obtain ⟨eoa16, eta16⟩ := jw_rc_spec ea16
    obtain ⟨w18, h17, ew18, hq⟩ := jw_b2_spec hq
    refine jw_callV (As := [.int (2 : Int32), .int (1 : Int32)]) (S := []) (a := a16) (v := some (.int w18)) dX1_part_40 mt_X7_open in_X7_open se_X7_open lk_X1_281 (c_X7_open ew18) eta16 (by decide) rfl rfl (by decide) (Nat.le_of_ble_eq_true rfl) (by cases eoa16; rfl) ?_
    refine jw_pop dX1_part_43 rfl ?_
    refine jw_aload_n dX1_part_44 (o := (some x0)) rfl ?_
    obtain ⟨v19, ev19, hq⟩ := Option.bind_eq_some_iff.mp hq
    refine jw_getR (o := (some x0)) dX1_part_45 ev19 fl_X1_52 rfl ?_
    refine jw_iconst dX1_part_48 (v := (1 : Int32)) (by decide) ?_
    refine jw_iload_n dX1_part_49 rfl ?_
    obtain ⟨a20, ea20, hq⟩ := Option.bind_eq_some_iff.mp hq
    obtain ⟨eoa20, eta20⟩ := jw_rc_spec ea20
    obtain ⟨w22, h21, ew22, hq⟩ := jw_b2_spec hq
    refine jw_callV (As := [.int (1 : Int32), .int x1]) (S := []) (a := a20) (v := none) dX1_part_50 mt_X7_moveRest in_X7_moveRest se_X7_moveRest lk_X1_285 (c_X7_moveRest ew22) eta20 (by decide) rfl rfl (by decide) (Nat.le_of_ble_eq_true rfl) (by cases eoa20; rfl) ?_
    refine jw_aload_n dX1_part_53 (o := (some x0)) rfl ?_
    obtain ⟨v23, ev23, hq⟩ := Option.bind_eq_some_iff.mp hq
    refine jw_getR (o := (some x0)) dX1_part_54 ev23 fl_X1_49 rfl ?_
    refine jw_aload_n dX1_part_57 (o := (some x0)) rfl ?_
    obtain ⟨v24, ev24, hq⟩ := Option.bind_eq_some_iff.mp hq
    refine jw_getR (o := (some x0)) dX1_part_58 ev24 fl_X1_52 rfl ?_
    refine jw_iconst dX1_part_61 (v := (2 : Int32)) (by decide) ?_
    obtain ⟨a25, ea25, hq⟩ := Option.bind_eq_some_iff.mp hq
    obtain ⟨eoa25, eta25⟩ := jw_rc_spec ea25
    obtain ⟨w27, h26, ew27, hq⟩ := jw_b2_spec hq
    refine jw_callV (As := [va_rf v24, .int (2 : Int32)]) (S := []) (a := a25) (v := some (.int w27)) dX1_part_62 mt_X7_addRow in_X7_addRow se_X7_addRow lk_X1_144 (c_X7_addRow ew27) eta25 (by decide) rfl rfl (by decide) (Nat.le_of_ble_eq_true rfl) (by cases eoa25; rfl) ?_
    refine jw_pop dX1_part_65 rfl ?_
    refine jw_aload_n dX1_part_66 (o := (some x0)) rfl ?_
    obtain ⟨v28, ev28, hq⟩ := Option.bind_eq_some_iff.mp hq
    refine jw_getR (o := (some x0)) dX1_part_67 ev28 fl_X1_45 rfl ?_
    refine jw_iconst dX1_part_70 (v := (1 : Int32)) (by decide) ?_
    refine jw_iload_n dX1_part_71 rfl ?_
    obtain ⟨a29, ea29, hq⟩ := Option.bind_eq_some_iff.mp hq
    obtain ⟨eoa29, eta29⟩ := jw_rc_spec ea29
    obtain ⟨w31, h30, ew31, hq⟩ := jw_b2_spec hq
    refine jw_callV (As := [.int (1 : Int32), .int x1]) (S := []) (a := a29) (v := none) dX1_part_72 mt_X7_cutTo in_X7_cutTo se_X7_cutTo lk_X1_289 (c_X7_cutTo ew31) eta29 (by decide) rfl rfl (by decide) (Nat.le_of_ble_eq_true rfl) (by cases eoa29; rfl) ?_
    cases hq
    exact jw_vret dX1_part_75 rfl
  · refine jw_icmp_gt_f (tgt := 13) dX1_part_9 (by decide) c5 ?_
    cases hq
    exact jw_vret dX1_part_12 rfl

theorem c_X1_part {h : jw_H} {x0 : Nat} {x1 : Int32} {r : Unit} {h' : jw_H} (hq : f_X1_part h x0 x1 = some (r, h')) : jw_Con (Cond.code yX1_part cX1_part 2 none) yX1_part 3 [.ref x0, .int x1] h (.inl none) h' :=
  jw_con false (plainFor_of_name (by decide +kernel)) (fun z => nomatch z) (by simp [jw_ent, jw_sl0_nil, jw_sl0_int, jw_sl0_long, jw_sl0_ref, jw_sl0_rf, jw_sl0_scr, List.replicate]) (by simp [jw_sl0_nil, jw_sl0_int, jw_sl0_long, jw_sl0_ref, jw_sl0_rf, jw_sl0_scr]) (l_X1_part hq)


/-! X7_extend -/
noncomputable def f_X7_extend (h : jw_H) (x0 : Nat) (x1 : Int32) (x2 : Option Nat) (x3 : Int32) : Option (Int32 × jw_H) :=
 (jw_rc h 7 x2).bind fun a1 =>
 jw_b2 (f_X7_lengthOf h a1 x3) fun w3 h2 =>
 (jw_rc h2 7 (some x0)).bind fun a4 =>
 jw_b2 (f_X7_has h2 a4 x1) fun w6 h5 =>
 if w6 = 0 then (some ((0 : Int32), h5))
 else (if w3 < 0 then (some ((0 : Int32), h5))
 else ((jw_gR h5 7 (some x0) 0).bind fun v9 =>
 (jw_ai h5 20 v9 (x1 - (1 : Int32))).bind fun v10 =>
 if (v10 + w3) ≤ (30 : Int32) then ((jw_gR h5 7 (some x0) 0).bind fun v12 =>
 (jw_ai h5 20 v12 (x1 - (1 : Int32))).bind fun v13 =>
 (jw_gR h5 7 x2 1).bind fun v14 =>
 (jw_gR h5 7 (some x0) 1).bind fun v15 =>
 (jw_cp h5 21 v14 ((x3 - (1 : Int32)) * (30 : Int32)) v15 (((x1 - (1 : Int32)) * (30 : Int32)) + v13) w3).bind fun h16 =>
 (jw_gR h16 7 (some x0) 0).bind fun v17 =>
 (jw_ai h16 20 v17 (x1 - (1 : Int32))).bind fun v18 =>
 (jw_si h16 20 v17 (x1 - (1 : Int32)) (v18 + w3)).bind fun h19 =>
 some ((1 : Int32), h19))
 else (some ((0 : Int32), h5))))

set_option maxRecDepth 100000 in
set_option maxHeartbeats 4000000 in
theorem l_X7_extend {hi : jw_H} {h : jw_H} {x0 : Nat} {x1 : Int32} {x2 : Option Nat} {x3 : Int32} {r : Int32} {h' : jw_H} (hq : f_X7_extend  h x0 x1 x2 x3 = some (r, h')) : jw_E 1 uX7_extend hi 0 [some (.ref x0), some (.int x1), some (va_rf x2), some (.int x3), none, none] [] h (.inl (some (.int r))) h' := by
  unfold f_X7_extend at hq
  refine jw_aload_n dX7_extend_0 (o := x2) rfl ?_
  refine jw_iload_n dX7_extend_1 rfl ?_
  obtain ⟨a1, ea1, hq⟩ := Option.bind_eq_some_iff.mp hq
  obtain ⟨eoa1, eta1⟩ := jw_rc_spec ea1
  obtain ⟨w3, h2, ew3, hq⟩ := jw_b2_spec hq
  refine jw_callV (As := [.int x3]) (S := []) (a := a1) (v := some (.int w3)) dX7_extend_2 mt_X7_lengthOf in_X7_lengthOf se_X7_lengthOf lk_X7_42 (c_X7_lengthOf ew3) eta1 (by decide) rfl rfl (by decide) (Nat.le_of_ble_eq_true rfl) (by cases eoa1; rfl) ?_
  refine jw_istore (L' := [some (.ref x0), some (.int x1), some (va_rf x2), some (.int x3), some (.int w3), none]) dX7_extend_5 (Nat.le_of_ble_eq_true rfl) rfl ?_
  refine jw_aload_n dX7_extend_7 (o := (some x0)) rfl ?_
  refine jw_iload_n dX7_extend_8 rfl ?_
  obtain ⟨a4, ea4, hq⟩ := Option.bind_eq_some_iff.mp hq
  obtain ⟨eoa4, eta4⟩ := jw_rc_spec ea4
  obtain ⟨w6, h5, ew6, hq⟩ := jw_b2_spec hq
  refine jw_callV (As := [.int x1]) (S := []) (a := a4) (v := some (.int w6)) dX7_extend_9 mt_X7_has in_X7_has se_X7_has lk_X7_38 (c_X7_has ew6) eta4 (by decide) rfl rfl (by decide) (Nat.le_of_ble_eq_true rfl) (by cases eoa4; rfl) ?_
  rcases jw_if hq with ⟨c7, hq⟩ | ⟨c7, hq⟩
  · refine jw_if_eq_t (tgt := 36) dX7_extend_12 (by decide) c7 ?_
    refine jw_iconst dX7_extend_36 (v := (0 : Int32)) (by decide) ?_
    cases hq
    exact jw_iret (ty := .boolean) dX7_extend_37 rfl rfl
  · refine jw_if_eq_f (tgt := 36) dX7_extend_12 (by decide) c7 ?_
    refine jw_iload dX7_extend_15 rfl ?_
    rcases jw_if hq with ⟨c8, hq⟩ | ⟨c8, hq⟩
    · refine jw_if_lt_t (tgt := 36) dX7_extend_17 (by decide) c8 ?_
      refine jw_iconst dX7_extend_36 (v := (0 : Int32)) (by decide) ?_
      cases hq
      exact jw_iret (ty := .boolean) dX7_extend_37 rfl rfl
    · refine jw_if_lt_f (tgt := 36) dX7_extend_17 (by decide) c8 ?_
      refine jw_aload_n dX7_extend_20 (o := (some x0)) rfl ?_
      obtain ⟨v9, ev9, hq⟩ := Option.bind_eq_some_iff.mp hq
      refine jw_getR (o := (some x0)) dX7_extend_21 ev9 fl_X7_15 rfl ?_
      refine jw_iload_n dX7_extend_24 rfl ?_
      refine jw_iconst dX7_extend_25 (v := (1 : Int32)) (by decide) ?_
      refine jw_isub dX7_extend_26 ?_
      obtain ⟨v10, ev10, hq⟩ := Option.bind_eq_some_iff.mp hq
      refine jw_iald (o := v9) dX7_extend_27 ev10 ?_
      refine jw_iload dX7_extend_28 rfl ?_
      refine jw_iadd dX7_extend_30 ?_
      refine jw_bipush dX7_extend_31 (v := (30 : Int32)) (by decide) ?_
      rcases jw_if hq with ⟨c11, hq⟩ | ⟨c11, hq⟩
      · refine jw_icmp_le_t (tgt := 38) dX7_extend_33 (by decide) c11 ?_
        refine jw_iload_n dX7_extend_38 rfl ?_
        refine jw_iconst dX7_extend_39 (v := (1 : Int32)) (by decide) ?_
        refine jw_isub dX7_extend_40 ?_
        refine jw_bipush dX7_extend_41 (v := (30 : Int32)) (by decide) ?_
        refine jw_imul dX7_extend_43 ?_
        refine jw_aload_n dX7_extend_44 (o := (some x0)) rfl ?_
        obtain ⟨v12, ev12, hq⟩ := Option.bind_eq_some_iff.mp hq
        refine jw_getR (o := (some x0)) dX7_extend_45 ev12 fl_X7_15 rfl ?_
        refine jw_iload_n dX7_extend_48 rfl ?_
        refine jw_iconst dX7_extend_49 (v := (1 : Int32)) (by decide) ?_
        refine jw_isub dX7_extend_50 ?_
        obtain ⟨v13, ev13, hq⟩ := Option.bind_eq_some_iff.mp hq
        refine jw_iald (o := v12) dX7_extend_51 ev13 ?_
        refine jw_iadd dX7_extend_52 ?_
        refine jw_istore (L' := [some (.ref x0), some (.int x1), some (va_rf x2), some (.int x3), some (.int w3), some (.int (((x1 - (1 : Int32)) * (30 : Int32)) + v13))]) dX7_extend_53 (Nat.le_of_ble_eq_true rfl) rfl ?_
        refine jw_aload_n dX7_extend_55 (o := x2) rfl ?_
        obtain ⟨v14, ev14, hq⟩ := Option.bind_eq_some_iff.mp hq
        refine jw_getR (o := x2) dX7_extend_56 ev14 fl_X7_21 rfl ?_
        refine jw_iload_n dX7_extend_59 rfl ?_
        refine jw_iconst dX7_extend_60 (v := (1 : Int32)) (by decide) ?_
        refine jw_isub dX7_extend_61 ?_
        refine jw_bipush dX7_extend_62 (v := (30 : Int32)) (by decide) ?_
        refine jw_imul dX7_extend_64 ?_
        refine jw_aload_n dX7_extend_65 (o := (some x0)) rfl ?_
        obtain ⟨v15, ev15, hq⟩ := Option.bind_eq_some_iff.mp hq
        refine jw_getR (o := (some x0)) dX7_extend_66 ev15 fl_X7_21 rfl ?_
        refine jw_iload dX7_extend_69 rfl ?_
        refine jw_iload dX7_extend_71 rfl ?_
        obtain ⟨h16, eh16, hq⟩ := Option.bind_eq_some_iff.mp hq
        refine jw_acp (o1 := v14) (o2 := v15) (t := 21) dX7_extend_73 (by decide) al_X7_32 an_0 as_0 ai_0 (by decide) (Nat.le_of_ble_eq_true rfl) eh16 ?_
        refine jw_aload_n dX7_extend_76 (o := (some x0)) rfl ?_
        obtain ⟨v17, ev17, hq⟩ := Option.bind_eq_some_iff.mp hq
        refine jw_getR (o := (some x0)) dX7_extend_77 ev17 fl_X7_15 rfl ?_
        refine jw_iload_n dX7_extend_80 rfl ?_
        refine jw_iconst dX7_extend_81 (v := (1 : Int32)) (by decide) ?_
        refine jw_isub dX7_extend_82 ?_
        refine jw_dup2 dX7_extend_83 rfl jw_cat_rf ?_
        obtain ⟨v18, ev18, hq⟩ := Option.bind_eq_some_iff.mp hq
        refine jw_iald (o := v17) dX7_extend_84 ev18 ?_
        refine jw_iload dX7_extend_85 rfl ?_
        refine jw_iadd dX7_extend_87 ?_
        obtain ⟨h19, eh19, hq⟩ := Option.bind_eq_some_iff.mp hq
        refine jw_iast (o := v17) dX7_extend_88 eh19 ?_
        refine jw_iconst dX7_extend_89 (v := (1 : Int32)) (by decide) ?_
        cases hq
        exact jw_iret (ty := .boolean) dX7_extend_90 rfl rfl
      · refine jw_icmp_le_f (tgt := 38) dX7_extend_33 (by decide) c11 ?_
        refine jw_iconst dX7_extend_36 (v := (0 : Int32)) (by decide) ?_
        cases hq
        exact jw_iret (ty := .boolean) dX7_extend_37 rfl rfl

theorem c_X7_extend {h : jw_H} {x0 : Nat} {x1 : Int32} {x2 : Option Nat} {x3 : Int32} {r : Int32} {h' : jw_H} (hq : f_X7_extend h x0 x1 x2 x3 = some (r, h')) : jw_Con (Cond.code yX7_extend cX7_extend 6 (some .boolean)) yX7_extend 1 [.ref x0, .int x1, va_rf x2, .int x3] h (.inl (some (.int r))) h' :=
  jw_con false (plainFor_of_name (by decide +kernel)) (fun z => nomatch z) (by simp [jw_ent, jw_sl0_nil, jw_sl0_int, jw_sl0_long, jw_sl0_ref, jw_sl0_rf, jw_sl0_scr, List.replicate]) (by simp [jw_sl0_nil, jw_sl0_int, jw_sl0_long, jw_sl0_ref, jw_sl0_rf, jw_sl0_scr]) (l_X7_extend hq)


/-! X1_join -/
noncomputable def f_X1_join (h : jw_H) (x0 : Nat) : Option (Unit × jw_H) :=
 (jw_gI h 1 (some x0) 12).bind fun v1 =>
 (jw_gR h 1 (some x0) 1).bind fun v2 =>
 (jw_gR h 9 v2 0).bind fun v3 =>
 (jw_gI h 7 v3 2).bind fun v4 =>
 if v1 < v4 then ((jw_gR h 1 (some x0) 7).bind fun v6 =>
 (jw_gR h 1 (some x0) 1).bind fun v7 =>
 (jw_gR h 9 v7 0).bind fun v8 =>
 (jw_gI h 1 (some x0) 12).bind fun v9 =>
 (jw_rc h 7 v6).bind fun a10 =>
 jw_b2 (f_X7_extend h a10 (1 : Int32) v8 (v9 + (1 : Int32))) fun w12 h11 =>
 if w12 = 0 then ((jw_pI h11 1 (some x0) 15 (4 : Int32)).bind fun h27 =>
 some ((), h27))
 else ((jw_gI h11 1 (some x0) 12).bind fun v14 =>
 (jw_pI h11 1 (some x0) 12 (v14 + (1 : Int32))).bind fun h15 =>
 (jw_gI h15 1 (some x0) 12).bind fun v16 =>
 (jw_pI h15 1 (some x0) 11 v16).bind fun h17 =>
 (jw_gR h17 1 (some x0) 6).bind fun v18 =>
 (jw_gR h17 1 (some x0) 1).bind fun v19 =>
 (jw_gI h17 1 (some x0) 12).bind fun v20 =>
 (jw_rc h17 9 v19).bind fun a21 =>
 jw_b2 (f_X9_idOf h17 a21 v20) fun w23 h22 =>
 (jw_rc h22 9 v18).bind fun a24 =>
 jw_b2 (f_X9_dropMarks h22 a24 w23) fun w26 h25 =>
 some ((), h25)))
 else (some ((), h))

set_option maxRecDepth 100000 in
set_option maxHeartbeats 4000000 in
theorem l_X1_join {hi : jw_H} {h : jw_H} {x0 : Nat} {r : Unit} {h' : jw_H} (hq : f_X1_join  h x0 = some (r, h')) : jw_E 2 uX1_join hi 0 [some (.ref x0)] [] h (.inl none) h' := by
  unfold f_X1_join at hq
  refine jw_aload_n dX1_join_0 (o := (some x0)) rfl ?_
  obtain ⟨v1, ev1, hq⟩ := Option.bind_eq_some_iff.mp hq
  refine jw_getI (o := (some x0)) dX1_join_1 ev1 fl_X1_115 rfl ?_
  refine jw_aload_n dX1_join_4 (o := (some x0)) rfl ?_
  obtain ⟨v2, ev2, hq⟩ := Option.bind_eq_some_iff.mp hq
  refine jw_getR (o := (some x0)) dX1_join_5 ev2 fl_X1_15 rfl ?_
  obtain ⟨v3, ev3, hq⟩ := Option.bind_eq_some_iff.mp hq
  refine jw_getR (o := v2) dX1_join_8 ev3 fl_X1_96 rfl ?_
  obtain ⟨v4, ev4, hq⟩ := Option.bind_eq_some_iff.mp hq
  refine jw_getI (o := v3) dX1_join_11 ev4 fl_X1_99 rfl ?_
  rcases jw_if hq with ⟨c5, hq⟩ | ⟨c5, hq⟩
  · refine jw_icmp_lt_t (tgt := 18) dX1_join_14 (by decide) c5 ?_
    refine jw_aload_n dX1_join_18 (o := (some x0)) rfl ?_
    obtain ⟨v6, ev6, hq⟩ := Option.bind_eq_some_iff.mp hq
    refine jw_getR (o := (some x0)) dX1_join_19 ev6 fl_X1_45 rfl ?_
    refine jw_iconst dX1_join_22 (v := (1 : Int32)) (by decide) ?_
    refine jw_aload_n dX1_join_23 (o := (some x0)) rfl ?_
    obtain ⟨v7, ev7, hq⟩ := Option.bind_eq_some_iff.mp hq
    refine jw_getR (o := (some x0)) dX1_join_24 ev7 fl_X1_15 rfl ?_
    obtain ⟨v8, ev8, hq⟩ := Option.bind_eq_some_iff.mp hq
    refine jw_getR (o := v7) dX1_join_27 ev8 fl_X1_96 rfl ?_
    refine jw_aload_n dX1_join_30 (o := (some x0)) rfl ?_
    obtain ⟨v9, ev9, hq⟩ := Option.bind_eq_some_iff.mp hq
    refine jw_getI (o := (some x0)) dX1_join_31 ev9 fl_X1_115 rfl ?_
    refine jw_iconst dX1_join_34 (v := (1 : Int32)) (by decide) ?_
    refine jw_iadd dX1_join_35 ?_
    obtain ⟨a10, ea10, hq⟩ := Option.bind_eq_some_iff.mp hq
    obtain ⟨eoa10, eta10⟩ := jw_rc_spec ea10
    obtain ⟨w12, h11, ew12, hq⟩ := jw_b2_spec hq
    refine jw_callV (As := [.int (1 : Int32), va_rf v8, .int (v9 + (1 : Int32))]) (S := []) (a := a10) (v := some (.int w12)) dX1_join_36 mt_X7_extend in_X7_extend se_X7_extend lk_X1_292 (c_X7_extend ew12) eta10 (by decide) rfl rfl (by decide) (Nat.le_of_ble_eq_true rfl) (by cases eoa10; rfl) ?_
    rcases jw_if hq with ⟨c13, hq⟩ | ⟨c13, hq⟩
    · refine jw_if_ne_f (tgt := 48) dX1_join_39 (by decide) c13 ?_
      refine jw_aload_n dX1_join_42 (o := (some x0)) rfl ?_
      refine jw_iconst dX1_join_43 (v := (4 : Int32)) (by decide) ?_
      obtain ⟨h27, eh27, hq⟩ := Option.bind_eq_some_iff.mp hq
      refine jw_putI (o := (some x0)) dX1_join_44 eh27 fl_X1_65 rfl rfl ?_
      cases hq
      exact jw_vret dX1_join_47 rfl
    · refine jw_if_ne_t (tgt := 48) dX1_join_39 (by decide) c13 ?_
      refine jw_aload_n dX1_join_48 (o := (some x0)) rfl ?_
      refine jw_dup dX1_join_49 rfl ?_
      obtain ⟨v14, ev14, hq⟩ := Option.bind_eq_some_iff.mp hq
      refine jw_getI (o := (some x0)) dX1_join_50 ev14 fl_X1_115 rfl ?_
      refine jw_iconst dX1_join_53 (v := (1 : Int32)) (by decide) ?_
      refine jw_iadd dX1_join_54 ?_
      obtain ⟨h15, eh15, hq⟩ := Option.bind_eq_some_iff.mp hq
      refine jw_putI (o := (some x0)) dX1_join_55 eh15 fl_X1_115 rfl rfl ?_
      refine jw_aload_n dX1_join_58 (o := (some x0)) rfl ?_
      refine jw_aload_n dX1_join_59 (o := (some x0)) rfl ?_
      obtain ⟨v16, ev16, hq⟩ := Option.bind_eq_some_iff.mp hq
      refine jw_getI (o := (some x0)) dX1_join_60 ev16 fl_X1_115 rfl ?_
      obtain ⟨h17, eh17, hq⟩ := Option.bind_eq_some_iff.mp hq
      refine jw_putI (o := (some x0)) dX1_join_63 eh17 fl_X1_137 rfl rfl ?_
      refine jw_aload_n dX1_join_66 (o := (some x0)) rfl ?_
      obtain ⟨v18, ev18, hq⟩ := Option.bind_eq_some_iff.mp hq
      refine jw_getR (o := (some x0)) dX1_join_67 ev18 fl_X1_37 rfl ?_
      refine jw_aload_n dX1_join_70 (o := (some x0)) rfl ?_
      obtain ⟨v19, ev19, hq⟩ := Option.bind_eq_some_iff.mp hq
      refine jw_getR (o := (some x0)) dX1_join_71 ev19 fl_X1_15 rfl ?_
      refine jw_aload_n dX1_join_74 (o := (some x0)) rfl ?_
      obtain ⟨v20, ev20, hq⟩ := Option.bind_eq_some_iff.mp hq
      refine jw_getI (o := (some x0)) dX1_join_75 ev20 fl_X1_115 rfl ?_
      obtain ⟨a21, ea21, hq⟩ := Option.bind_eq_some_iff.mp hq
      obtain ⟨eoa21, eta21⟩ := jw_rc_spec ea21
      obtain ⟨w23, h22, ew23, hq⟩ := jw_b2_spec hq
      refine jw_callV (As := [.int v20]) (S := [va_rf v18]) (a := a21) (v := some (.int w23)) dX1_join_78 mt_X9_idOf in_X9_idOf se_X9_idOf lk_X1_138 (c_X9_idOf ew23) eta21 (by decide) rfl rfl (by decide) (by simp only [List.map_cons, List.map_nil, List.sum_cons, List.sum_nil, jw_cat_rf, jw_cat_i, jw_cat_l, jw_cat_a, jw_cat_s] <;> decide) (by cases eoa21; rfl) ?_
      obtain ⟨a24, ea24, hq⟩ := Option.bind_eq_some_iff.mp hq
      obtain ⟨eoa24, eta24⟩ := jw_rc_spec ea24
      obtain ⟨w26, h25, ew26, hq⟩ := jw_b2_spec hq
      refine jw_callV (As := [.int w23]) (S := []) (a := a24) (v := none) dX1_join_81 mt_X9_dropMarks in_X9_dropMarks se_X9_dropMarks lk_X1_275 (c_X9_dropMarks ew26) eta24 (by decide) rfl rfl (by decide) (Nat.le_of_ble_eq_true rfl) (by cases eoa24; rfl) ?_
      cases hq
      exact jw_vret dX1_join_84 rfl
  · refine jw_icmp_lt_f (tgt := 18) dX1_join_14 (by decide) c5 ?_
    cases hq
    exact jw_vret dX1_join_17 rfl

theorem c_X1_join {h : jw_H} {x0 : Nat} {r : Unit} {h' : jw_H} (hq : f_X1_join h x0 = some (r, h')) : jw_Con (Cond.code yX1_join cX1_join 1 none) yX1_join 2 [.ref x0] h (.inl none) h' :=
  jw_con false (plainFor_of_name (by decide +kernel)) (fun z => nomatch z) (by simp [jw_ent, jw_sl0_nil, jw_sl0_int, jw_sl0_long, jw_sl0_ref, jw_sl0_rf, jw_sl0_scr, List.replicate]) (by simp [jw_sl0_nil, jw_sl0_int, jw_sl0_long, jw_sl0_ref, jw_sl0_rf, jw_sl0_scr]) (l_X1_join hq)


/-! X7_take -/
noncomputable def f_X7_take (h : jw_H) (x0 : Nat) (x1 : Int32) (x2 : Option Nat) (x3 : Int32) : Option (Unit × jw_H) :=
 (jw_rc h 7 x2).bind fun a1 =>
 jw_b2 (f_X7_has h a1 x3) fun w3 h2 =>
 if w3 = 0 then (some ((), h2))
 else ((jw_gR h2 7 x2 1).bind fun v5 =>
 (jw_rc h2 7 x2).bind fun a6 =>
 jw_b2 (f_X7_lengthOf h2 a6 x3) fun w8 h7 =>
 (jw_rc h7 7 (some x0)).bind fun a9 =>
 jw_b2 (f_X7_write h7 a9 x1 v5 ((x3 - (1 : Int32)) * (30 : Int32)) w8) fun w11 h10 =>
 some ((), h10))

set_option maxRecDepth 100000 in
set_option maxHeartbeats 4000000 in
theorem l_X7_take {hi : jw_H} {h : jw_H} {x0 : Nat} {x1 : Int32} {x2 : Option Nat} {x3 : Int32} {r : Unit} {h' : jw_H} (hq : f_X7_take  h x0 x1 x2 x3 = some (r, h')) : jw_E 2 uX7_take hi 0 [some (.ref x0), some (.int x1), some (va_rf x2), some (.int x3)] [] h (.inl none) h' := by
  unfold f_X7_take at hq
  refine jw_aload_n dX7_take_0 (o := x2) rfl ?_
  refine jw_iload_n dX7_take_1 rfl ?_
  obtain ⟨a1, ea1, hq⟩ := Option.bind_eq_some_iff.mp hq
  obtain ⟨eoa1, eta1⟩ := jw_rc_spec ea1
  obtain ⟨w3, h2, ew3, hq⟩ := jw_b2_spec hq
  refine jw_callV (As := [.int x3]) (S := []) (a := a1) (v := some (.int w3)) dX7_take_2 mt_X7_has in_X7_has se_X7_has lk_X7_38 (c_X7_has ew3) eta1 (by decide) rfl rfl (by decide) (Nat.le_of_ble_eq_true rfl) (by cases eoa1; rfl) ?_
  rcases jw_if hq with ⟨c4, hq⟩ | ⟨c4, hq⟩
  · refine jw_if_eq_t (tgt := 28) dX7_take_5 (by decide) c4 ?_
    cases hq
    exact jw_vret dX7_take_28 rfl
  · refine jw_if_eq_f (tgt := 28) dX7_take_5 (by decide) c4 ?_
    refine jw_aload_n dX7_take_8 (o := (some x0)) rfl ?_
    refine jw_iload_n dX7_take_9 rfl ?_
    refine jw_aload_n dX7_take_10 (o := x2) rfl ?_
    obtain ⟨v5, ev5, hq⟩ := Option.bind_eq_some_iff.mp hq
    refine jw_getR (o := x2) dX7_take_11 ev5 fl_X7_21 rfl ?_
    refine jw_iload_n dX7_take_14 rfl ?_
    refine jw_iconst dX7_take_15 (v := (1 : Int32)) (by decide) ?_
    refine jw_isub dX7_take_16 ?_
    refine jw_bipush dX7_take_17 (v := (30 : Int32)) (by decide) ?_
    refine jw_imul dX7_take_19 ?_
    refine jw_aload_n dX7_take_20 (o := x2) rfl ?_
    refine jw_iload_n dX7_take_21 rfl ?_
    obtain ⟨a6, ea6, hq⟩ := Option.bind_eq_some_iff.mp hq
    obtain ⟨eoa6, eta6⟩ := jw_rc_spec ea6
    obtain ⟨w8, h7, ew8, hq⟩ := jw_b2_spec hq
    refine jw_callV (As := [.int x3]) (S := [.int ((x3 - (1 : Int32)) * (30 : Int32)), va_rf v5, .int x1, .ref x0]) (a := a6) (v := some (.int w8)) dX7_take_22 mt_X7_lengthOf in_X7_lengthOf se_X7_lengthOf lk_X7_42 (c_X7_lengthOf ew8) eta6 (by decide) rfl rfl (by decide) (by simp only [List.map_cons, List.map_nil, List.sum_cons, List.sum_nil, jw_cat_rf, jw_cat_i, jw_cat_l, jw_cat_a, jw_cat_s] <;> decide) (by cases eoa6; rfl) ?_
    obtain ⟨a9, ea9, hq⟩ := Option.bind_eq_some_iff.mp hq
    obtain ⟨eoa9, eta9⟩ := jw_rc_spec ea9
    obtain ⟨w11, h10, ew11, hq⟩ := jw_b2_spec hq
    refine jw_callV (As := [.int x1, va_rf v5, .int ((x3 - (1 : Int32)) * (30 : Int32)), .int w8]) (S := []) (a := a9) (v := none) dX7_take_25 mt_X7_write in_X7_write se_X7_write lk_X7_50 (c_X7_write ew11) eta9 (by decide) rfl rfl (by decide) (Nat.le_of_ble_eq_true rfl) (by cases eoa9; rfl) ?_
    cases hq
    exact jw_vret dX7_take_28 rfl

theorem c_X7_take {h : jw_H} {x0 : Nat} {x1 : Int32} {x2 : Option Nat} {x3 : Int32} {r : Unit} {h' : jw_H} (hq : f_X7_take h x0 x1 x2 x3 = some (r, h')) : jw_Con (Cond.code yX7_take cX7_take 4 none) yX7_take 2 [.ref x0, .int x1, va_rf x2, .int x3] h (.inl none) h' :=
  jw_con false (plainFor_of_name (by decide +kernel)) (fun z => nomatch z) (by simp [jw_ent, jw_sl0_nil, jw_sl0_int, jw_sl0_long, jw_sl0_ref, jw_sl0_rf, jw_sl0_scr, List.replicate]) (by simp [jw_sl0_nil, jw_sl0_int, jw_sl0_long, jw_sl0_ref, jw_sl0_rf, jw_sl0_scr]) (l_X7_take hq)


/-! X1_exchange -/
noncomputable def f_X1_exchange (h : jw_H) (x0 : Nat) : Option (Unit × jw_H) :=
 (jw_gR h 1 (some x0) 2).bind fun v1 =>
 (jw_gR h 8 v1 0).bind fun v2 =>
 (jw_gI h 7 v2 2).bind fun v3 =>
 if v3 = (1 : Int32) then ((jw_gR h 1 (some x0) 9).bind fun v5 =>
 (jw_gR h 1 (some x0) 7).bind fun v6 =>
 (jw_rc h 7 v5).bind fun a7 =>
 jw_b2 (f_X7_copy h a7 v6) fun w9 h8 =>
 (jw_gR h8 1 (some x0) 7).bind fun v10 =>
 (jw_gR h8 1 (some x0) 2).bind fun v11 =>
 (jw_gR h8 8 v11 0).bind fun v12 =>
 (jw_rc h8 7 v10).bind fun a13 =>
 jw_b2 (f_X7_take h8 a13 (1 : Int32) v12 (1 : Int32)) fun w15 h14 =>
 (jw_gR h14 1 (some x0) 2).bind fun v16 =>
 (jw_gR h14 8 v16 0).bind fun v17 =>
 (jw_gR h14 1 (some x0) 9).bind fun v18 =>
 (jw_rc h14 7 v17).bind fun a19 =>
 jw_b2 (f_X7_take h14 a19 (1 : Int32) v18 (1 : Int32)) fun w21 h20 =>
 some ((), h20))
 else ((jw_pI h 1 (some x0) 15 (5 : Int32)).bind fun h22 =>
 some ((), h22))

set_option maxRecDepth 100000 in
set_option maxHeartbeats 4000000 in
theorem l_X1_exchange {hi : jw_H} {h : jw_H} {x0 : Nat} {r : Unit} {h' : jw_H} (hq : f_X1_exchange  h x0 = some (r, h')) : jw_E 3 uX1_exchange hi 0 [some (.ref x0)] [] h (.inl none) h' := by
  unfold f_X1_exchange at hq
  refine jw_aload_n dX1_exchange_0 (o := (some x0)) rfl ?_
  obtain ⟨v1, ev1, hq⟩ := Option.bind_eq_some_iff.mp hq
  refine jw_getR (o := (some x0)) dX1_exchange_1 ev1 fl_X1_19 rfl ?_
  obtain ⟨v2, ev2, hq⟩ := Option.bind_eq_some_iff.mp hq
  refine jw_getR (o := v1) dX1_exchange_4 ev2 fl_X1_266 rfl ?_
  obtain ⟨v3, ev3, hq⟩ := Option.bind_eq_some_iff.mp hq
  refine jw_getI (o := v2) dX1_exchange_7 ev3 fl_X1_99 rfl ?_
  refine jw_iconst dX1_exchange_10 (v := (1 : Int32)) (by decide) ?_
  rcases jw_if hq with ⟨c4, hq⟩ | ⟨c4, hq⟩
  · refine jw_icmp_eq_t (tgt := 20) dX1_exchange_11 (by decide) c4 ?_
    refine jw_aload_n dX1_exchange_20 (o := (some x0)) rfl ?_
    obtain ⟨v5, ev5, hq⟩ := Option.bind_eq_some_iff.mp hq
    refine jw_getR (o := (some x0)) dX1_exchange_21 ev5 fl_X1_52 rfl ?_
    refine jw_aload_n dX1_exchange_24 (o := (some x0)) rfl ?_
    obtain ⟨v6, ev6, hq⟩ := Option.bind_eq_some_iff.mp hq
    refine jw_getR (o := (some x0)) dX1_exchange_25 ev6 fl_X1_45 rfl ?_
    obtain ⟨a7, ea7, hq⟩ := Option.bind_eq_some_iff.mp hq
    obtain ⟨eoa7, eta7⟩ := jw_rc_spec ea7
    obtain ⟨w9, h8, ew9, hq⟩ := jw_b2_spec hq
    refine jw_callV (As := [va_rf v6]) (S := []) (a := a7) (v := none) dX1_exchange_28 mt_X7_copy in_X7_copy se_X7_copy lk_X1_296 (c_X7_copy ew9) eta7 (by decide) rfl rfl (by decide) (Nat.le_of_ble_eq_true rfl) (by cases eoa7; rfl) ?_
    refine jw_aload_n dX1_exchange_31 (o := (some x0)) rfl ?_
    obtain ⟨v10, ev10, hq⟩ := Option.bind_eq_some_iff.mp hq
    refine jw_getR (o := (some x0)) dX1_exchange_32 ev10 fl_X1_45 rfl ?_
    refine jw_iconst dX1_exchange_35 (v := (1 : Int32)) (by decide) ?_
    refine jw_aload_n dX1_exchange_36 (o := (some x0)) rfl ?_
    obtain ⟨v11, ev11, hq⟩ := Option.bind_eq_some_iff.mp hq
    refine jw_getR (o := (some x0)) dX1_exchange_37 ev11 fl_X1_19 rfl ?_
    obtain ⟨v12, ev12, hq⟩ := Option.bind_eq_some_iff.mp hq
    refine jw_getR (o := v11) dX1_exchange_40 ev12 fl_X1_266 rfl ?_
    refine jw_iconst dX1_exchange_43 (v := (1 : Int32)) (by decide) ?_
    obtain ⟨a13, ea13, hq⟩ := Option.bind_eq_some_iff.mp hq
    obtain ⟨eoa13, eta13⟩ := jw_rc_spec ea13
    obtain ⟨w15, h14, ew15, hq⟩ := jw_b2_spec hq
    refine jw_callV (As := [.int (1 : Int32), va_rf v12, .int (1 : Int32)]) (S := []) (a := a13) (v := none) dX1_exchange_44 mt_X7_take in_X7_take se_X7_take lk_X1_298 (c_X7_take ew15) eta13 (by decide) rfl rfl (by decide) (Nat.le_of_ble_eq_true rfl) (by cases eoa13; rfl) ?_
    refine jw_aload_n dX1_exchange_47 (o := (some x0)) rfl ?_
    obtain ⟨v16, ev16, hq⟩ := Option.bind_eq_some_iff.mp hq
    refine jw_getR (o := (some x0)) dX1_exchange_48 ev16 fl_X1_19 rfl ?_
    obtain ⟨v17, ev17, hq⟩ := Option.bind_eq_some_iff.mp hq
    refine jw_getR (o := v16) dX1_exchange_51 ev17 fl_X1_266 rfl ?_
    refine jw_iconst dX1_exchange_54 (v := (1 : Int32)) (by decide) ?_
    refine jw_aload_n dX1_exchange_55 (o := (some x0)) rfl ?_
    obtain ⟨v18, ev18, hq⟩ := Option.bind_eq_some_iff.mp hq
    refine jw_getR (o := (some x0)) dX1_exchange_56 ev18 fl_X1_52 rfl ?_
    refine jw_iconst dX1_exchange_59 (v := (1 : Int32)) (by decide) ?_
    obtain ⟨a19, ea19, hq⟩ := Option.bind_eq_some_iff.mp hq
    obtain ⟨eoa19, eta19⟩ := jw_rc_spec ea19
    obtain ⟨w21, h20, ew21, hq⟩ := jw_b2_spec hq
    refine jw_callV (As := [.int (1 : Int32), va_rf v18, .int (1 : Int32)]) (S := []) (a := a19) (v := none) dX1_exchange_60 mt_X7_take in_X7_take se_X7_take lk_X1_298 (c_X7_take ew21) eta19 (by decide) rfl rfl (by decide) (Nat.le_of_ble_eq_true rfl) (by cases eoa19; rfl) ?_
    cases hq
    exact jw_vret dX1_exchange_63 rfl
  · refine jw_icmp_eq_f (tgt := 20) dX1_exchange_11 (by decide) c4 ?_
    refine jw_aload_n dX1_exchange_14 (o := (some x0)) rfl ?_
    refine jw_iconst dX1_exchange_15 (v := (5 : Int32)) (by decide) ?_
    obtain ⟨h22, eh22, hq⟩ := Option.bind_eq_some_iff.mp hq
    refine jw_putI (o := (some x0)) dX1_exchange_16 eh22 fl_X1_65 rfl rfl ?_
    cases hq
    exact jw_vret dX1_exchange_19 rfl

theorem c_X1_exchange {h : jw_H} {x0 : Nat} {r : Unit} {h' : jw_H} (hq : f_X1_exchange h x0 = some (r, h')) : jw_Con (Cond.code yX1_exchange cX1_exchange 1 none) yX1_exchange 3 [.ref x0] h (.inl none) h' :=
  jw_con false (plainFor_of_name (by decide +kernel)) (fun z => nomatch z) (by simp [jw_ent, jw_sl0_nil, jw_sl0_int, jw_sl0_long, jw_sl0_ref, jw_sl0_rf, jw_sl0_scr, List.replicate]) (by simp [jw_sl0_nil, jw_sl0_int, jw_sl0_long, jw_sl0_ref, jw_sl0_rf, jw_sl0_scr]) (l_X1_exchange hq)


/-! X8_writeNumber -/
noncomputable def g_X8_writeNumber_b28 (h : jw_H) (x0 : Nat) (x1 : Int32) (x2 : Int32) (x3 : Int32) : Option (Int32 × jw_H) :=
 (jw_gR h 8 (some x0) 3).bind fun v1 =>
 (jw_si h 21 v1 x3 (vp_nar .byte ((48 : Int32) + (x1 - x1 / (10 : Int32) * (10 : Int32))).toInt8.toInt32)).bind fun h2 =>
 if x2 = 0 then (some ((x3 + (1 : Int32)), h2))
 else ((jw_gR h2 8 (some x0) 3).bind fun v4 =>
 (jw_si h2 21 v4 (x3 + (1 : Int32)) (vp_nar .byte (32 : Int32))).bind fun h5 =>
 some (((x3 + (1 : Int32)) + (1 : Int32)), h5))

noncomputable def f_X8_writeNumber (h : jw_H) (x0 : Nat) (x1 : Int32) (x2 : Int32) : Option (Int32 × jw_H) :=
 if x1 < (10 : Int32) then (g_X8_writeNumber_b28  h x0 x1 x2 (0 : Int32))
 else ((jw_gR h 8 (some x0) 3).bind fun v2 =>
 (jw_si h 21 v2 (0 : Int32) (vp_nar .byte ((48 : Int32) + ((x1 / (10 : Int32)) - (x1 / (10 : Int32)) / (10 : Int32) * (10 : Int32))).toInt8.toInt32)).bind fun h3 =>
 g_X8_writeNumber_b28  h3 x0 x1 x2 ((0 : Int32) + (1 : Int32)))

set_option maxRecDepth 100000 in
set_option maxHeartbeats 4000000 in
theorem l_X8_writeNumber_b28 {hi : jw_H} {h : jw_H} {x0 : Nat} {x1 : Int32} {x2 : Int32} {x3 : Int32} {r : Int32} {h' : jw_H} (hq : g_X8_writeNumber_b28  h x0 x1 x2 x3 = some (r, h')) : jw_E 0 uX8_writeNumber hi 28 [some (.ref x0), some (.int x1), some (.int x2), some (.int x3)] [] h (.inl (some (.int r))) h' := by
  unfold g_X8_writeNumber_b28 at hq
  refine jw_aload_n dX8_writeNumber_28 (o := (some x0)) rfl ?_
  obtain ⟨v1, ev1, hq⟩ := Option.bind_eq_some_iff.mp hq
  refine jw_getR (o := (some x0)) dX8_writeNumber_29 ev1 fl_X8_27 rfl ?_
  refine jw_iload_n dX8_writeNumber_32 rfl ?_
  refine jw_bipush dX8_writeNumber_33 (v := (48 : Int32)) (by decide) ?_
  refine jw_iload_n dX8_writeNumber_35 rfl ?_
  refine jw_bipush dX8_writeNumber_36 (v := (10 : Int32)) (by decide) ?_
  refine jw_irem dX8_writeNumber_38 (by decide) ?_
  refine jw_iadd dX8_writeNumber_39 ?_
  refine jw_i2b dX8_writeNumber_40 ?_
  obtain ⟨h2, eh2, hq⟩ := Option.bind_eq_some_iff.mp hq
  refine jw_bast (o := v1) rfl dX8_writeNumber_41 eh2 ?_
  refine jw_iinc (L' := [some (.ref x0), some (.int x1), some (.int x2), some (.int (x3 + (1 : Int32)))]) dX8_writeNumber_42 rfl (v := (1 : Int32)) (by decide) (Nat.le_of_ble_eq_true rfl) rfl ?_
  refine jw_iload_n dX8_writeNumber_45 rfl ?_
  rcases jw_if hq with ⟨c3, hq⟩ | ⟨c3, hq⟩
  · refine jw_if_eq_t (tgt := 60) dX8_writeNumber_46 (by decide) c3 ?_
    refine jw_iload_n dX8_writeNumber_60 rfl ?_
    cases hq
    exact jw_iret (ty := .int) dX8_writeNumber_61 rfl rfl
  · refine jw_if_eq_f (tgt := 60) dX8_writeNumber_46 (by decide) c3 ?_
    refine jw_aload_n dX8_writeNumber_49 (o := (some x0)) rfl ?_
    obtain ⟨v4, ev4, hq⟩ := Option.bind_eq_some_iff.mp hq
    refine jw_getR (o := (some x0)) dX8_writeNumber_50 ev4 fl_X8_27 rfl ?_
    refine jw_iload_n dX8_writeNumber_53 rfl ?_
    refine jw_bipush dX8_writeNumber_54 (v := (32 : Int32)) (by decide) ?_
    obtain ⟨h5, eh5, hq⟩ := Option.bind_eq_some_iff.mp hq
    refine jw_bast (o := v4) rfl dX8_writeNumber_56 eh5 ?_
    refine jw_iinc (L' := [some (.ref x0), some (.int x1), some (.int x2), some (.int ((x3 + (1 : Int32)) + (1 : Int32)))]) dX8_writeNumber_57 rfl (v := (1 : Int32)) (by decide) (Nat.le_of_ble_eq_true rfl) rfl ?_
    refine jw_iload_n dX8_writeNumber_60 rfl ?_
    cases hq
    exact jw_iret (ty := .int) dX8_writeNumber_61 rfl rfl

set_option maxRecDepth 100000 in
set_option maxHeartbeats 4000000 in
theorem l_X8_writeNumber {hi : jw_H} {h : jw_H} {x0 : Nat} {x1 : Int32} {x2 : Int32} {r : Int32} {h' : jw_H} (hq : f_X8_writeNumber  h x0 x1 x2 = some (r, h')) : jw_E 0 uX8_writeNumber hi 0 [some (.ref x0), some (.int x1), some (.int x2), none] [] h (.inl (some (.int r))) h' := by
  unfold f_X8_writeNumber at hq
  refine jw_iconst dX8_writeNumber_0 (v := (0 : Int32)) (by decide) ?_
  refine jw_istore_n (L' := [some (.ref x0), some (.int x1), some (.int x2), some (.int (0 : Int32))]) dX8_writeNumber_1 (Nat.le_of_ble_eq_true rfl) rfl ?_
  refine jw_iload_n dX8_writeNumber_2 rfl ?_
  refine jw_bipush dX8_writeNumber_3 (v := (10 : Int32)) (by decide) ?_
  rcases jw_if hq with ⟨c1, hq⟩ | ⟨c1, hq⟩
  · refine jw_icmp_lt_t (tgt := 28) dX8_writeNumber_5 (by decide) c1 ?_
    exact l_X8_writeNumber_b28  hq
  · refine jw_icmp_lt_f (tgt := 28) dX8_writeNumber_5 (by decide) c1 ?_
    refine jw_aload_n dX8_writeNumber_8 (o := (some x0)) rfl ?_
    obtain ⟨v2, ev2, hq⟩ := Option.bind_eq_some_iff.mp hq
    refine jw_getR (o := (some x0)) dX8_writeNumber_9 ev2 fl_X8_27 rfl ?_
    refine jw_iload_n dX8_writeNumber_12 rfl ?_
    refine jw_bipush dX8_writeNumber_13 (v := (48 : Int32)) (by decide) ?_
    refine jw_iload_n dX8_writeNumber_15 rfl ?_
    refine jw_bipush dX8_writeNumber_16 (v := (10 : Int32)) (by decide) ?_
    refine jw_idiv dX8_writeNumber_18 (by decide) ?_
    refine jw_bipush dX8_writeNumber_19 (v := (10 : Int32)) (by decide) ?_
    refine jw_irem dX8_writeNumber_21 (by decide) ?_
    refine jw_iadd dX8_writeNumber_22 ?_
    refine jw_i2b dX8_writeNumber_23 ?_
    obtain ⟨h3, eh3, hq⟩ := Option.bind_eq_some_iff.mp hq
    refine jw_bast (o := v2) rfl dX8_writeNumber_24 eh3 ?_
    refine jw_iinc (L' := [some (.ref x0), some (.int x1), some (.int x2), some (.int ((0 : Int32) + (1 : Int32)))]) dX8_writeNumber_25 rfl (v := (1 : Int32)) (by decide) (Nat.le_of_ble_eq_true rfl) rfl ?_
    exact l_X8_writeNumber_b28  hq

theorem c_X8_writeNumber {h : jw_H} {x0 : Nat} {x1 : Int32} {x2 : Int32} {r : Int32} {h' : jw_H} (hq : f_X8_writeNumber h x0 x1 x2 = some (r, h')) : jw_Con (Cond.code yX8_writeNumber cX8_writeNumber 4 (some .int)) yX8_writeNumber 0 [.ref x0, .int x1, .int x2] h (.inl (some (.int r))) h' :=
  jw_con false (plainFor_of_name (by decide +kernel)) (fun z => nomatch z) (by simp [jw_ent, jw_sl0_nil, jw_sl0_int, jw_sl0_long, jw_sl0_ref, jw_sl0_rf, jw_sl0_scr, List.replicate]) (by simp [jw_sl0_nil, jw_sl0_int, jw_sl0_long, jw_sl0_ref, jw_sl0_rf, jw_sl0_scr]) (l_X8_writeNumber hq)


/-! X8_print -/
noncomputable def g_X8_print_b128 (h : jw_H) (x0 : Nat) (x5 : Int32) : Option (Int32 × jw_H) :=
 (jw_gR h 8 (some x0) 1).bind fun v1 =>
 (jw_rc h 7 v1).bind fun a2 =>
 jw_b2 (f_X7_shrink h a2 x5) fun w4 h3 =>
 some ((4 : Int32), h3)

noncomputable def g_X8_print_b98 (k12 : jw_H → Nat → Option Nat → Int32 → Int32 → Int32 → Int32 → Int32 → Option (Int32 × jw_H)) (h : jw_H) (x0 : Nat) (x1 : Option Nat) (x2 : Int32) (x3 : Int32) (x4 : Int32) (x5 : Int32) (x6 : Int32) (x7 : Int32) (x8 : Int32) : Option (Int32 × jw_H) :=
 if (30 : Int32) < (x7 + x8) then (g_X8_print_b128  h x0 x5)
 else ((jw_gR h 8 (some x0) 1).bind fun v2 =>
 (jw_gR h 8 (some x0) 3).bind fun v3 =>
 (jw_rc h 7 v2).bind fun a4 =>
 jw_b2 (f_X7_add h a4 v3 (0 : Int32) (x7 + x8)) fun w6 h5 =>
 if w6 = 0 then (g_X8_print_b128  h5 x0 x5)
 else (k12 h5 x0 x1 x2 x3 x4 x5 (x6 + (1 : Int32))))

noncomputable def g_X8_print_b53 (k12 : jw_H → Nat → Option Nat → Int32 → Int32 → Int32 → Int32 → Int32 → Option (Int32 × jw_H)) (k53 : jw_H → Nat → Option Nat → Int32 → Int32 → Int32 → Int32 → Int32 → Int32 → Int32 → Int32 → Option (Int32 × jw_H)) (h : jw_H) (x0 : Nat) (x1 : Option Nat) (x2 : Int32) (x3 : Int32) (x4 : Int32) (x5 : Int32) (x6 : Int32) (x7 : Int32) (x8 : Int32) (x9 : Int32) : Option (Int32 × jw_H) :=
 if x8 ≤ x9 then (g_X8_print_b98 k12 h x0 x1 x2 x3 x4 x5 x6 x7 x8)
 else ((jw_gR h 8 (some x0) 3).bind fun v2 =>
 (jw_ln h v2).bind fun v3 =>
 if v3 ≤ (x7 + x9) then (g_X8_print_b98 k12 h x0 x1 x2 x3 x4 x5 x6 x7 x8)
 else ((jw_gR h 8 (some x0) 3).bind fun v5 =>
 (jw_rc h 7 x1).bind fun a6 =>
 jw_b2 (f_X7_signAt h a6 x6 x9) fun w8 h7 =>
 (jw_si h7 21 v5 (x7 + x9) (vp_nar .byte w8.toInt8.toInt32)).bind fun h9 =>
 k53 h9 x0 x1 x2 x3 x4 x5 x6 x7 x8 (x9 + (1 : Int32))))

noncomputable def f_X8_print_b53 (k12 : jw_H → Nat → Option Nat → Int32 → Int32 → Int32 → Int32 → Int32 → Option (Int32 × jw_H)) (n : Nat) : jw_H → Nat → Option Nat → Int32 → Int32 → Int32 → Int32 → Int32 → Int32 → Int32 → Int32 → Option (Int32 × jw_H) :=
 Nat.rec (fun _ _ _ _ _ _ _ _ _ _ _ => none) (fun _ k53 => g_X8_print_b53 k12 k53) n

noncomputable def g_X8_print_b40 (k12 : jw_H → Nat → Option Nat → Int32 → Int32 → Int32 → Int32 → Int32 → Option (Int32 × jw_H)) (h : jw_H) (x0 : Nat) (x1 : Option Nat) (x2 : Int32) (x3 : Int32) (x4 : Int32) (x5 : Int32) (x6 : Int32) (t0 : Int32) : Option (Int32 × jw_H) :=
 (jw_rc h 7 x1).bind fun a1 =>
 jw_b2 (f_X7_lengthOf h a1 x6) fun w3 h2 =>
 f_X8_print_b53 k12 jw_FU h2 x0 x1 x2 x3 x4 x5 x6 t0 w3 (0 : Int32)

noncomputable def g_X8_print_b12 (k12 : jw_H → Nat → Option Nat → Int32 → Int32 → Int32 → Int32 → Int32 → Option (Int32 × jw_H)) (h : jw_H) (x0 : Nat) (x1 : Option Nat) (x2 : Int32) (x3 : Int32) (x4 : Int32) (x5 : Int32) (x6 : Int32) : Option (Int32 × jw_H) :=
 if x3 < x6 then (some ((0 : Int32), h))
 else (if x4 = (-1 : Int32) then (g_X8_print_b40 k12 h x0 x1 x2 x3 x4 x5 x6 (0 : Int32))
 else ((jw_rc h 8 (some x0)).bind fun a3 =>
 jw_b2 (f_X8_writeNumber h a3 ((x4 + x6) - x2) (1 : Int32)) fun w5 h4 =>
 g_X8_print_b40 k12 h4 x0 x1 x2 x3 x4 x5 x6 w5))

noncomputable def f_X8_print_b12 (n : Nat) : jw_H → Nat → Option Nat → Int32 → Int32 → Int32 → Int32 → Int32 → Option (Int32 × jw_H) :=
 Nat.rec (fun _ _ _ _ _ _ _ _ => none) (fun _ k12 => g_X8_print_b12 k12) n

noncomputable def f_X8_print (h : jw_H) (x0 : Nat) (x1 : Option Nat) (x2 : Int32) (x3 : Int32) (x4 : Int32) : Option (Int32 × jw_H) :=
 (jw_gR h 8 (some x0) 1).bind fun v1 =>
 (jw_gI h 7 v1 2).bind fun v2 =>
 f_X8_print_b12  jw_FU h x0 x1 x2 x3 x4 v2 x2

set_option maxRecDepth 100000 in
set_option maxHeartbeats 4000000 in
theorem l_X8_print_b128 {hi : jw_H} {h : jw_H} {x0 : Nat} {x5 : Int32} {r : Int32} {h' : jw_H} (hq : g_X8_print_b128  h x0 x5 = some (r, h')) : jw_E 2 uX8_print hi 128 [some (.ref x0), none, none, none, none, some (.int x5), none, none, none, none] [] h (.inl (some (.int r))) h' := by
  unfold g_X8_print_b128 at hq
  refine jw_aload_n dX8_print_128 (o := (some x0)) rfl ?_
  obtain ⟨v1, ev1, hq⟩ := Option.bind_eq_some_iff.mp hq
  refine jw_getR (o := (some x0)) dX8_print_129 ev1 fl_X8_20 rfl ?_
  refine jw_iload dX8_print_132 rfl ?_
  obtain ⟨a2, ea2, hq⟩ := Option.bind_eq_some_iff.mp hq
  obtain ⟨eoa2, eta2⟩ := jw_rc_spec ea2
  obtain ⟨w4, h3, ew4, hq⟩ := jw_b2_spec hq
  refine jw_callV (As := [.int x5]) (S := []) (a := a2) (v := none) dX8_print_134 mt_X7_shrink in_X7_shrink se_X7_shrink lk_X8_59 (c_X7_shrink ew4) eta2 (by decide) rfl rfl (by decide) (Nat.le_of_ble_eq_true rfl) (by cases eoa2; rfl) ?_
  refine jw_iconst dX8_print_137 (v := (4 : Int32)) (by decide) ?_
  cases hq
  exact jw_iret (ty := .int) dX8_print_138 rfl rfl

set_option maxRecDepth 100000 in
set_option maxHeartbeats 4000000 in
theorem l_X8_print_b98 {hi : jw_H} {k12 : jw_H → Nat → Option Nat → Int32 → Int32 → Int32 → Int32 → Int32 → Option (Int32 × jw_H)} (hk12 : ∀ (h : jw_H) (x0 : Nat) (x1 : Option Nat) (x2 : Int32) (x3 : Int32) (x4 : Int32) (x5 : Int32) (x6 : Int32) (r : Int32) (h' : jw_H), k12 h x0 x1 x2 x3 x4 x5 x6 = some (r, h') → jw_E 2 uX8_print hi 12 [some (.ref x0), some (va_rf x1), some (.int x2), some (.int x3), some (.int x4), some (.int x5), some (.int x6), none, none, none] [] h (.inl (some (.int r))) h') {h : jw_H} {x0 : Nat} {x1 : Option Nat} {x2 : Int32} {x3 : Int32} {x4 : Int32} {x5 : Int32} {x6 : Int32} {x7 : Int32} {x8 : Int32} {r : Int32} {h' : jw_H} (hq : g_X8_print_b98 k12 h x0 x1 x2 x3 x4 x5 x6 x7 x8 = some (r, h')) : jw_E 2 uX8_print hi 98 [some (.ref x0), some (va_rf x1), some (.int x2), some (.int x3), some (.int x4), some (.int x5), some (.int x6), some (.int x7), some (.int x8), none] [] h (.inl (some (.int r))) h' := by
  unfold g_X8_print_b98 at hq
  refine jw_iload dX8_print_98 rfl ?_
  refine jw_iload dX8_print_100 rfl ?_
  refine jw_iadd dX8_print_102 ?_
  refine jw_bipush dX8_print_103 (v := (30 : Int32)) (by decide) ?_
  rcases jw_if hq with ⟨c1, hq⟩ | ⟨c1, hq⟩
  · refine jw_icmp_gt_t (tgt := 128) dX8_print_105 (by decide) c1 ?_
    refine jw_forget [true, false, false, false, false, true, false, false, false, true] (L' := [some (.ref x0), none, none, none, none, some (.int x5), none, none, none, none]) rfl ?_
    exact l_X8_print_b128  hq
  · refine jw_icmp_gt_f (tgt := 128) dX8_print_105 (by decide) c1 ?_
    refine jw_aload_n dX8_print_108 (o := (some x0)) rfl ?_
    obtain ⟨v2, ev2, hq⟩ := Option.bind_eq_some_iff.mp hq
    refine jw_getR (o := (some x0)) dX8_print_109 ev2 fl_X8_20 rfl ?_
    refine jw_aload_n dX8_print_112 (o := (some x0)) rfl ?_
    obtain ⟨v3, ev3, hq⟩ := Option.bind_eq_some_iff.mp hq
    refine jw_getR (o := (some x0)) dX8_print_113 ev3 fl_X8_27 rfl ?_
    refine jw_iconst dX8_print_116 (v := (0 : Int32)) (by decide) ?_
    refine jw_iload dX8_print_117 rfl ?_
    refine jw_iload dX8_print_119 rfl ?_
    refine jw_iadd dX8_print_121 ?_
    obtain ⟨a4, ea4, hq⟩ := Option.bind_eq_some_iff.mp hq
    obtain ⟨eoa4, eta4⟩ := jw_rc_spec ea4
    obtain ⟨w6, h5, ew6, hq⟩ := jw_b2_spec hq
    refine jw_callV (As := [va_rf v3, .int (0 : Int32), .int (x7 + x8)]) (S := []) (a := a4) (v := some (.int w6)) dX8_print_122 mt_X7_add in_X7_add se_X7_add lk_X8_55 (c_X7_add ew6) eta4 (by decide) rfl rfl (by decide) (Nat.le_of_ble_eq_true rfl) (by cases eoa4; rfl) ?_
    rcases jw_if hq with ⟨c7, hq⟩ | ⟨c7, hq⟩
    · refine jw_if_ne_f (tgt := 139) dX8_print_125 (by decide) c7 ?_
      refine jw_forget [true, false, false, false, false, true, false, false, false, true] (L' := [some (.ref x0), none, none, none, none, some (.int x5), none, none, none, none]) rfl ?_
      exact l_X8_print_b128  hq
    · refine jw_if_ne_t (tgt := 139) dX8_print_125 (by decide) c7 ?_
      refine jw_iinc (L' := [some (.ref x0), some (va_rf x1), some (.int x2), some (.int x3), some (.int x4), some (.int x5), some (.int (x6 + (1 : Int32))), some (.int x7), some (.int x8), none]) dX8_print_139 rfl (v := (1 : Int32)) (by decide) (Nat.le_of_ble_eq_true rfl) rfl ?_
      refine jw_goto (tgt := 12) dX8_print_142 (by decide) ?_
      refine jw_forget [true, true, true, true, true, true, true, false, false, true] (L' := [some (.ref x0), some (va_rf x1), some (.int x2), some (.int x3), some (.int x4), some (.int x5), some (.int (x6 + (1 : Int32))), none, none, none]) rfl ?_
      exact hk12 _ _ _ _ _ _ _ _ _ _ hq

set_option maxRecDepth 100000 in
set_option maxHeartbeats 4000000 in
theorem l_X8_print_b53g {hi : jw_H} {k12 : jw_H → Nat → Option Nat → Int32 → Int32 → Int32 → Int32 → Int32 → Option (Int32 × jw_H)} (hk12 : ∀ (h : jw_H) (x0 : Nat) (x1 : Option Nat) (x2 : Int32) (x3 : Int32) (x4 : Int32) (x5 : Int32) (x6 : Int32) (r : Int32) (h' : jw_H), k12 h x0 x1 x2 x3 x4 x5 x6 = some (r, h') → jw_E 2 uX8_print hi 12 [some (.ref x0), some (va_rf x1), some (.int x2), some (.int x3), some (.int x4), some (.int x5), some (.int x6), none, none, none] [] h (.inl (some (.int r))) h') {k53 : jw_H → Nat → Option Nat → Int32 → Int32 → Int32 → Int32 → Int32 → Int32 → Int32 → Int32 → Option (Int32 × jw_H)} (hk53 : ∀ (h : jw_H) (x0 : Nat) (x1 : Option Nat) (x2 : Int32) (x3 : Int32) (x4 : Int32) (x5 : Int32) (x6 : Int32) (x7 : Int32) (x8 : Int32) (x9 : Int32) (r : Int32) (h' : jw_H), k53 h x0 x1 x2 x3 x4 x5 x6 x7 x8 x9 = some (r, h') → jw_E 2 uX8_print hi 53 [some (.ref x0), some (va_rf x1), some (.int x2), some (.int x3), some (.int x4), some (.int x5), some (.int x6), some (.int x7), some (.int x8), some (.int x9)] [] h (.inl (some (.int r))) h') {h : jw_H} {x0 : Nat} {x1 : Option Nat} {x2 : Int32} {x3 : Int32} {x4 : Int32} {x5 : Int32} {x6 : Int32} {x7 : Int32} {x8 : Int32} {x9 : Int32} {r : Int32} {h' : jw_H} (hq : g_X8_print_b53 k12 k53 h x0 x1 x2 x3 x4 x5 x6 x7 x8 x9 = some (r, h')) : jw_E 2 uX8_print hi 53 [some (.ref x0), some (va_rf x1), some (.int x2), some (.int x3), some (.int x4), some (.int x5), some (.int x6), some (.int x7), some (.int x8), some (.int x9)] [] h (.inl (some (.int r))) h' := by
  unfold g_X8_print_b53 at hq
  refine jw_iload dX8_print_53 rfl ?_
  refine jw_iload dX8_print_55 rfl ?_
  rcases jw_if hq with ⟨c1, hq⟩ | ⟨c1, hq⟩
  · refine jw_icmp_ge_t (tgt := 98) dX8_print_57 (by decide) c1 ?_
    refine jw_forget [true, true, true, true, true, true, true, true, true, false] (L' := [some (.ref x0), some (va_rf x1), some (.int x2), some (.int x3), some (.int x4), some (.int x5), some (.int x6), some (.int x7), some (.int x8), none]) rfl ?_
    exact l_X8_print_b98 hk12 hq
  · refine jw_icmp_ge_f (tgt := 98) dX8_print_57 (by decide) c1 ?_
    refine jw_iload dX8_print_60 rfl ?_
    refine jw_iload dX8_print_62 rfl ?_
    refine jw_iadd dX8_print_64 ?_
    refine jw_aload_n dX8_print_65 (o := (some x0)) rfl ?_
    obtain ⟨v2, ev2, hq⟩ := Option.bind_eq_some_iff.mp hq
    refine jw_getR (o := (some x0)) dX8_print_66 ev2 fl_X8_27 rfl ?_
    obtain ⟨v3, ev3, hq⟩ := Option.bind_eq_some_iff.mp hq
    refine jw_alen (o := v2) dX8_print_69 ev3 ?_
    rcases jw_if hq with ⟨c4, hq⟩ | ⟨c4, hq⟩
    · refine jw_icmp_ge_t (tgt := 98) dX8_print_70 (by decide) c4 ?_
      refine jw_forget [true, true, true, true, true, true, true, true, true, false] (L' := [some (.ref x0), some (va_rf x1), some (.int x2), some (.int x3), some (.int x4), some (.int x5), some (.int x6), some (.int x7), some (.int x8), none]) rfl ?_
      exact l_X8_print_b98 hk12 hq
    · refine jw_icmp_ge_f (tgt := 98) dX8_print_70 (by decide) c4 ?_
      refine jw_aload_n dX8_print_73 (o := (some x0)) rfl ?_
      obtain ⟨v5, ev5, hq⟩ := Option.bind_eq_some_iff.mp hq
      refine jw_getR (o := (some x0)) dX8_print_74 ev5 fl_X8_27 rfl ?_
      refine jw_iload dX8_print_77 rfl ?_
      refine jw_iload dX8_print_79 rfl ?_
      refine jw_iadd dX8_print_81 ?_
      refine jw_aload_n dX8_print_82 (o := x1) rfl ?_
      refine jw_iload dX8_print_83 rfl ?_
      refine jw_iload dX8_print_85 rfl ?_
      obtain ⟨a6, ea6, hq⟩ := Option.bind_eq_some_iff.mp hq
      obtain ⟨eoa6, eta6⟩ := jw_rc_spec ea6
      obtain ⟨w8, h7, ew8, hq⟩ := jw_b2_spec hq
      refine jw_callV (As := [.int x6, .int x9]) (S := [.int (x7 + x9), va_rf v5]) (a := a6) (v := some (.int w8)) dX8_print_87 mt_X7_signAt in_X7_signAt se_X7_signAt lk_X8_51 (c_X7_signAt ew8) eta6 (by decide) rfl rfl (by decide) (by simp only [List.map_cons, List.map_nil, List.sum_cons, List.sum_nil, jw_cat_rf, jw_cat_i, jw_cat_l, jw_cat_a, jw_cat_s] <;> decide) (by cases eoa6; rfl) ?_
      refine jw_i2b dX8_print_90 ?_
      obtain ⟨h9, eh9, hq⟩ := Option.bind_eq_some_iff.mp hq
      refine jw_bast (o := v5) rfl dX8_print_91 eh9 ?_
      refine jw_iinc (L' := [some (.ref x0), some (va_rf x1), some (.int x2), some (.int x3), some (.int x4), some (.int x5), some (.int x6), some (.int x7), some (.int x8), some (.int (x9 + (1 : Int32)))]) dX8_print_92 rfl (v := (1 : Int32)) (by decide) (Nat.le_of_ble_eq_true rfl) rfl ?_
      refine jw_goto (tgt := 53) dX8_print_95 (by decide) ?_
      exact hk53 _ _ _ _ _ _ _ _ _ _ _ _ _ hq

theorem l_X8_print_b53 {hi : jw_H} {k12 : jw_H → Nat → Option Nat → Int32 → Int32 → Int32 → Int32 → Int32 → Option (Int32 × jw_H)} (hk12 : ∀ (h : jw_H) (x0 : Nat) (x1 : Option Nat) (x2 : Int32) (x3 : Int32) (x4 : Int32) (x5 : Int32) (x6 : Int32) (r : Int32) (h' : jw_H), k12 h x0 x1 x2 x3 x4 x5 x6 = some (r, h') → jw_E 2 uX8_print hi 12 [some (.ref x0), some (va_rf x1), some (.int x2), some (.int x3), some (.int x4), some (.int x5), some (.int x6), none, none, none] [] h (.inl (some (.int r))) h') : ∀ (n : Nat) (h : jw_H) (x0 : Nat) (x1 : Option Nat) (x2 : Int32) (x3 : Int32) (x4 : Int32) (x5 : Int32) (x6 : Int32) (x7 : Int32) (x8 : Int32) (x9 : Int32) (r : Int32) (h' : jw_H), f_X8_print_b53 k12 n h x0 x1 x2 x3 x4 x5 x6 x7 x8 x9 = some (r, h') → jw_E 2 uX8_print hi 53 [some (.ref x0), some (va_rf x1), some (.int x2), some (.int x3), some (.int x4), some (.int x5), some (.int x6), some (.int x7), some (.int x8), some (.int x9)] [] h (.inl (some (.int r))) h' := by
  intro n
  induction n with
  | zero => intro h x0 x1 x2 x3 x4 x5 x6 x7 x8 x9 r h' hq; exact nomatch hq
  | succ n ih => intro h x0 x1 x2 x3 x4 x5 x6 x7 x8 x9 r h' hq; exact l_X8_print_b53g hk12 ih hq

set_option maxRecDepth 100000 in
set_option maxHeartbeats 4000000 in
theorem l_X8_print_b40 {hi : jw_H} {k12 : jw_H → Nat → Option Nat → Int32 → Int32 → Int32 → Int32 → Int32 → Option (Int32 × jw_H)} (hk12 : ∀ (h : jw_H) (x0 : Nat) (x1 : Option Nat) (x2 : Int32) (x3 : Int32) (x4 : Int32) (x5 : Int32) (x6 : Int32) (r : Int32) (h' : jw_H), k12 h x0 x1 x2 x3 x4 x5 x6 = some (r, h') → jw_E 2 uX8_print hi 12 [some (.ref x0), some (va_rf x1), some (.int x2), some (.int x3), some (.int x4), some (.int x5), some (.int x6), none, none, none] [] h (.inl (some (.int r))) h') {h : jw_H} {x0 : Nat} {x1 : Option Nat} {x2 : Int32} {x3 : Int32} {x4 : Int32} {x5 : Int32} {x6 : Int32} {t0 : Int32} {r : Int32} {h' : jw_H} (hq : g_X8_print_b40 k12 h x0 x1 x2 x3 x4 x5 x6 t0 = some (r, h')) : jw_E 2 uX8_print hi 40 [some (.ref x0), some (va_rf x1), some (.int x2), some (.int x3), some (.int x4), some (.int x5), some (.int x6), none, none, none] [.int t0] h (.inl (some (.int r))) h' := by
  unfold g_X8_print_b40 at hq
  refine jw_istore (L' := [some (.ref x0), some (va_rf x1), some (.int x2), some (.int x3), some (.int x4), some (.int x5), some (.int x6), some (.int t0), none, none]) dX8_print_40 (Nat.le_of_ble_eq_true rfl) rfl ?_
  refine jw_aload_n dX8_print_42 (o := x1) rfl ?_
  refine jw_iload dX8_print_43 rfl ?_
  obtain ⟨a1, ea1, hq⟩ := Option.bind_eq_some_iff.mp hq
  obtain ⟨eoa1, eta1⟩ := jw_rc_spec ea1
  obtain ⟨w3, h2, ew3, hq⟩ := jw_b2_spec hq
  refine jw_callV (As := [.int x6]) (S := []) (a := a1) (v := some (.int w3)) dX8_print_45 mt_X7_lengthOf in_X7_lengthOf se_X7_lengthOf lk_X8_47 (c_X7_lengthOf ew3) eta1 (by decide) rfl rfl (by decide) (Nat.le_of_ble_eq_true rfl) (by cases eoa1; rfl) ?_
  refine jw_istore (L' := [some (.ref x0), some (va_rf x1), some (.int x2), some (.int x3), some (.int x4), some (.int x5), some (.int x6), some (.int t0), some (.int w3), none]) dX8_print_48 (Nat.le_of_ble_eq_true rfl) rfl ?_
  refine jw_iconst dX8_print_50 (v := (0 : Int32)) (by decide) ?_
  refine jw_istore (L' := [some (.ref x0), some (va_rf x1), some (.int x2), some (.int x3), some (.int x4), some (.int x5), some (.int x6), some (.int t0), some (.int w3), some (.int (0 : Int32))]) dX8_print_51 (Nat.le_of_ble_eq_true rfl) rfl ?_
  exact l_X8_print_b53 hk12 jw_FU _ _ _ _ _ _ _ _ _ _ _ _ _ hq

set_option maxRecDepth 100000 in
set_option maxHeartbeats 4000000 in
theorem l_X8_print_b12g {hi : jw_H} {k12 : jw_H → Nat → Option Nat → Int32 → Int32 → Int32 → Int32 → Int32 → Option (Int32 × jw_H)} (hk12 : ∀ (h : jw_H) (x0 : Nat) (x1 : Option Nat) (x2 : Int32) (x3 : Int32) (x4 : Int32) (x5 : Int32) (x6 : Int32) (r : Int32) (h' : jw_H), k12 h x0 x1 x2 x3 x4 x5 x6 = some (r, h') → jw_E 2 uX8_print hi 12 [some (.ref x0), some (va_rf x1), some (.int x2), some (.int x3), some (.int x4), some (.int x5), some (.int x6), none, none, none] [] h (.inl (some (.int r))) h') {h : jw_H} {x0 : Nat} {x1 : Option Nat} {x2 : Int32} {x3 : Int32} {x4 : Int32} {x5 : Int32} {x6 : Int32} {r : Int32} {h' : jw_H} (hq : g_X8_print_b12 k12 h x0 x1 x2 x3 x4 x5 x6 = some (r, h')) : jw_E 2 uX8_print hi 12 [some (.ref x0), some (va_rf x1), some (.int x2), some (.int x3), some (.int x4), some (.int x5), some (.int x6), none, none, none] [] h (.inl (some (.int r))) h' := by
  unfold g_X8_print_b12 at hq
  refine jw_iload dX8_print_12 rfl ?_
  refine jw_iload_n dX8_print_14 rfl ?_
  rcases jw_if hq with ⟨c1, hq⟩ | ⟨c1, hq⟩
  · refine jw_icmp_gt_t (tgt := 145) dX8_print_15 (by decide) c1 ?_
    refine jw_iconst dX8_print_145 (v := (0 : Int32)) (by decide) ?_
    cases hq
    exact jw_iret (ty := .int) dX8_print_146 rfl rfl
  · refine jw_icmp_gt_f (tgt := 145) dX8_print_15 (by decide) c1 ?_
    refine jw_iload dX8_print_18 rfl ?_
    refine jw_iconst dX8_print_20 (v := (-1 : Int32)) (by decide) ?_
    rcases jw_if hq with ⟨c2, hq⟩ | ⟨c2, hq⟩
    · refine jw_icmp_ne_f (tgt := 28) dX8_print_21 (by decide) c2 ?_
      refine jw_iconst dX8_print_24 (v := (0 : Int32)) (by decide) ?_
      refine jw_goto (tgt := 40) dX8_print_25 (by decide) ?_
      exact l_X8_print_b40 hk12 hq
    · refine jw_icmp_ne_t (tgt := 28) dX8_print_21 (by decide) c2 ?_
      refine jw_aload_n dX8_print_28 (o := (some x0)) rfl ?_
      refine jw_iload dX8_print_29 rfl ?_
      refine jw_iload dX8_print_31 rfl ?_
      refine jw_iadd dX8_print_33 ?_
      refine jw_iload_n dX8_print_34 rfl ?_
      refine jw_isub dX8_print_35 ?_
      refine jw_iconst dX8_print_36 (v := (1 : Int32)) (by decide) ?_
      obtain ⟨a3, ea3, hq⟩ := Option.bind_eq_some_iff.mp hq
      obtain ⟨eoa3, eta3⟩ := jw_rc_spec ea3
      obtain ⟨w5, h4, ew5, hq⟩ := jw_b2_spec hq
      refine jw_callV (As := [.int ((x4 + x6) - x2), .int (1 : Int32)]) (S := []) (a := a3) (v := some (.int w5)) dX8_print_37 mt_X8_writeNumber in_X8_writeNumber se_X8_writeNumber lk_X8_43 (c_X8_writeNumber ew5) eta3 (by decide) rfl rfl (by decide) (Nat.le_of_ble_eq_true rfl) (by cases eoa3; rfl) ?_
      exact l_X8_print_b40 hk12 hq

theorem l_X8_print_b12 {hi : jw_H} : ∀ (n : Nat) (h : jw_H) (x0 : Nat) (x1 : Option Nat) (x2 : Int32) (x3 : Int32) (x4 : Int32) (x5 : Int32) (x6 : Int32) (r : Int32) (h' : jw_H), f_X8_print_b12  n h x0 x1 x2 x3 x4 x5 x6 = some (r, h') → jw_E 2 uX8_print hi 12 [some (.ref x0), some (va_rf x1), some (.int x2), some (.int x3), some (.int x4), some (.int x5), some (.int x6), none, none, none] [] h (.inl (some (.int r))) h' := by
  intro n
  induction n with
  | zero => intro h x0 x1 x2 x3 x4 x5 x6 r h' hq; exact nomatch hq
  | succ n ih => intro h x0 x1 x2 x3 x4 x5 x6 r h' hq; exact l_X8_print_b12g ih hq

set_option maxRecDepth 100000 in
set_option maxHeartbeats 4000000 in
theorem l_X8_print {hi : jw_H} {h : jw_H} {x0 : Nat} {x1 : Option Nat} {x2 : Int32} {x3 : Int32} {x4 : Int32} {r : Int32} {h' : jw_H} (hq : f_X8_print  h x0 x1 x2 x3 x4 = some (r, h')) : jw_E 2 uX8_print hi 0 [some (.ref x0), some (va_rf x1), some (.int x2), some (.int x3), some (.int x4), none, none, none, none, none] [] h (.inl (some (.int r))) h' := by
  unfold f_X8_print at hq
  refine jw_aload_n dX8_print_0 (o := (some x0)) rfl ?_
  obtain ⟨v1, ev1, hq⟩ := Option.bind_eq_some_iff.mp hq
  refine jw_getR (o := (some x0)) dX8_print_1 ev1 fl_X8_20 rfl ?_
  obtain ⟨v2, ev2, hq⟩ := Option.bind_eq_some_iff.mp hq
  refine jw_getI (o := v1) dX8_print_4 ev2 fl_X8_39 rfl ?_
  refine jw_istore (L' := [some (.ref x0), some (va_rf x1), some (.int x2), some (.int x3), some (.int x4), some (.int v2), none, none, none, none]) dX8_print_7 (Nat.le_of_ble_eq_true rfl) rfl ?_
  refine jw_iload_n dX8_print_9 rfl ?_
  refine jw_istore (L' := [some (.ref x0), some (va_rf x1), some (.int x2), some (.int x3), some (.int x4), some (.int v2), some (.int x2), none, none, none]) dX8_print_10 (Nat.le_of_ble_eq_true rfl) rfl ?_
  exact l_X8_print_b12  jw_FU _ _ _ _ _ _ _ _ _ _ hq

theorem c_X8_print {h : jw_H} {x0 : Nat} {x1 : Option Nat} {x2 : Int32} {x3 : Int32} {x4 : Int32} {r : Int32} {h' : jw_H} (hq : f_X8_print h x0 x1 x2 x3 x4 = some (r, h')) : jw_Con (Cond.code yX8_print cX8_print 10 (some .int)) yX8_print 2 [.ref x0, va_rf x1, .int x2, .int x3, .int x4] h (.inl (some (.int r))) h' :=
  jw_con false (plainFor_of_name (by decide +kernel)) (fun z => nomatch z) (by simp [jw_ent, jw_sl0_nil, jw_sl0_int, jw_sl0_long, jw_sl0_ref, jw_sl0_rf, jw_sl0_scr, List.replicate]) (by simp [jw_sl0_nil, jw_sl0_int, jw_sl0_long, jw_sl0_ref, jw_sl0_rf, jw_sl0_scr]) (l_X8_print hq)


/-! X8_printNumber -/
noncomputable def g_X8_printNumber_b26 (h : jw_H) (t0 : Int32) : Option (Int32 × jw_H) :=
 some (t0, h)

noncomputable def f_X8_printNumber (h : jw_H) (x0 : Nat) (x1 : Int32) : Option (Int32 × jw_H) :=
 (jw_gR h 8 (some x0) 1).bind fun v1 =>
 (jw_gR h 8 (some x0) 3).bind fun v2 =>
 (jw_rc h 8 (some x0)).bind fun a3 =>
 jw_b2 (f_X8_writeNumber h a3 x1 (0 : Int32)) fun w5 h4 =>
 (jw_rc h4 7 v1).bind fun a6 =>
 jw_b2 (f_X7_add h4 a6 v2 (0 : Int32) w5) fun w8 h7 =>
 if w8 = 0 then (g_X8_printNumber_b26  h7 (4 : Int32))
 else (g_X8_printNumber_b26  h7 (0 : Int32))

set_option maxRecDepth 100000 in
set_option maxHeartbeats 4000000 in
theorem l_X8_printNumber_b26 {hi : jw_H} {h : jw_H} {t0 : Int32} {r : Int32} {h' : jw_H} (hq : g_X8_printNumber_b26  h t0 = some (r, h')) : jw_E 2 uX8_printNumber hi 26 [none, none] [.int t0] h (.inl (some (.int r))) h' := by
  unfold g_X8_printNumber_b26 at hq
  cases hq
  exact jw_iret (ty := .int) dX8_printNumber_26 rfl rfl

set_option maxRecDepth 100000 in
set_option maxHeartbeats 4000000 in
theorem l_X8_printNumber {hi : jw_H} {h : jw_H} {x0 : Nat} {x1 : Int32} {r : Int32} {h' : jw_H} (hq : f_X8_printNumber  h x0 x1 = some (r, h')) : jw_E 2 uX8_printNumber hi 0 [some (.ref x0), some (.int x1)] [] h (.inl (some (.int r))) h' := by
  unfold f_X8_printNumber at hq
  refine jw_aload_n dX8_printNumber_0 (o := (some x0)) rfl ?_
  obtain ⟨v1, ev1, hq⟩ := Option.bind_eq_some_iff.mp hq
  refine jw_getR (o := (some x0)) dX8_printNumber_1 ev1 fl_X8_20 rfl ?_
  refine jw_aload_n dX8_printNumber_4 (o := (some x0)) rfl ?_
  obtain ⟨v2, ev2, hq⟩ := Option.bind_eq_some_iff.mp hq
  refine jw_getR (o := (some x0)) dX8_printNumber_5 ev2 fl_X8_27 rfl ?_
  refine jw_iconst dX8_printNumber_8 (v := (0 : Int32)) (by decide) ?_
  refine jw_aload_n dX8_printNumber_9 (o := (some x0)) rfl ?_
  refine jw_iload_n dX8_printNumber_10 rfl ?_
  refine jw_iconst dX8_printNumber_11 (v := (0 : Int32)) (by decide) ?_
  obtain ⟨a3, ea3, hq⟩ := Option.bind_eq_some_iff.mp hq
  obtain ⟨eoa3, eta3⟩ := jw_rc_spec ea3
  obtain ⟨w5, h4, ew5, hq⟩ := jw_b2_spec hq
  refine jw_callV (As := [.int x1, .int (0 : Int32)]) (S := [.int (0 : Int32), va_rf v2, va_rf v1]) (a := a3) (v := some (.int w5)) dX8_printNumber_12 mt_X8_writeNumber in_X8_writeNumber se_X8_writeNumber lk_X8_43 (c_X8_writeNumber ew5) eta3 (by decide) rfl rfl (by decide) (by simp only [List.map_cons, List.map_nil, List.sum_cons, List.sum_nil, jw_cat_rf, jw_cat_i, jw_cat_l, jw_cat_a, jw_cat_s] <;> decide) (by cases eoa3; rfl) ?_
  obtain ⟨a6, ea6, hq⟩ := Option.bind_eq_some_iff.mp hq
  obtain ⟨eoa6, eta6⟩ := jw_rc_spec ea6
  obtain ⟨w8, h7, ew8, hq⟩ := jw_b2_spec hq
  refine jw_callV (As := [va_rf v2, .int (0 : Int32), .int w5]) (S := []) (a := a6) (v := some (.int w8)) dX8_printNumber_15 mt_X7_add in_X7_add se_X7_add lk_X8_55 (c_X7_add ew8) eta6 (by decide) rfl rfl (by decide) (Nat.le_of_ble_eq_true rfl) (by cases eoa6; rfl) ?_
  rcases jw_if hq with ⟨c9, hq⟩ | ⟨c9, hq⟩
  · refine jw_if_eq_t (tgt := 25) dX8_printNumber_18 (by decide) c9 ?_
    refine jw_iconst dX8_printNumber_25 (v := (4 : Int32)) (by decide) ?_
    refine jw_forget [false, false] (L' := [none, none]) rfl ?_
    exact l_X8_printNumber_b26  hq
  · refine jw_if_eq_f (tgt := 25) dX8_printNumber_18 (by decide) c9 ?_
    refine jw_iconst dX8_printNumber_21 (v := (0 : Int32)) (by decide) ?_
    refine jw_goto (tgt := 26) dX8_printNumber_22 (by decide) ?_
    refine jw_forget [false, false] (L' := [none, none]) rfl ?_
    exact l_X8_printNumber_b26  hq

theorem c_X8_printNumber {h : jw_H} {x0 : Nat} {x1 : Int32} {r : Int32} {h' : jw_H} (hq : f_X8_printNumber h x0 x1 = some (r, h')) : jw_Con (Cond.code yX8_printNumber cX8_printNumber 2 (some .int)) yX8_printNumber 2 [.ref x0, .int x1] h (.inl (some (.int r))) h' :=
  jw_con false (plainFor_of_name (by decide +kernel)) (fun z => nomatch z) (by simp [jw_ent, jw_sl0_nil, jw_sl0_int, jw_sl0_long, jw_sl0_ref, jw_sl0_rf, jw_sl0_scr, List.replicate]) (by simp [jw_sl0_nil, jw_sl0_int, jw_sl0_long, jw_sl0_ref, jw_sl0_rf, jw_sl0_scr]) (l_X8_printNumber hq)


/-! X8_hold -/
noncomputable def g_X8_hold_b11 (k11 : jw_H → Nat → Option Nat → Int32 → Int32 → Option (Unit × jw_H)) (h : jw_H) (x0 : Nat) (x1 : Option Nat) (x3 : Int32) (x4 : Int32) : Option (Unit × jw_H) :=
 if x3 < x4 then (some ((), h))
 else ((jw_gR h 8 (some x0) 0).bind fun v2 =>
 (jw_rc h 7 v2).bind fun a3 =>
 jw_b2 (f_X7_addRow h a3 x1 x4) fun w5 h4 =>
 k11 h4 x0 x1 x3 (x4 + (1 : Int32)))

noncomputable def f_X8_hold_b11 (n : Nat) : jw_H → Nat → Option Nat → Int32 → Int32 → Option (Unit × jw_H) :=
 Nat.rec (fun _ _ _ _ _ => none) (fun _ k11 => g_X8_hold_b11 k11) n

noncomputable def f_X8_hold (h : jw_H) (x0 : Nat) (x1 : Option Nat) (x2 : Int32) (x3 : Int32) : Option (Unit × jw_H) :=
 (jw_gR h 8 (some x0) 0).bind fun v1 =>
 (jw_rc h 7 v1).bind fun a2 =>
 jw_b2 (f_X7_shrink h a2 (0 : Int32)) fun w4 h3 =>
 f_X8_hold_b11  jw_FU h3 x0 x1 x3 x2

set_option maxRecDepth 100000 in
set_option maxHeartbeats 4000000 in
theorem l_X8_hold_b11g {hi : jw_H} {k11 : jw_H → Nat → Option Nat → Int32 → Int32 → Option (Unit × jw_H)} (hk11 : ∀ (h : jw_H) (x0 : Nat) (x1 : Option Nat) (x3 : Int32) (x4 : Int32) (r : Unit) (h' : jw_H), k11 h x0 x1 x3 x4 = some (r, h') → jw_E 3 uX8_hold hi 11 [some (.ref x0), some (va_rf x1), none, some (.int x3), some (.int x4)] [] h (.inl none) h') {h : jw_H} {x0 : Nat} {x1 : Option Nat} {x3 : Int32} {x4 : Int32} {r : Unit} {h' : jw_H} (hq : g_X8_hold_b11 k11 h x0 x1 x3 x4 = some (r, h')) : jw_E 3 uX8_hold hi 11 [some (.ref x0), some (va_rf x1), none, some (.int x3), some (.int x4)] [] h (.inl none) h' := by
  unfold g_X8_hold_b11 at hq
  refine jw_iload dX8_hold_11 rfl ?_
  refine jw_iload_n dX8_hold_13 rfl ?_
  rcases jw_if hq with ⟨c1, hq⟩ | ⟨c1, hq⟩
  · refine jw_icmp_gt_t (tgt := 34) dX8_hold_14 (by decide) c1 ?_
    cases hq
    exact jw_vret dX8_hold_34 rfl
  · refine jw_icmp_gt_f (tgt := 34) dX8_hold_14 (by decide) c1 ?_
    refine jw_aload_n dX8_hold_17 (o := (some x0)) rfl ?_
    obtain ⟨v2, ev2, hq⟩ := Option.bind_eq_some_iff.mp hq
    refine jw_getR (o := (some x0)) dX8_hold_18 ev2 fl_X8_14 rfl ?_
    refine jw_aload_n dX8_hold_21 (o := x1) rfl ?_
    refine jw_iload dX8_hold_22 rfl ?_
    obtain ⟨a3, ea3, hq⟩ := Option.bind_eq_some_iff.mp hq
    obtain ⟨eoa3, eta3⟩ := jw_rc_spec ea3
    obtain ⟨w5, h4, ew5, hq⟩ := jw_b2_spec hq
    refine jw_callV (As := [va_rf x1, .int x4]) (S := []) (a := a3) (v := some (.int w5)) dX8_hold_24 mt_X7_addRow in_X7_addRow se_X7_addRow lk_X8_62 (c_X7_addRow ew5) eta3 (by decide) rfl rfl (by decide) (Nat.le_of_ble_eq_true rfl) (by cases eoa3; rfl) ?_
    refine jw_pop dX8_hold_27 rfl ?_
    refine jw_iinc (L' := [some (.ref x0), some (va_rf x1), none, some (.int x3), some (.int (x4 + (1 : Int32)))]) dX8_hold_28 rfl (v := (1 : Int32)) (by decide) (Nat.le_of_ble_eq_true rfl) rfl ?_
    refine jw_goto (tgt := 11) dX8_hold_31 (by decide) ?_
    exact hk11 _ _ _ _ _ _ _ hq

theorem l_X8_hold_b11 {hi : jw_H} : ∀ (n : Nat) (h : jw_H) (x0 : Nat) (x1 : Option Nat) (x3 : Int32) (x4 : Int32) (r : Unit) (h' : jw_H), f_X8_hold_b11  n h x0 x1 x3 x4 = some (r, h') → jw_E 3 uX8_hold hi 11 [some (.ref x0), some (va_rf x1), none, some (.int x3), some (.int x4)] [] h (.inl none) h' := by
  intro n
  induction n with
  | zero => intro h x0 x1 x3 x4 r h' hq; exact nomatch hq
  | succ n ih => intro h x0 x1 x3 x4 r h' hq; exact l_X8_hold_b11g ih hq

set_option maxRecDepth 100000 in
set_option maxHeartbeats 4000000 in
theorem l_X8_hold {hi : jw_H} {h : jw_H} {x0 : Nat} {x1 : Option Nat} {x2 : Int32} {x3 : Int32} {r : Unit} {h' : jw_H} (hq : f_X8_hold  h x0 x1 x2 x3 = some (r, h')) : jw_E 3 uX8_hold hi 0 [some (.ref x0), some (va_rf x1), some (.int x2), some (.int x3), none] [] h (.inl none) h' := by
  unfold f_X8_hold at hq
  refine jw_aload_n dX8_hold_0 (o := (some x0)) rfl ?_
  obtain ⟨v1, ev1, hq⟩ := Option.bind_eq_some_iff.mp hq
  refine jw_getR (o := (some x0)) dX8_hold_1 ev1 fl_X8_14 rfl ?_
  refine jw_iconst dX8_hold_4 (v := (0 : Int32)) (by decide) ?_
  obtain ⟨a2, ea2, hq⟩ := Option.bind_eq_some_iff.mp hq
  obtain ⟨eoa2, eta2⟩ := jw_rc_spec ea2
  obtain ⟨w4, h3, ew4, hq⟩ := jw_b2_spec hq
  refine jw_callV (As := [.int (0 : Int32)]) (S := []) (a := a2) (v := none) dX8_hold_5 mt_X7_shrink in_X7_shrink se_X7_shrink lk_X8_59 (c_X7_shrink ew4) eta2 (by decide) rfl rfl (by decide) (Nat.le_of_ble_eq_true rfl) (by cases eoa2; rfl) ?_
  refine jw_iload_n dX8_hold_8 rfl ?_
  refine jw_istore (L' := [some (.ref x0), some (va_rf x1), some (.int x2), some (.int x3), some (.int x2)]) dX8_hold_9 (Nat.le_of_ble_eq_true rfl) rfl ?_
  refine jw_forget [true, true, false, true, true] (L' := [some (.ref x0), some (va_rf x1), none, some (.int x3), some (.int x2)]) rfl ?_
  exact l_X8_hold_b11  jw_FU _ _ _ _ _ _ _ hq

theorem c_X8_hold {h : jw_H} {x0 : Nat} {x1 : Option Nat} {x2 : Int32} {x3 : Int32} {r : Unit} {h' : jw_H} (hq : f_X8_hold h x0 x1 x2 x3 = some (r, h')) : jw_Con (Cond.code yX8_hold cX8_hold 5 none) yX8_hold 3 [.ref x0, va_rf x1, .int x2, .int x3] h (.inl none) h' :=
  jw_con false (plainFor_of_name (by decide +kernel)) (fun z => nomatch z) (by simp [jw_ent, jw_sl0_nil, jw_sl0_int, jw_sl0_long, jw_sl0_ref, jw_sl0_rf, jw_sl0_scr, List.replicate]) (by simp [jw_sl0_nil, jw_sl0_int, jw_sl0_long, jw_sl0_ref, jw_sl0_rf, jw_sl0_scr]) (l_X8_hold hq)


/-! X8_holdMore -/
noncomputable def g_X8_holdMore_b23 (k23 : jw_H → Nat → Option Nat → Int32 → Int32 → Option (Int32 × jw_H)) (h : jw_H) (x0 : Nat) (x1 : Option Nat) (x3 : Int32) (x4 : Int32) : Option (Int32 × jw_H) :=
 if x3 < x4 then (some ((0 : Int32), h))
 else ((jw_gR h 8 (some x0) 0).bind fun v2 =>
 (jw_rc h 7 v2).bind fun a3 =>
 jw_b2 (f_X7_addRow h a3 x1 x4) fun w5 h4 =>
 k23 h4 x0 x1 x3 (x4 + (1 : Int32)))

noncomputable def f_X8_holdMore_b23 (n : Nat) : jw_H → Nat → Option Nat → Int32 → Int32 → Option (Int32 × jw_H) :=
 Nat.rec (fun _ _ _ _ _ => none) (fun _ k23 => g_X8_holdMore_b23 k23) n

noncomputable def f_X8_holdMore (h : jw_H) (x0 : Nat) (x1 : Option Nat) (x2 : Int32) (x3 : Int32) : Option (Int32 × jw_H) :=
 (jw_gR h 8 (some x0) 0).bind fun v1 =>
 (jw_gI h 7 v1 2).bind fun v2 =>
 if (((v2 + x3) - x2) + (1 : Int32)) ≤ (40 : Int32) then (f_X8_holdMore_b23  jw_FU h x0 x1 x3 x2)
 else (some ((4 : Int32), h))

set_option maxRecDepth 100000 in
set_option maxHeartbeats 4000000 in
theorem l_X8_holdMore_b23g {hi : jw_H} {k23 : jw_H → Nat → Option Nat → Int32 → Int32 → Option (Int32 × jw_H)} (hk23 : ∀ (h : jw_H) (x0 : Nat) (x1 : Option Nat) (x3 : Int32) (x4 : Int32) (r : Int32) (h' : jw_H), k23 h x0 x1 x3 x4 = some (r, h') → jw_E 3 uX8_holdMore hi 23 [some (.ref x0), some (va_rf x1), none, some (.int x3), some (.int x4)] [] h (.inl (some (.int r))) h') {h : jw_H} {x0 : Nat} {x1 : Option Nat} {x3 : Int32} {x4 : Int32} {r : Int32} {h' : jw_H} (hq : g_X8_holdMore_b23 k23 h x0 x1 x3 x4 = some (r, h')) : jw_E 3 uX8_holdMore hi 23 [some (.ref x0), some (va_rf x1), none, some (.int x3), some (.int x4)] [] h (.inl (some (.int r))) h' := by
  unfold g_X8_holdMore_b23 at hq
  refine jw_iload dX8_holdMore_23 rfl ?_
  refine jw_iload_n dX8_holdMore_25 rfl ?_
  rcases jw_if hq with ⟨c1, hq⟩ | ⟨c1, hq⟩
  · refine jw_icmp_gt_t (tgt := 46) dX8_holdMore_26 (by decide) c1 ?_
    refine jw_iconst dX8_holdMore_46 (v := (0 : Int32)) (by decide) ?_
    cases hq
    exact jw_iret (ty := .int) dX8_holdMore_47 rfl rfl
  · refine jw_icmp_gt_f (tgt := 46) dX8_holdMore_26 (by decide) c1 ?_
    refine jw_aload_n dX8_holdMore_29 (o := (some x0)) rfl ?_
    obtain ⟨v2, ev2, hq⟩ := Option.bind_eq_some_iff.mp hq
    refine jw_getR (o := (some x0)) dX8_holdMore_30 ev2 fl_X8_14 rfl ?_
    refine jw_aload_n dX8_holdMore_33 (o := x1) rfl ?_
    refine jw_iload dX8_holdMore_34 rfl ?_
    obtain ⟨a3, ea3, hq⟩ := Option.bind_eq_some_iff.mp hq
    obtain ⟨eoa3, eta3⟩ := jw_rc_spec ea3
    obtain ⟨w5, h4, ew5, hq⟩ := jw_b2_spec hq
    refine jw_callV (As := [va_rf x1, .int x4]) (S := []) (a := a3) (v := some (.int w5)) dX8_holdMore_36 mt_X7_addRow in_X7_addRow se_X7_addRow lk_X8_62 (c_X7_addRow ew5) eta3 (by decide) rfl rfl (by decide) (Nat.le_of_ble_eq_true rfl) (by cases eoa3; rfl) ?_
    refine jw_pop dX8_holdMore_39 rfl ?_
    refine jw_iinc (L' := [some (.ref x0), some (va_rf x1), none, some (.int x3), some (.int (x4 + (1 : Int32)))]) dX8_holdMore_40 rfl (v := (1 : Int32)) (by decide) (Nat.le_of_ble_eq_true rfl) rfl ?_
    refine jw_goto (tgt := 23) dX8_holdMore_43 (by decide) ?_
    exact hk23 _ _ _ _ _ _ _ hq

theorem l_X8_holdMore_b23 {hi : jw_H} : ∀ (n : Nat) (h : jw_H) (x0 : Nat) (x1 : Option Nat) (x3 : Int32) (x4 : Int32) (r : Int32) (h' : jw_H), f_X8_holdMore_b23  n h x0 x1 x3 x4 = some (r, h') → jw_E 3 uX8_holdMore hi 23 [some (.ref x0), some (va_rf x1), none, some (.int x3), some (.int x4)] [] h (.inl (some (.int r))) h' := by
  intro n
  induction n with
  | zero => intro h x0 x1 x3 x4 r h' hq; exact nomatch hq
  | succ n ih => intro h x0 x1 x3 x4 r h' hq; exact l_X8_holdMore_b23g ih hq

set_option maxRecDepth 100000 in
set_option maxHeartbeats 4000000 in
theorem l_X8_holdMore {hi : jw_H} {h : jw_H} {x0 : Nat} {x1 : Option Nat} {x2 : Int32} {x3 : Int32} {r : Int32} {h' : jw_H} (hq : f_X8_holdMore  h x0 x1 x2 x3 = some (r, h')) : jw_E 3 uX8_holdMore hi 0 [some (.ref x0), some (va_rf x1), some (.int x2), some (.int x3), none] [] h (.inl (some (.int r))) h' := by
  unfold f_X8_holdMore at hq
  refine jw_aload_n dX8_holdMore_0 (o := (some x0)) rfl ?_
  obtain ⟨v1, ev1, hq⟩ := Option.bind_eq_some_iff.mp hq
  refine jw_getR (o := (some x0)) dX8_holdMore_1 ev1 fl_X8_14 rfl ?_
  obtain ⟨v2, ev2, hq⟩ := Option.bind_eq_some_iff.mp hq
  refine jw_getI (o := v1) dX8_holdMore_4 ev2 fl_X8_39 rfl ?_
  refine jw_iload_n dX8_holdMore_7 rfl ?_
  refine jw_iadd dX8_holdMore_8 ?_
  refine jw_iload_n dX8_holdMore_9 rfl ?_
  refine jw_isub dX8_holdMore_10 ?_
  refine jw_iconst dX8_holdMore_11 (v := (1 : Int32)) (by decide) ?_
  refine jw_iadd dX8_holdMore_12 ?_
  refine jw_bipush dX8_holdMore_13 (v := (40 : Int32)) (by decide) ?_
  rcases jw_if hq with ⟨c3, hq⟩ | ⟨c3, hq⟩
  · refine jw_icmp_le_t (tgt := 20) dX8_holdMore_15 (by decide) c3 ?_
    refine jw_iload_n dX8_holdMore_20 rfl ?_
    refine jw_istore (L' := [some (.ref x0), some (va_rf x1), some (.int x2), some (.int x3), some (.int x2)]) dX8_holdMore_21 (Nat.le_of_ble_eq_true rfl) rfl ?_
    refine jw_forget [true, true, false, true, true] (L' := [some (.ref x0), some (va_rf x1), none, some (.int x3), some (.int x2)]) rfl ?_
    exact l_X8_holdMore_b23  jw_FU _ _ _ _ _ _ _ hq
  · refine jw_icmp_le_f (tgt := 20) dX8_holdMore_15 (by decide) c3 ?_
    refine jw_iconst dX8_holdMore_18 (v := (4 : Int32)) (by decide) ?_
    cases hq
    exact jw_iret (ty := .int) dX8_holdMore_19 rfl rfl

theorem c_X8_holdMore {h : jw_H} {x0 : Nat} {x1 : Option Nat} {x2 : Int32} {x3 : Int32} {r : Int32} {h' : jw_H} (hq : f_X8_holdMore h x0 x1 x2 x3 = some (r, h')) : jw_Con (Cond.code yX8_holdMore cX8_holdMore 5 (some .int)) yX8_holdMore 3 [.ref x0, va_rf x1, .int x2, .int x3] h (.inl (some (.int r))) h' :=
  jw_con false (plainFor_of_name (by decide +kernel)) (fun z => nomatch z) (by simp [jw_ent, jw_sl0_nil, jw_sl0_int, jw_sl0_long, jw_sl0_ref, jw_sl0_rf, jw_sl0_scr, List.replicate]) (by simp [jw_sl0_nil, jw_sl0_int, jw_sl0_long, jw_sl0_ref, jw_sl0_rf, jw_sl0_scr]) (l_X8_holdMore hq)


/-! X9_setMark -/
noncomputable def f_X9_setMark (h : jw_H) (x0 : Nat) (x1 : Int32) (x2 : Int32) : Option (Unit × jw_H) :=
 if x1 < 0 then (some ((), h))
 else ((jw_gR h 9 (some x0) 2).bind fun v2 =>
 (jw_ln h v2).bind fun v3 =>
 if v3 ≤ x1 then (some ((), h))
 else ((jw_gR h 9 (some x0) 2).bind fun v5 =>
 (jw_si h 20 v5 x1 x2).bind fun h6 =>
 some ((), h6)))

set_option maxRecDepth 100000 in
set_option maxHeartbeats 4000000 in
theorem l_X9_setMark {hi : jw_H} {h : jw_H} {x0 : Nat} {x1 : Int32} {x2 : Int32} {r : Unit} {h' : jw_H} (hq : f_X9_setMark  h x0 x1 x2 = some (r, h')) : jw_E 0 uX9_setMark hi 0 [some (.ref x0), some (.int x1), some (.int x2)] [] h (.inl none) h' := by
  unfold f_X9_setMark at hq
  refine jw_iload_n dX9_setMark_0 rfl ?_
  rcases jw_if hq with ⟨c1, hq⟩ | ⟨c1, hq⟩
  · refine jw_if_lt_t (tgt := 20) dX9_setMark_1 (by decide) c1 ?_
    cases hq
    exact jw_vret dX9_setMark_20 rfl
  · refine jw_if_lt_f (tgt := 20) dX9_setMark_1 (by decide) c1 ?_
    refine jw_iload_n dX9_setMark_4 rfl ?_
    refine jw_aload_n dX9_setMark_5 (o := (some x0)) rfl ?_
    obtain ⟨v2, ev2, hq⟩ := Option.bind_eq_some_iff.mp hq
    refine jw_getR (o := (some x0)) dX9_setMark_6 ev2 fl_X9_24 rfl ?_
    obtain ⟨v3, ev3, hq⟩ := Option.bind_eq_some_iff.mp hq
    refine jw_alen (o := v2) dX9_setMark_9 ev3 ?_
    rcases jw_if hq with ⟨c4, hq⟩ | ⟨c4, hq⟩
    · refine jw_icmp_ge_t (tgt := 20) dX9_setMark_10 (by decide) c4 ?_
      cases hq
      exact jw_vret dX9_setMark_20 rfl
    · refine jw_icmp_ge_f (tgt := 20) dX9_setMark_10 (by decide) c4 ?_
      refine jw_aload_n dX9_setMark_13 (o := (some x0)) rfl ?_
      obtain ⟨v5, ev5, hq⟩ := Option.bind_eq_some_iff.mp hq
      refine jw_getR (o := (some x0)) dX9_setMark_14 ev5 fl_X9_24 rfl ?_
      refine jw_iload_n dX9_setMark_17 rfl ?_
      refine jw_iload_n dX9_setMark_18 rfl ?_
      obtain ⟨h6, eh6, hq⟩ := Option.bind_eq_some_iff.mp hq
      refine jw_iast (o := v5) dX9_setMark_19 eh6 ?_
      cases hq
      exact jw_vret dX9_setMark_20 rfl

theorem c_X9_setMark {h : jw_H} {x0 : Nat} {x1 : Int32} {x2 : Int32} {r : Unit} {h' : jw_H} (hq : f_X9_setMark h x0 x1 x2 = some (r, h')) : jw_Con (Cond.code yX9_setMark cX9_setMark 3 none) yX9_setMark 0 [.ref x0, .int x1, .int x2] h (.inl none) h' :=
  jw_con false (plainFor_of_name (by decide +kernel)) (fun z => nomatch z) (by simp [jw_ent, jw_sl0_nil, jw_sl0_int, jw_sl0_long, jw_sl0_ref, jw_sl0_rf, jw_sl0_scr, List.replicate]) (by simp [jw_sl0_nil, jw_sl0_int, jw_sl0_long, jw_sl0_ref, jw_sl0_rf, jw_sl0_scr]) (l_X9_setMark hq)


/-! X1_writeFile -/
noncomputable def f_X1_writeFile (h : jw_H) (x0 : Nat) (x1 : Option Nat) : Option (Unit × jw_H) :=
 if x1 = none then (some ((), h))
 else ((jw_gR h 1 (some x0) 7).bind fun v2 =>
 (jw_rc h 7 x1).bind fun a3 =>
 jw_b2 (f_X7_addRow h a3 v2 (1 : Int32)) fun w5 h4 =>
 if w5 = 0 then ((jw_pI h4 1 (some x0) 15 (4 : Int32)).bind fun h7 =>
 some ((), h7))
 else (some ((), h4)))

set_option maxRecDepth 100000 in
set_option maxHeartbeats 4000000 in
theorem l_X1_writeFile {hi : jw_H} {h : jw_H} {x0 : Nat} {x1 : Option Nat} {r : Unit} {h' : jw_H} (hq : f_X1_writeFile  h x0 x1 = some (r, h')) : jw_E 3 uX1_writeFile hi 0 [some (.ref x0), some (va_rf x1)] [] h (.inl none) h' := by
  unfold f_X1_writeFile at hq
  refine jw_aload_n dX1_writeFile_0 (o := x1) rfl ?_
  rcases jw_if hq with ⟨c1, hq⟩ | ⟨c1, hq⟩
  · refine jw_ifnull_t (o := x1) (tgt := 21) dX1_writeFile_1 (by decide) c1 ?_
    cases hq
    exact jw_vret dX1_writeFile_21 rfl
  · refine jw_ifnull_f (o := x1) dX1_writeFile_1 c1 ?_
    refine jw_aload_n dX1_writeFile_4 (o := x1) rfl ?_
    refine jw_aload_n dX1_writeFile_5 (o := (some x0)) rfl ?_
    obtain ⟨v2, ev2, hq⟩ := Option.bind_eq_some_iff.mp hq
    refine jw_getR (o := (some x0)) dX1_writeFile_6 ev2 fl_X1_45 rfl ?_
    refine jw_iconst dX1_writeFile_9 (v := (1 : Int32)) (by decide) ?_
    obtain ⟨a3, ea3, hq⟩ := Option.bind_eq_some_iff.mp hq
    obtain ⟨eoa3, eta3⟩ := jw_rc_spec ea3
    obtain ⟨w5, h4, ew5, hq⟩ := jw_b2_spec hq
    refine jw_callV (As := [va_rf v2, .int (1 : Int32)]) (S := []) (a := a3) (v := some (.int w5)) dX1_writeFile_10 mt_X7_addRow in_X7_addRow se_X7_addRow lk_X1_144 (c_X7_addRow ew5) eta3 (by decide) rfl rfl (by decide) (Nat.le_of_ble_eq_true rfl) (by cases eoa3; rfl) ?_
    rcases jw_if hq with ⟨c6, hq⟩ | ⟨c6, hq⟩
    · refine jw_if_ne_f (tgt := 21) dX1_writeFile_13 (by decide) c6 ?_
      refine jw_aload_n dX1_writeFile_16 (o := (some x0)) rfl ?_
      refine jw_iconst dX1_writeFile_17 (v := (4 : Int32)) (by decide) ?_
      obtain ⟨h7, eh7, hq⟩ := Option.bind_eq_some_iff.mp hq
      refine jw_putI (o := (some x0)) dX1_writeFile_18 eh7 fl_X1_65 rfl rfl ?_
      cases hq
      exact jw_vret dX1_writeFile_21 rfl
    · refine jw_if_ne_t (tgt := 21) dX1_writeFile_13 (by decide) c6 ?_
      cases hq
      exact jw_vret dX1_writeFile_21 rfl

theorem c_X1_writeFile {h : jw_H} {x0 : Nat} {x1 : Option Nat} {r : Unit} {h' : jw_H} (hq : f_X1_writeFile h x0 x1 = some (r, h')) : jw_Con (Cond.code yX1_writeFile cX1_writeFile 2 none) yX1_writeFile 3 [.ref x0, va_rf x1] h (.inl none) h' :=
  jw_con false (plainFor_of_name (by decide +kernel)) (fun z => nomatch z) (by simp [jw_ent, jw_sl0_nil, jw_sl0_int, jw_sl0_long, jw_sl0_ref, jw_sl0_rf, jw_sl0_scr, List.replicate]) (by simp [jw_sl0_nil, jw_sl0_int, jw_sl0_long, jw_sl0_ref, jw_sl0_rf, jw_sl0_scr]) (l_X1_writeFile hq)


/-! X1_tell -/
noncomputable def f_X1_tell (h : jw_H) (x0 : Nat) (x1 : Option Nat) : Option (Unit × jw_H) :=
 (jw_gI h 5 x1 3).bind fun v1 =>
 if v1 = (61 : Int32) then ((jw_gR h 1 (some x0) 2).bind fun v3 =>
 (jw_gI h 1 (some x0) 11).bind fun v4 =>
 (jw_rc h 8 v3).bind fun a5 =>
 jw_b2 (f_X8_printNumber h a5 v4) fun w7 h6 =>
 (jw_pI h6 1 (some x0) 15 w7).bind fun h8 =>
 some ((), h8))
 else (if v1 = (72 : Int32) then ((jw_gR h 1 (some x0) 2).bind fun v10 =>
 (jw_gR h 1 (some x0) 7).bind fun v11 =>
 (jw_rc h 8 v10).bind fun a12 =>
 jw_b2 (f_X8_holdMore h a12 v11 (1 : Int32) (1 : Int32)) fun w14 h13 =>
 (jw_pI h13 1 (some x0) 15 w14).bind fun h15 =>
 some ((), h15))
 else (if v1 = (104 : Int32) then ((jw_gR h 1 (some x0) 2).bind fun v17 =>
 (jw_gR h 1 (some x0) 7).bind fun v18 =>
 (jw_rc h 8 v17).bind fun a19 =>
 jw_b2 (f_X8_hold h a19 v18 (1 : Int32) (1 : Int32)) fun w21 h20 =>
 some ((), h20))
 else (if v1 = (107 : Int32) then ((jw_gR h 1 (some x0) 6).bind fun v23 =>
 (jw_gI h 5 x1 5).bind fun v24 =>
 (jw_gI h 1 (some x0) 10).bind fun v25 =>
 (jw_rc h 9 v23).bind fun a26 =>
 jw_b2 (f_X9_setMark h a26 v24 v25) fun w28 h27 =>
 some ((), h27))
 else (if v1 = (110 : Int32) then ((jw_gR h 1 (some x0) 2).bind fun v30 =>
 (jw_gR h 1 (some x0) 7).bind fun v31 =>
 (jw_gI h 1 (some x0) 11).bind fun v32 =>
 (jw_rc h 8 v30).bind fun a33 =>
 jw_b2 (f_X8_print h a33 v31 (1 : Int32) (1 : Int32) v32) fun w35 h34 =>
 (jw_pI h34 1 (some x0) 15 w35).bind fun h36 =>
 some ((), h36))
 else (if v1 = (112 : Int32) then ((jw_gR h 1 (some x0) 2).bind fun v38 =>
 (jw_gR h 1 (some x0) 7).bind fun v39 =>
 (jw_rc h 8 v38).bind fun a40 =>
 jw_b2 (f_X8_print h a40 v39 (1 : Int32) (1 : Int32) (-1 : Int32)) fun w42 h41 =>
 (jw_pI h41 1 (some x0) 15 w42).bind fun h43 =>
 some ((), h43))
 else ((jw_gR h 1 (some x0) 2).bind fun v44 =>
 (jw_gI h 5 x1 5).bind fun v45 =>
 (jw_rc h 8 v44).bind fun a46 =>
 jw_b2 (f_X8_file h a46 v45) fun w48 h47 =>
 (jw_rc h47 1 (some x0)).bind fun a49 =>
 jw_b2 (f_X1_writeFile h47 a49 w48) fun w51 h50 =>
 some ((), h50)))))))

set_option maxRecDepth 100000 in
set_option maxHeartbeats 4000000 in
theorem l_X1_tell {hi : jw_H} {h : jw_H} {x0 : Nat} {x1 : Option Nat} {r : Unit} {h' : jw_H} (hq : f_X1_tell  h x0 x1 = some (r, h')) : jw_E 4 uX1_tell hi 0 [some (.ref x0), some (va_rf x1)] [] h (.inl none) h' := by
  unfold f_X1_tell at hq
  refine jw_aload_n dX1_tell_0 (o := x1) rfl ?_
  obtain ⟨v1, ev1, hq⟩ := Option.bind_eq_some_iff.mp hq
  refine jw_getI (o := x1) dX1_tell_1 ev1 fl_X1_125 rfl ?_
  rcases jw_if hq with ⟨c2, hq⟩ | ⟨c2, hq⟩
  · refine jw_lookup (off := 105) (tgt := 109) dX1_tell_4 (by decide) (jw_lks (l := [(61, 105), (72, 139), (104, 123), (107, 159), (110, 81), (112, 60)]) (by rw [c2]; rfl)) (by decide) ?_
    refine jw_aload_n dX1_tell_109 (o := (some x0)) rfl ?_
    refine jw_aload_n dX1_tell_110 (o := (some x0)) rfl ?_
    obtain ⟨v3, ev3, hq⟩ := Option.bind_eq_some_iff.mp hq
    refine jw_getR (o := (some x0)) dX1_tell_111 ev3 fl_X1_19 rfl ?_
    refine jw_aload_n dX1_tell_114 (o := (some x0)) rfl ?_
    obtain ⟨v4, ev4, hq⟩ := Option.bind_eq_some_iff.mp hq
    refine jw_getI (o := (some x0)) dX1_tell_115 ev4 fl_X1_137 rfl ?_
    obtain ⟨a5, ea5, hq⟩ := Option.bind_eq_some_iff.mp hq
    obtain ⟨eoa5, eta5⟩ := jw_rc_spec ea5
    obtain ⟨w7, h6, ew7, hq⟩ := jw_b2_spec hq
    refine jw_callV (As := [.int v4]) (S := [.ref x0]) (a := a5) (v := some (.int w7)) dX1_tell_118 mt_X8_printNumber in_X8_printNumber se_X8_printNumber lk_X1_306 (c_X8_printNumber ew7) eta5 (by decide) rfl rfl (by decide) (Nat.le_of_ble_eq_true rfl) (by cases eoa5; rfl) ?_
    obtain ⟨h8, eh8, hq⟩ := Option.bind_eq_some_iff.mp hq
    refine jw_putI (o := (some x0)) dX1_tell_121 eh8 fl_X1_65 rfl rfl ?_
    refine jw_goto (tgt := 196) dX1_tell_124 (by decide) ?_
    cases hq
    exact jw_vret dX1_tell_196 rfl
  · rcases jw_if hq with ⟨c9, hq⟩ | ⟨c9, hq⟩
    · refine jw_lookup (off := 139) (tgt := 143) dX1_tell_4 (by decide) (jw_lks (l := [(61, 105), (72, 139), (104, 123), (107, 159), (110, 81), (112, 60)]) (by rw [lv_osw (a := 61) c2 rfl]; rw [c9]; rfl)) (by decide) ?_
      refine jw_aload_n dX1_tell_143 (o := (some x0)) rfl ?_
      refine jw_aload_n dX1_tell_144 (o := (some x0)) rfl ?_
      obtain ⟨v10, ev10, hq⟩ := Option.bind_eq_some_iff.mp hq
      refine jw_getR (o := (some x0)) dX1_tell_145 ev10 fl_X1_19 rfl ?_
      refine jw_aload_n dX1_tell_148 (o := (some x0)) rfl ?_
      obtain ⟨v11, ev11, hq⟩ := Option.bind_eq_some_iff.mp hq
      refine jw_getR (o := (some x0)) dX1_tell_149 ev11 fl_X1_45 rfl ?_
      refine jw_iconst dX1_tell_152 (v := (1 : Int32)) (by decide) ?_
      refine jw_iconst dX1_tell_153 (v := (1 : Int32)) (by decide) ?_
      obtain ⟨a12, ea12, hq⟩ := Option.bind_eq_some_iff.mp hq
      obtain ⟨eoa12, eta12⟩ := jw_rc_spec ea12
      obtain ⟨w14, h13, ew14, hq⟩ := jw_b2_spec hq
      refine jw_callV (As := [va_rf v11, .int (1 : Int32), .int (1 : Int32)]) (S := [.ref x0]) (a := a12) (v := some (.int w14)) dX1_tell_154 mt_X8_holdMore in_X8_holdMore se_X8_holdMore lk_X1_313 (c_X8_holdMore ew14) eta12 (by decide) rfl rfl (by decide) (Nat.le_of_ble_eq_true rfl) (by cases eoa12; rfl) ?_
      obtain ⟨h15, eh15, hq⟩ := Option.bind_eq_some_iff.mp hq
      refine jw_putI (o := (some x0)) dX1_tell_157 eh15 fl_X1_65 rfl rfl ?_
      refine jw_goto (tgt := 196) dX1_tell_160 (by decide) ?_
      cases hq
      exact jw_vret dX1_tell_196 rfl
    · rcases jw_if hq with ⟨c16, hq⟩ | ⟨c16, hq⟩
      · refine jw_lookup (off := 123) (tgt := 127) dX1_tell_4 (by decide) (jw_lks (l := [(61, 105), (72, 139), (104, 123), (107, 159), (110, 81), (112, 60)]) (by rw [lv_osw (a := 61) c2 rfl]; rw [lv_osw (a := 72) c9 rfl]; rw [c16]; rfl)) (by decide) ?_
        refine jw_aload_n dX1_tell_127 (o := (some x0)) rfl ?_
        obtain ⟨v17, ev17, hq⟩ := Option.bind_eq_some_iff.mp hq
        refine jw_getR (o := (some x0)) dX1_tell_128 ev17 fl_X1_19 rfl ?_
        refine jw_aload_n dX1_tell_131 (o := (some x0)) rfl ?_
        obtain ⟨v18, ev18, hq⟩ := Option.bind_eq_some_iff.mp hq
        refine jw_getR (o := (some x0)) dX1_tell_132 ev18 fl_X1_45 rfl ?_
        refine jw_iconst dX1_tell_135 (v := (1 : Int32)) (by decide) ?_
        refine jw_iconst dX1_tell_136 (v := (1 : Int32)) (by decide) ?_
        obtain ⟨a19, ea19, hq⟩ := Option.bind_eq_some_iff.mp hq
        obtain ⟨eoa19, eta19⟩ := jw_rc_spec ea19
        obtain ⟨w21, h20, ew21, hq⟩ := jw_b2_spec hq
        refine jw_callV (As := [va_rf v18, .int (1 : Int32), .int (1 : Int32)]) (S := []) (a := a19) (v := none) dX1_tell_137 mt_X8_hold in_X8_hold se_X8_hold lk_X1_309 (c_X8_hold ew21) eta19 (by decide) rfl rfl (by decide) (Nat.le_of_ble_eq_true rfl) (by cases eoa19; rfl) ?_
        refine jw_goto (tgt := 196) dX1_tell_140 (by decide) ?_
        cases hq
        exact jw_vret dX1_tell_196 rfl
      · rcases jw_if hq with ⟨c22, hq⟩ | ⟨c22, hq⟩
        · refine jw_lookup (off := 159) (tgt := 163) dX1_tell_4 (by decide) (jw_lks (l := [(61, 105), (72, 139), (104, 123), (107, 159), (110, 81), (112, 60)]) (by rw [lv_osw (a := 61) c2 rfl]; rw [lv_osw (a := 72) c9 rfl]; rw [lv_osw (a := 104) c16 rfl]; rw [c22]; rfl)) (by decide) ?_
          refine jw_aload_n dX1_tell_163 (o := (some x0)) rfl ?_
          obtain ⟨v23, ev23, hq⟩ := Option.bind_eq_some_iff.mp hq
          refine jw_getR (o := (some x0)) dX1_tell_164 ev23 fl_X1_37 rfl ?_
          refine jw_aload_n dX1_tell_167 (o := x1) rfl ?_
          obtain ⟨v24, ev24, hq⟩ := Option.bind_eq_some_iff.mp hq
          refine jw_getI (o := x1) dX1_tell_168 ev24 fl_X1_130 rfl ?_
          refine jw_aload_n dX1_tell_171 (o := (some x0)) rfl ?_
          obtain ⟨v25, ev25, hq⟩ := Option.bind_eq_some_iff.mp hq
          refine jw_getI (o := (some x0)) dX1_tell_172 ev25 fl_X1_141 rfl ?_
          obtain ⟨a26, ea26, hq⟩ := Option.bind_eq_some_iff.mp hq
          obtain ⟨eoa26, eta26⟩ := jw_rc_spec ea26
          obtain ⟨w28, h27, ew28, hq⟩ := jw_b2_spec hq
          refine jw_callV (As := [.int v24, .int v25]) (S := []) (a := a26) (v := none) dX1_tell_175 mt_X9_setMark in_X9_setMark se_X9_setMark lk_X1_317 (c_X9_setMark ew28) eta26 (by decide) rfl rfl (by decide) (Nat.le_of_ble_eq_true rfl) (by cases eoa26; rfl) ?_
          refine jw_goto (tgt := 196) dX1_tell_178 (by decide) ?_
          cases hq
          exact jw_vret dX1_tell_196 rfl
        · rcases jw_if hq with ⟨c29, hq⟩ | ⟨c29, hq⟩
          · refine jw_lookup (off := 81) (tgt := 85) dX1_tell_4 (by decide) (jw_lks (l := [(61, 105), (72, 139), (104, 123), (107, 159), (110, 81), (112, 60)]) (by rw [lv_osw (a := 61) c2 rfl]; rw [lv_osw (a := 72) c9 rfl]; rw [lv_osw (a := 104) c16 rfl]; rw [lv_osw (a := 107) c22 rfl]; rw [c29]; rfl)) (by decide) ?_
            refine jw_aload_n dX1_tell_85 (o := (some x0)) rfl ?_
            refine jw_aload_n dX1_tell_86 (o := (some x0)) rfl ?_
            obtain ⟨v30, ev30, hq⟩ := Option.bind_eq_some_iff.mp hq
            refine jw_getR (o := (some x0)) dX1_tell_87 ev30 fl_X1_19 rfl ?_
            refine jw_aload_n dX1_tell_90 (o := (some x0)) rfl ?_
            obtain ⟨v31, ev31, hq⟩ := Option.bind_eq_some_iff.mp hq
            refine jw_getR (o := (some x0)) dX1_tell_91 ev31 fl_X1_45 rfl ?_
            refine jw_iconst dX1_tell_94 (v := (1 : Int32)) (by decide) ?_
            refine jw_iconst dX1_tell_95 (v := (1 : Int32)) (by decide) ?_
            refine jw_aload_n dX1_tell_96 (o := (some x0)) rfl ?_
            obtain ⟨v32, ev32, hq⟩ := Option.bind_eq_some_iff.mp hq
            refine jw_getI (o := (some x0)) dX1_tell_97 ev32 fl_X1_137 rfl ?_
            obtain ⟨a33, ea33, hq⟩ := Option.bind_eq_some_iff.mp hq
            obtain ⟨eoa33, eta33⟩ := jw_rc_spec ea33
            obtain ⟨w35, h34, ew35, hq⟩ := jw_b2_spec hq
            refine jw_callV (As := [va_rf v31, .int (1 : Int32), .int (1 : Int32), .int v32]) (S := [.ref x0]) (a := a33) (v := some (.int w35)) dX1_tell_100 mt_X8_print in_X8_print se_X8_print lk_X1_302 (c_X8_print ew35) eta33 (by decide) rfl rfl (by decide) (Nat.le_of_ble_eq_true rfl) (by cases eoa33; rfl) ?_
            obtain ⟨h36, eh36, hq⟩ := Option.bind_eq_some_iff.mp hq
            refine jw_putI (o := (some x0)) dX1_tell_103 eh36 fl_X1_65 rfl rfl ?_
            refine jw_goto (tgt := 196) dX1_tell_106 (by decide) ?_
            cases hq
            exact jw_vret dX1_tell_196 rfl
          · rcases jw_if hq with ⟨c37, hq⟩ | ⟨c37, hq⟩
            · refine jw_lookup (off := 60) (tgt := 64) dX1_tell_4 (by decide) (jw_lks (l := [(61, 105), (72, 139), (104, 123), (107, 159), (110, 81), (112, 60)]) (by rw [lv_osw (a := 61) c2 rfl]; rw [lv_osw (a := 72) c9 rfl]; rw [lv_osw (a := 104) c16 rfl]; rw [lv_osw (a := 107) c22 rfl]; rw [lv_osw (a := 110) c29 rfl]; rw [c37]; rfl)) (by decide) ?_
              refine jw_aload_n dX1_tell_64 (o := (some x0)) rfl ?_
              refine jw_aload_n dX1_tell_65 (o := (some x0)) rfl ?_
              obtain ⟨v38, ev38, hq⟩ := Option.bind_eq_some_iff.mp hq
              refine jw_getR (o := (some x0)) dX1_tell_66 ev38 fl_X1_19 rfl ?_
              refine jw_aload_n dX1_tell_69 (o := (some x0)) rfl ?_
              obtain ⟨v39, ev39, hq⟩ := Option.bind_eq_some_iff.mp hq
              refine jw_getR (o := (some x0)) dX1_tell_70 ev39 fl_X1_45 rfl ?_
              refine jw_iconst dX1_tell_73 (v := (1 : Int32)) (by decide) ?_
              refine jw_iconst dX1_tell_74 (v := (1 : Int32)) (by decide) ?_
              refine jw_iconst dX1_tell_75 (v := (-1 : Int32)) (by decide) ?_
              obtain ⟨a40, ea40, hq⟩ := Option.bind_eq_some_iff.mp hq
              obtain ⟨eoa40, eta40⟩ := jw_rc_spec ea40
              obtain ⟨w42, h41, ew42, hq⟩ := jw_b2_spec hq
              refine jw_callV (As := [va_rf v39, .int (1 : Int32), .int (1 : Int32), .int (-1 : Int32)]) (S := [.ref x0]) (a := a40) (v := some (.int w42)) dX1_tell_76 mt_X8_print in_X8_print se_X8_print lk_X1_302 (c_X8_print ew42) eta40 (by decide) rfl rfl (by decide) (Nat.le_of_ble_eq_true rfl) (by cases eoa40; rfl) ?_
              obtain ⟨h43, eh43, hq⟩ := Option.bind_eq_some_iff.mp hq
              refine jw_putI (o := (some x0)) dX1_tell_79 eh43 fl_X1_65 rfl rfl ?_
              refine jw_goto (tgt := 196) dX1_tell_82 (by decide) ?_
              cases hq
              exact jw_vret dX1_tell_196 rfl
            · refine jw_lookup (off := 177) (tgt := 181) dX1_tell_4 (by decide) (jw_lks (l := [(61, 105), (72, 139), (104, 123), (107, 159), (110, 81), (112, 60)]) (by rw [lv_osw (a := 61) c2 rfl]; rw [lv_osw (a := 72) c9 rfl]; rw [lv_osw (a := 104) c16 rfl]; rw [lv_osw (a := 107) c22 rfl]; rw [lv_osw (a := 110) c29 rfl]; rw [lv_osw (a := 112) c37 rfl]; rfl)) (by decide) ?_
              refine jw_aload_n dX1_tell_181 (o := (some x0)) rfl ?_
              refine jw_aload_n dX1_tell_182 (o := (some x0)) rfl ?_
              obtain ⟨v44, ev44, hq⟩ := Option.bind_eq_some_iff.mp hq
              refine jw_getR (o := (some x0)) dX1_tell_183 ev44 fl_X1_19 rfl ?_
              refine jw_aload_n dX1_tell_186 (o := x1) rfl ?_
              obtain ⟨v45, ev45, hq⟩ := Option.bind_eq_some_iff.mp hq
              refine jw_getI (o := x1) dX1_tell_187 ev45 fl_X1_130 rfl ?_
              obtain ⟨a46, ea46, hq⟩ := Option.bind_eq_some_iff.mp hq
              obtain ⟨eoa46, eta46⟩ := jw_rc_spec ea46
              obtain ⟨w48, h47, ew48, hq⟩ := jw_b2_spec hq
              refine jw_callV (As := [.int v45]) (S := [.ref x0]) (a := a46) (v := some (va_rf w48)) dX1_tell_190 mt_X8_file in_X8_file se_X8_file lk_X1_133 (c_X8_file ew48) eta46 (by decide) rfl rfl (by decide) (Nat.le_of_ble_eq_true rfl) (by cases eoa46; rfl) ?_
              obtain ⟨a49, ea49, hq⟩ := Option.bind_eq_some_iff.mp hq
              obtain ⟨eoa49, eta49⟩ := jw_rc_spec ea49
              obtain ⟨w51, h50, ew51, hq⟩ := jw_b2_spec hq
              refine jw_callV (As := [va_rf w48]) (S := []) (a := a49) (v := none) dX1_tell_193 mt_X1_writeFile in_X1_writeFile se_X1_writeFile lk_X1_320 (c_X1_writeFile ew51) eta49 (by decide) rfl rfl (by decide) (Nat.le_of_ble_eq_true rfl) (by cases eoa49; rfl) ?_
              cases hq
              exact jw_vret dX1_tell_196 rfl

theorem c_X1_tell {h : jw_H} {x0 : Nat} {x1 : Option Nat} {r : Unit} {h' : jw_H} (hq : f_X1_tell h x0 x1 = some (r, h')) : jw_Con (Cond.code yX1_tell cX1_tell 2 none) yX1_tell 4 [.ref x0, va_rf x1] h (.inl none) h' :=
  jw_con false (plainFor_of_name (by decide +kernel)) (fun z => nomatch z) (by simp [jw_ent, jw_sl0_nil, jw_sl0_int, jw_sl0_long, jw_sl0_ref, jw_sl0_rf, jw_sl0_scr, List.replicate]) (by simp [jw_sl0_nil, jw_sl0_int, jw_sl0_long, jw_sl0_ref, jw_sl0_rf, jw_sl0_scr]) (l_X1_tell hq)


/-! X1_doOne -/
noncomputable def g_X1_doOne_b120 (h : jw_H) (x0 : Nat) (x1 : Option Nat) : Option (Unit × jw_H) :=
 (jw_gR h 1 (some x0) 5).bind fun v1 =>
 (jw_gR h 1 (some x0) 7).bind fun v2 =>
 (jw_rc h 2 v1).bind fun a3 =>
 jw_b2 (f_X2_change h a3 x1 v2 (1 : Int32) (1 : Int32)) fun w5 h4 =>
 (jw_pI h4 1 (some x0) 15 w5).bind fun h6 =>
 some ((), h6)

noncomputable def g_X1_doOne_b218 (h : jw_H) (x0 : Nat) : Option (Unit × jw_H) :=
 (jw_gR h 1 (some x0) 9).bind fun v1 =>
 (jw_rc h 1 (some x0)).bind fun a2 =>
 jw_b2 (f_X1_putNew h a2 v1) fun w4 h3 =>
 some ((), h3)

noncomputable def g_X1_doOne_b273 (h : jw_H) (x0 : Nat) (t0 : Nat) (t1 : Int32) : Option (Unit × jw_H) :=
 (jw_pI h 1 (some t0) 15 t1).bind fun h1 =>
 (jw_gR h1 1 (some x0) 2).bind fun v2 =>
 (jw_gR h1 8 v2 0).bind fun v3 =>
 (jw_rc h1 1 (some x0)).bind fun a4 =>
 jw_b2 (f_X1_putDue h1 a4 v3) fun w6 h5 =>
 some ((), h5)

noncomputable def f_X1_doOne (h : jw_H) (x0 : Nat) (x1 : Option Nat) : Option (Unit × jw_H) :=
 (jw_gI h 5 x1 3).bind fun v1 =>
 if v1 = (60 : Int32) then (g_X1_doOne_b120  h x0 x1)
 else (if v1 = (62 : Int32) then (g_X1_doOne_b120  h x0 x1)
 else (if v1 = (97 : Int32) then ((jw_gR h 1 (some x0) 0).bind fun v5 =>
 (jw_gR h 1 (some x0) 9).bind fun v6 =>
 (jw_rc h 6 v5).bind fun a7 =>
 jw_b2 (f_X6_rowsOf h a7 x1 v6) fun w9 h8 =>
 (jw_gR h8 1 (some x0) 9).bind fun v10 =>
 (jw_rc h8 1 (some x0)).bind fun a11 =>
 jw_b2 (f_X1_putDue h8 a11 v10) fun w13 h12 =>
 some ((), h12))
 else (if v1 = (99 : Int32) then ((jw_rc h 1 (some x0)).bind fun a15 =>
 jw_b2 (f_X1_goAway h a15) fun w17 h16 =>
 (jw_gR h16 1 (some x0) 0).bind fun v18 =>
 (jw_gR h16 1 (some x0) 9).bind fun v19 =>
 (jw_rc h16 6 v18).bind fun a20 =>
 jw_b2 (f_X6_rowsOf h16 a20 x1 v19) fun w22 h21 =>
 (jw_gI h21 5 x1 4).bind fun v23 =>
 if v23 = (3 : Int32) then ((jw_gI h21 5 x1 12).bind fun v25 =>
 if v25 = 0 then (some ((), h21))
 else (g_X1_doOne_b218  h21 x0))
 else (g_X1_doOne_b218  h21 x0))
 else (if v1 = (100 : Int32) then ((jw_rc h 1 (some x0)).bind fun a28 =>
 jw_b2 (f_X1_goAway h a28) fun w30 h29 =>
 some ((), h29))
 else (if v1 = (101 : Int32) then ((jw_rc h 1 (some x0)).bind fun a32 =>
 jw_b2 (f_X1_exchange h a32) fun w34 h33 =>
 some ((), h33))
 else (if v1 = (105 : Int32) then ((jw_gR h 1 (some x0) 0).bind fun v36 =>
 (jw_gR h 1 (some x0) 9).bind fun v37 =>
 (jw_rc h 6 v36).bind fun a38 =>
 jw_b2 (f_X6_rowsOf h a38 x1 v37) fun w40 h39 =>
 (jw_gR h39 1 (some x0) 9).bind fun v41 =>
 (jw_rc h39 1 (some x0)).bind fun a42 =>
 jw_b2 (f_X1_putNew h39 a42 v41) fun w44 h43 =>
 some ((), h43))
 else (if v1 = (106 : Int32) then ((jw_rc h 1 (some x0)).bind fun a46 =>
 jw_b2 (f_X1_join h a46) fun w48 h47 =>
 some ((), h47))
 else (if v1 = (114 : Int32) then ((jw_gR h 1 (some x0) 2).bind fun v50 =>
 (jw_gI h 5 x1 5).bind fun v51 =>
 (jw_rc h 8 v50).bind fun a52 =>
 jw_b2 (f_X8_file h a52 v51) fun w54 h53 =>
 (jw_rc h53 1 (some x0)).bind fun a55 =>
 jw_b2 (f_X1_putDue h53 a55 w54) fun w57 h56 =>
 some ((), h56))
 else (if v1 = (115 : Int32) then (g_X1_doOne_b120  h x0 x1)
 else (if v1 = (117 : Int32) then ((jw_gR h 1 (some x0) 2).bind fun v60 =>
 (jw_gR h 8 v60 0).bind fun v61 =>
 (jw_gI h 7 v61 2).bind fun v62 =>
 if v62 = 0 then (g_X1_doOne_b273  h x0 x0 (5 : Int32))
 else (g_X1_doOne_b273  h x0 x0 (0 : Int32)))
 else (if v1 = (118 : Int32) then ((jw_gI h 5 x1 5).bind fun v65 =>
 (jw_rc h 1 (some x0)).bind fun a66 =>
 jw_b2 (f_X1_part h a66 v65) fun w68 h67 =>
 some ((), h67))
 else (if v1 = (122 : Int32) then (g_X1_doOne_b120  h x0 x1)
 else ((jw_rc h 1 (some x0)).bind fun a70 =>
 jw_b2 (f_X1_tell h a70 x1) fun w72 h71 =>
 some ((), h71))))))))))))))

set_option maxRecDepth 100000 in
set_option maxHeartbeats 4000000 in
theorem l_X1_doOne_b120 {hi : jw_H} {h : jw_H} {x0 : Nat} {x1 : Option Nat} {r : Unit} {h' : jw_H} (hq : g_X1_doOne_b120  h x0 x1 = some (r, h')) : jw_E 10 uX1_doOne hi 120 [some (.ref x0), some (va_rf x1)] [] h (.inl none) h' := by
  unfold g_X1_doOne_b120 at hq
  refine jw_aload_n dX1_doOne_120 (o := (some x0)) rfl ?_
  refine jw_aload_n dX1_doOne_121 (o := (some x0)) rfl ?_
  obtain ⟨v1, ev1, hq⟩ := Option.bind_eq_some_iff.mp hq
  refine jw_getR (o := (some x0)) dX1_doOne_122 ev1 fl_X1_30 rfl ?_
  refine jw_aload_n dX1_doOne_125 (o := x1) rfl ?_
  refine jw_aload_n dX1_doOne_126 (o := (some x0)) rfl ?_
  obtain ⟨v2, ev2, hq⟩ := Option.bind_eq_some_iff.mp hq
  refine jw_getR (o := (some x0)) dX1_doOne_127 ev2 fl_X1_45 rfl ?_
  refine jw_iconst dX1_doOne_130 (v := (1 : Int32)) (by decide) ?_
  refine jw_iconst dX1_doOne_131 (v := (1 : Int32)) (by decide) ?_
  obtain ⟨a3, ea3, hq⟩ := Option.bind_eq_some_iff.mp hq
  obtain ⟨eoa3, eta3⟩ := jw_rc_spec ea3
  obtain ⟨w5, h4, ew5, hq⟩ := jw_b2_spec hq
  refine jw_callV (As := [va_rf x1, va_rf v2, .int (1 : Int32), .int (1 : Int32)]) (S := [.ref x0]) (a := a3) (v := some (.int w5)) dX1_doOne_132 mt_X2_change in_X2_change se_X2_change lk_X1_246 (c_X2_change ew5) eta3 (by decide) rfl rfl (by decide) (Nat.le_of_ble_eq_true rfl) (by cases eoa3; rfl) ?_
  obtain ⟨h6, eh6, hq⟩ := Option.bind_eq_some_iff.mp hq
  refine jw_putI (o := (some x0)) dX1_doOne_135 eh6 fl_X1_65 rfl rfl ?_
  refine jw_goto (tgt := 320) dX1_doOne_138 (by decide) ?_
  cases hq
  exact jw_vret dX1_doOne_320 rfl

set_option maxRecDepth 100000 in
set_option maxHeartbeats 4000000 in
theorem l_X1_doOne_b218 {hi : jw_H} {h : jw_H} {x0 : Nat} {r : Unit} {h' : jw_H} (hq : g_X1_doOne_b218  h x0 = some (r, h')) : jw_E 10 uX1_doOne hi 218 [some (.ref x0), none] [] h (.inl none) h' := by
  unfold g_X1_doOne_b218 at hq
  refine jw_aload_n dX1_doOne_218 (o := (some x0)) rfl ?_
  refine jw_aload_n dX1_doOne_219 (o := (some x0)) rfl ?_
  obtain ⟨v1, ev1, hq⟩ := Option.bind_eq_some_iff.mp hq
  refine jw_getR (o := (some x0)) dX1_doOne_220 ev1 fl_X1_52 rfl ?_
  obtain ⟨a2, ea2, hq⟩ := Option.bind_eq_some_iff.mp hq
  obtain ⟨eoa2, eta2⟩ := jw_rc_spec ea2
  obtain ⟨w4, h3, ew4, hq⟩ := jw_b2_spec hq
  refine jw_callV (As := [va_rf v1]) (S := []) (a := a2) (v := none) dX1_doOne_223 mt_X1_putNew in_X1_putNew se_X1_putNew lk_X1_160 (c_X1_putNew ew4) eta2 (by decide) rfl rfl (by decide) (Nat.le_of_ble_eq_true rfl) (by cases eoa2; rfl) ?_
  refine jw_goto (tgt := 320) dX1_doOne_226 (by decide) ?_
  cases hq
  exact jw_vret dX1_doOne_320 rfl

set_option maxRecDepth 100000 in
set_option maxHeartbeats 4000000 in
theorem l_X1_doOne_b273 {hi : jw_H} {h : jw_H} {x0 : Nat} {t0 : Nat} {t1 : Int32} {r : Unit} {h' : jw_H} (hq : g_X1_doOne_b273  h x0 t0 t1 = some (r, h')) : jw_E 10 uX1_doOne hi 273 [some (.ref x0), none] [.int t1, .ref t0] h (.inl none) h' := by
  unfold g_X1_doOne_b273 at hq
  obtain ⟨h1, eh1, hq⟩ := Option.bind_eq_some_iff.mp hq
  refine jw_putI (o := (some t0)) dX1_doOne_273 eh1 fl_X1_65 rfl rfl ?_
  refine jw_aload_n dX1_doOne_276 (o := (some x0)) rfl ?_
  refine jw_aload_n dX1_doOne_277 (o := (some x0)) rfl ?_
  obtain ⟨v2, ev2, hq⟩ := Option.bind_eq_some_iff.mp hq
  refine jw_getR (o := (some x0)) dX1_doOne_278 ev2 fl_X1_19 rfl ?_
  obtain ⟨v3, ev3, hq⟩ := Option.bind_eq_some_iff.mp hq
  refine jw_getR (o := v2) dX1_doOne_281 ev3 fl_X1_266 rfl ?_
  obtain ⟨a4, ea4, hq⟩ := Option.bind_eq_some_iff.mp hq
  obtain ⟨eoa4, eta4⟩ := jw_rc_spec ea4
  obtain ⟨w6, h5, ew6, hq⟩ := jw_b2_spec hq
  refine jw_callV (As := [va_rf v3]) (S := []) (a := a4) (v := none) dX1_doOne_284 mt_X1_putDue in_X1_putDue se_X1_putDue lk_X1_254 (c_X1_putDue ew6) eta4 (by decide) rfl rfl (by decide) (Nat.le_of_ble_eq_true rfl) (by cases eoa4; rfl) ?_
  refine jw_goto (tgt := 320) dX1_doOne_287 (by decide) ?_
  cases hq
  exact jw_vret dX1_doOne_320 rfl

set_option maxRecDepth 100000 in
set_option maxHeartbeats 4000000 in
theorem l_X1_doOne {hi : jw_H} {h : jw_H} {x0 : Nat} {x1 : Option Nat} {r : Unit} {h' : jw_H} (hq : f_X1_doOne  h x0 x1 = some (r, h')) : jw_E 10 uX1_doOne hi 0 [some (.ref x0), some (va_rf x1)] [] h (.inl none) h' := by
  unfold f_X1_doOne at hq
  refine jw_aload_n dX1_doOne_0 (o := x1) rfl ?_
  obtain ⟨v1, ev1, hq⟩ := Option.bind_eq_some_iff.mp hq
  refine jw_getI (o := x1) dX1_doOne_1 ev1 fl_X1_125 rfl ?_
  rcases jw_if hq with ⟨c2, hq⟩ | ⟨c2, hq⟩
  · refine jw_lookup (off := 116) (tgt := 120) dX1_doOne_4 (by decide) (jw_lks (l := [(60, 116), (62, 116), (97, 137), (99, 183), (100, 225), (101, 304), (105, 160), (106, 243), (114, 286), (115, 116), (117, 250), (118, 232), (122, 116)]) (by rw [c2]; rfl)) (by decide) ?_
    exact l_X1_doOne_b120  hq
  · rcases jw_if hq with ⟨c3, hq⟩ | ⟨c3, hq⟩
    · refine jw_lookup (off := 116) (tgt := 120) dX1_doOne_4 (by decide) (jw_lks (l := [(60, 116), (62, 116), (97, 137), (99, 183), (100, 225), (101, 304), (105, 160), (106, 243), (114, 286), (115, 116), (117, 250), (118, 232), (122, 116)]) (by rw [lv_osw (a := 60) c2 rfl]; rw [c3]; rfl)) (by decide) ?_
      exact l_X1_doOne_b120  hq
    · rcases jw_if hq with ⟨c4, hq⟩ | ⟨c4, hq⟩
      · refine jw_lookup (off := 137) (tgt := 141) dX1_doOne_4 (by decide) (jw_lks (l := [(60, 116), (62, 116), (97, 137), (99, 183), (100, 225), (101, 304), (105, 160), (106, 243), (114, 286), (115, 116), (117, 250), (118, 232), (122, 116)]) (by rw [lv_osw (a := 60) c2 rfl]; rw [lv_osw (a := 62) c3 rfl]; rw [c4]; rfl)) (by decide) ?_
        refine jw_aload_n dX1_doOne_141 (o := (some x0)) rfl ?_
        obtain ⟨v5, ev5, hq⟩ := Option.bind_eq_some_iff.mp hq
        refine jw_getR (o := (some x0)) dX1_doOne_142 ev5 fl_X1_9 rfl ?_
        refine jw_aload_n dX1_doOne_145 (o := x1) rfl ?_
        refine jw_aload_n dX1_doOne_146 (o := (some x0)) rfl ?_
        obtain ⟨v6, ev6, hq⟩ := Option.bind_eq_some_iff.mp hq
        refine jw_getR (o := (some x0)) dX1_doOne_147 ev6 fl_X1_52 rfl ?_
        obtain ⟨a7, ea7, hq⟩ := Option.bind_eq_some_iff.mp hq
        obtain ⟨eoa7, eta7⟩ := jw_rc_spec ea7
        obtain ⟨w9, h8, ew9, hq⟩ := jw_b2_spec hq
        refine jw_callV (As := [va_rf x1, va_rf v6]) (S := []) (a := a7) (v := none) dX1_doOne_150 mt_X6_rowsOf in_X6_rowsOf se_X6_rowsOf lk_X1_250 (c_X6_rowsOf ew9) eta7 (by decide) rfl rfl (by decide) (Nat.le_of_ble_eq_true rfl) (by cases eoa7; rfl) ?_
        refine jw_aload_n dX1_doOne_153 (o := (some x0)) rfl ?_
        refine jw_aload_n dX1_doOne_154 (o := (some x0)) rfl ?_
        obtain ⟨v10, ev10, hq⟩ := Option.bind_eq_some_iff.mp hq
        refine jw_getR (o := (some x0)) dX1_doOne_155 ev10 fl_X1_52 rfl ?_
        obtain ⟨a11, ea11, hq⟩ := Option.bind_eq_some_iff.mp hq
        obtain ⟨eoa11, eta11⟩ := jw_rc_spec ea11
        obtain ⟨w13, h12, ew13, hq⟩ := jw_b2_spec hq
        refine jw_callV (As := [va_rf v10]) (S := []) (a := a11) (v := none) dX1_doOne_158 mt_X1_putDue in_X1_putDue se_X1_putDue lk_X1_254 (c_X1_putDue ew13) eta11 (by decide) rfl rfl (by decide) (Nat.le_of_ble_eq_true rfl) (by cases eoa11; rfl) ?_
        refine jw_goto (tgt := 320) dX1_doOne_161 (by decide) ?_
        cases hq
        exact jw_vret dX1_doOne_320 rfl
      · rcases jw_if hq with ⟨c14, hq⟩ | ⟨c14, hq⟩
        · refine jw_lookup (off := 183) (tgt := 187) dX1_doOne_4 (by decide) (jw_lks (l := [(60, 116), (62, 116), (97, 137), (99, 183), (100, 225), (101, 304), (105, 160), (106, 243), (114, 286), (115, 116), (117, 250), (118, 232), (122, 116)]) (by rw [lv_osw (a := 60) c2 rfl]; rw [lv_osw (a := 62) c3 rfl]; rw [lv_osw (a := 97) c4 rfl]; rw [c14]; rfl)) (by decide) ?_
          refine jw_aload_n dX1_doOne_187 (o := (some x0)) rfl ?_
          obtain ⟨a15, ea15, hq⟩ := Option.bind_eq_some_iff.mp hq
          obtain ⟨eoa15, eta15⟩ := jw_rc_spec ea15
          obtain ⟨w17, h16, ew17, hq⟩ := jw_b2_spec hq
          refine jw_callV (As := []) (S := []) (a := a15) (v := none) dX1_doOne_188 mt_X1_goAway in_X1_goAway se_X1_goAway lk_X1_257 (c_X1_goAway ew17) eta15 (by decide) rfl rfl (by decide) (Nat.le_of_ble_eq_true rfl) (by cases eoa15; rfl) ?_
          refine jw_aload_n dX1_doOne_191 (o := (some x0)) rfl ?_
          obtain ⟨v18, ev18, hq⟩ := Option.bind_eq_some_iff.mp hq
          refine jw_getR (o := (some x0)) dX1_doOne_192 ev18 fl_X1_9 rfl ?_
          refine jw_aload_n dX1_doOne_195 (o := x1) rfl ?_
          refine jw_aload_n dX1_doOne_196 (o := (some x0)) rfl ?_
          obtain ⟨v19, ev19, hq⟩ := Option.bind_eq_some_iff.mp hq
          refine jw_getR (o := (some x0)) dX1_doOne_197 ev19 fl_X1_52 rfl ?_
          obtain ⟨a20, ea20, hq⟩ := Option.bind_eq_some_iff.mp hq
          obtain ⟨eoa20, eta20⟩ := jw_rc_spec ea20
          obtain ⟨w22, h21, ew22, hq⟩ := jw_b2_spec hq
          refine jw_callV (As := [va_rf x1, va_rf v19]) (S := []) (a := a20) (v := none) dX1_doOne_200 mt_X6_rowsOf in_X6_rowsOf se_X6_rowsOf lk_X1_250 (c_X6_rowsOf ew22) eta20 (by decide) rfl rfl (by decide) (Nat.le_of_ble_eq_true rfl) (by cases eoa20; rfl) ?_
          refine jw_aload_n dX1_doOne_203 (o := x1) rfl ?_
          obtain ⟨v23, ev23, hq⟩ := Option.bind_eq_some_iff.mp hq
          refine jw_getI (o := x1) dX1_doOne_204 ev23 fl_X1_196 rfl ?_
          refine jw_iconst dX1_doOne_207 (v := (3 : Int32)) (by decide) ?_
          rcases jw_if hq with ⟨c24, hq⟩ | ⟨c24, hq⟩
          · refine jw_icmp_ne_f (tgt := 218) dX1_doOne_208 (by decide) c24 ?_
            refine jw_aload_n dX1_doOne_211 (o := x1) rfl ?_
            obtain ⟨v25, ev25, hq⟩ := Option.bind_eq_some_iff.mp hq
            refine jw_getI (o := x1) dX1_doOne_212 ev25 fl_X1_228 rfl ?_
            rcases jw_if hq with ⟨c26, hq⟩ | ⟨c26, hq⟩
            · refine jw_if_eq_t (tgt := 320) dX1_doOne_215 (by decide) c26 ?_
              cases hq
              exact jw_vret dX1_doOne_320 rfl
            · refine jw_if_eq_f (tgt := 320) dX1_doOne_215 (by decide) c26 ?_
              refine jw_forget [true, false] (L' := [some (.ref x0), none]) rfl ?_
              exact l_X1_doOne_b218  hq
          · refine jw_icmp_ne_t (tgt := 218) dX1_doOne_208 (by decide) c24 ?_
            refine jw_forget [true, false] (L' := [some (.ref x0), none]) rfl ?_
            exact l_X1_doOne_b218  hq
        · rcases jw_if hq with ⟨c27, hq⟩ | ⟨c27, hq⟩
          · refine jw_lookup (off := 225) (tgt := 229) dX1_doOne_4 (by decide) (jw_lks (l := [(60, 116), (62, 116), (97, 137), (99, 183), (100, 225), (101, 304), (105, 160), (106, 243), (114, 286), (115, 116), (117, 250), (118, 232), (122, 116)]) (by rw [lv_osw (a := 60) c2 rfl]; rw [lv_osw (a := 62) c3 rfl]; rw [lv_osw (a := 97) c4 rfl]; rw [lv_osw (a := 99) c14 rfl]; rw [c27]; rfl)) (by decide) ?_
            refine jw_aload_n dX1_doOne_229 (o := (some x0)) rfl ?_
            obtain ⟨a28, ea28, hq⟩ := Option.bind_eq_some_iff.mp hq
            obtain ⟨eoa28, eta28⟩ := jw_rc_spec ea28
            obtain ⟨w30, h29, ew30, hq⟩ := jw_b2_spec hq
            refine jw_callV (As := []) (S := []) (a := a28) (v := none) dX1_doOne_230 mt_X1_goAway in_X1_goAway se_X1_goAway lk_X1_257 (c_X1_goAway ew30) eta28 (by decide) rfl rfl (by decide) (Nat.le_of_ble_eq_true rfl) (by cases eoa28; rfl) ?_
            refine jw_goto (tgt := 320) dX1_doOne_233 (by decide) ?_
            cases hq
            exact jw_vret dX1_doOne_320 rfl
          · rcases jw_if hq with ⟨c31, hq⟩ | ⟨c31, hq⟩
            · refine jw_lookup (off := 304) (tgt := 308) dX1_doOne_4 (by decide) (jw_lks (l := [(60, 116), (62, 116), (97, 137), (99, 183), (100, 225), (101, 304), (105, 160), (106, 243), (114, 286), (115, 116), (117, 250), (118, 232), (122, 116)]) (by rw [lv_osw (a := 60) c2 rfl]; rw [lv_osw (a := 62) c3 rfl]; rw [lv_osw (a := 97) c4 rfl]; rw [lv_osw (a := 99) c14 rfl]; rw [lv_osw (a := 100) c27 rfl]; rw [c31]; rfl)) (by decide) ?_
              refine jw_aload_n dX1_doOne_308 (o := (some x0)) rfl ?_
              obtain ⟨a32, ea32, hq⟩ := Option.bind_eq_some_iff.mp hq
              obtain ⟨eoa32, eta32⟩ := jw_rc_spec ea32
              obtain ⟨w34, h33, ew34, hq⟩ := jw_b2_spec hq
              refine jw_callV (As := []) (S := []) (a := a32) (v := none) dX1_doOne_309 mt_X1_exchange in_X1_exchange se_X1_exchange lk_X1_269 (c_X1_exchange ew34) eta32 (by decide) rfl rfl (by decide) (Nat.le_of_ble_eq_true rfl) (by cases eoa32; rfl) ?_
              refine jw_goto (tgt := 320) dX1_doOne_312 (by decide) ?_
              cases hq
              exact jw_vret dX1_doOne_320 rfl
            · rcases jw_if hq with ⟨c35, hq⟩ | ⟨c35, hq⟩
              · refine jw_lookup (off := 160) (tgt := 164) dX1_doOne_4 (by decide) (jw_lks (l := [(60, 116), (62, 116), (97, 137), (99, 183), (100, 225), (101, 304), (105, 160), (106, 243), (114, 286), (115, 116), (117, 250), (118, 232), (122, 116)]) (by rw [lv_osw (a := 60) c2 rfl]; rw [lv_osw (a := 62) c3 rfl]; rw [lv_osw (a := 97) c4 rfl]; rw [lv_osw (a := 99) c14 rfl]; rw [lv_osw (a := 100) c27 rfl]; rw [lv_osw (a := 101) c31 rfl]; rw [c35]; rfl)) (by decide) ?_
                refine jw_aload_n dX1_doOne_164 (o := (some x0)) rfl ?_
                obtain ⟨v36, ev36, hq⟩ := Option.bind_eq_some_iff.mp hq
                refine jw_getR (o := (some x0)) dX1_doOne_165 ev36 fl_X1_9 rfl ?_
                refine jw_aload_n dX1_doOne_168 (o := x1) rfl ?_
                refine jw_aload_n dX1_doOne_169 (o := (some x0)) rfl ?_
                obtain ⟨v37, ev37, hq⟩ := Option.bind_eq_some_iff.mp hq
                refine jw_getR (o := (some x0)) dX1_doOne_170 ev37 fl_X1_52 rfl ?_
                obtain ⟨a38, ea38, hq⟩ := Option.bind_eq_some_iff.mp hq
                obtain ⟨eoa38, eta38⟩ := jw_rc_spec ea38
                obtain ⟨w40, h39, ew40, hq⟩ := jw_b2_spec hq
                refine jw_callV (As := [va_rf x1, va_rf v37]) (S := []) (a := a38) (v := none) dX1_doOne_173 mt_X6_rowsOf in_X6_rowsOf se_X6_rowsOf lk_X1_250 (c_X6_rowsOf ew40) eta38 (by decide) rfl rfl (by decide) (Nat.le_of_ble_eq_true rfl) (by cases eoa38; rfl) ?_
                refine jw_aload_n dX1_doOne_176 (o := (some x0)) rfl ?_
                refine jw_aload_n dX1_doOne_177 (o := (some x0)) rfl ?_
                obtain ⟨v41, ev41, hq⟩ := Option.bind_eq_some_iff.mp hq
                refine jw_getR (o := (some x0)) dX1_doOne_178 ev41 fl_X1_52 rfl ?_
                obtain ⟨a42, ea42, hq⟩ := Option.bind_eq_some_iff.mp hq
                obtain ⟨eoa42, eta42⟩ := jw_rc_spec ea42
                obtain ⟨w44, h43, ew44, hq⟩ := jw_b2_spec hq
                refine jw_callV (As := [va_rf v41]) (S := []) (a := a42) (v := none) dX1_doOne_181 mt_X1_putNew in_X1_putNew se_X1_putNew lk_X1_160 (c_X1_putNew ew44) eta42 (by decide) rfl rfl (by decide) (Nat.le_of_ble_eq_true rfl) (by cases eoa42; rfl) ?_
                refine jw_goto (tgt := 320) dX1_doOne_184 (by decide) ?_
                cases hq
                exact jw_vret dX1_doOne_320 rfl
              · rcases jw_if hq with ⟨c45, hq⟩ | ⟨c45, hq⟩
                · refine jw_lookup (off := 243) (tgt := 247) dX1_doOne_4 (by decide) (jw_lks (l := [(60, 116), (62, 116), (97, 137), (99, 183), (100, 225), (101, 304), (105, 160), (106, 243), (114, 286), (115, 116), (117, 250), (118, 232), (122, 116)]) (by rw [lv_osw (a := 60) c2 rfl]; rw [lv_osw (a := 62) c3 rfl]; rw [lv_osw (a := 97) c4 rfl]; rw [lv_osw (a := 99) c14 rfl]; rw [lv_osw (a := 100) c27 rfl]; rw [lv_osw (a := 101) c31 rfl]; rw [lv_osw (a := 105) c35 rfl]; rw [c45]; rfl)) (by decide) ?_
                  refine jw_aload_n dX1_doOne_247 (o := (some x0)) rfl ?_
                  obtain ⟨a46, ea46, hq⟩ := Option.bind_eq_some_iff.mp hq
                  obtain ⟨eoa46, eta46⟩ := jw_rc_spec ea46
                  obtain ⟨w48, h47, ew48, hq⟩ := jw_b2_spec hq
                  refine jw_callV (As := []) (S := []) (a := a46) (v := none) dX1_doOne_248 mt_X1_join in_X1_join se_X1_join lk_X1_263 (c_X1_join ew48) eta46 (by decide) rfl rfl (by decide) (Nat.le_of_ble_eq_true rfl) (by cases eoa46; rfl) ?_
                  refine jw_goto (tgt := 320) dX1_doOne_251 (by decide) ?_
                  cases hq
                  exact jw_vret dX1_doOne_320 rfl
                · rcases jw_if hq with ⟨c49, hq⟩ | ⟨c49, hq⟩
                  · refine jw_lookup (off := 286) (tgt := 290) dX1_doOne_4 (by decide) (jw_lks (l := [(60, 116), (62, 116), (97, 137), (99, 183), (100, 225), (101, 304), (105, 160), (106, 243), (114, 286), (115, 116), (117, 250), (118, 232), (122, 116)]) (by rw [lv_osw (a := 60) c2 rfl]; rw [lv_osw (a := 62) c3 rfl]; rw [lv_osw (a := 97) c4 rfl]; rw [lv_osw (a := 99) c14 rfl]; rw [lv_osw (a := 100) c27 rfl]; rw [lv_osw (a := 101) c31 rfl]; rw [lv_osw (a := 105) c35 rfl]; rw [lv_osw (a := 106) c45 rfl]; rw [c49]; rfl)) (by decide) ?_
                    refine jw_aload_n dX1_doOne_290 (o := (some x0)) rfl ?_
                    refine jw_aload_n dX1_doOne_291 (o := (some x0)) rfl ?_
                    obtain ⟨v50, ev50, hq⟩ := Option.bind_eq_some_iff.mp hq
                    refine jw_getR (o := (some x0)) dX1_doOne_292 ev50 fl_X1_19 rfl ?_
                    refine jw_aload_n dX1_doOne_295 (o := x1) rfl ?_
                    obtain ⟨v51, ev51, hq⟩ := Option.bind_eq_some_iff.mp hq
                    refine jw_getI (o := x1) dX1_doOne_296 ev51 fl_X1_130 rfl ?_
                    obtain ⟨a52, ea52, hq⟩ := Option.bind_eq_some_iff.mp hq
                    obtain ⟨eoa52, eta52⟩ := jw_rc_spec ea52
                    obtain ⟨w54, h53, ew54, hq⟩ := jw_b2_spec hq
                    refine jw_callV (As := [.int v51]) (S := [.ref x0]) (a := a52) (v := some (va_rf w54)) dX1_doOne_299 mt_X8_file in_X8_file se_X8_file lk_X1_133 (c_X8_file ew54) eta52 (by decide) rfl rfl (by decide) (Nat.le_of_ble_eq_true rfl) (by cases eoa52; rfl) ?_
                    obtain ⟨a55, ea55, hq⟩ := Option.bind_eq_some_iff.mp hq
                    obtain ⟨eoa55, eta55⟩ := jw_rc_spec ea55
                    obtain ⟨w57, h56, ew57, hq⟩ := jw_b2_spec hq
                    refine jw_callV (As := [va_rf w54]) (S := []) (a := a55) (v := none) dX1_doOne_302 mt_X1_putDue in_X1_putDue se_X1_putDue lk_X1_254 (c_X1_putDue ew57) eta55 (by decide) rfl rfl (by decide) (Nat.le_of_ble_eq_true rfl) (by cases eoa55; rfl) ?_
                    refine jw_goto (tgt := 320) dX1_doOne_305 (by decide) ?_
                    cases hq
                    exact jw_vret dX1_doOne_320 rfl
                  · rcases jw_if hq with ⟨c58, hq⟩ | ⟨c58, hq⟩
                    · refine jw_lookup (off := 116) (tgt := 120) dX1_doOne_4 (by decide) (jw_lks (l := [(60, 116), (62, 116), (97, 137), (99, 183), (100, 225), (101, 304), (105, 160), (106, 243), (114, 286), (115, 116), (117, 250), (118, 232), (122, 116)]) (by rw [lv_osw (a := 60) c2 rfl]; rw [lv_osw (a := 62) c3 rfl]; rw [lv_osw (a := 97) c4 rfl]; rw [lv_osw (a := 99) c14 rfl]; rw [lv_osw (a := 100) c27 rfl]; rw [lv_osw (a := 101) c31 rfl]; rw [lv_osw (a := 105) c35 rfl]; rw [lv_osw (a := 106) c45 rfl]; rw [lv_osw (a := 114) c49 rfl]; rw [c58]; rfl)) (by decide) ?_
                      exact l_X1_doOne_b120  hq
                    · rcases jw_if hq with ⟨c59, hq⟩ | ⟨c59, hq⟩
                      · refine jw_lookup (off := 250) (tgt := 254) dX1_doOne_4 (by decide) (jw_lks (l := [(60, 116), (62, 116), (97, 137), (99, 183), (100, 225), (101, 304), (105, 160), (106, 243), (114, 286), (115, 116), (117, 250), (118, 232), (122, 116)]) (by rw [lv_osw (a := 60) c2 rfl]; rw [lv_osw (a := 62) c3 rfl]; rw [lv_osw (a := 97) c4 rfl]; rw [lv_osw (a := 99) c14 rfl]; rw [lv_osw (a := 100) c27 rfl]; rw [lv_osw (a := 101) c31 rfl]; rw [lv_osw (a := 105) c35 rfl]; rw [lv_osw (a := 106) c45 rfl]; rw [lv_osw (a := 114) c49 rfl]; rw [lv_osw (a := 115) c58 rfl]; rw [c59]; rfl)) (by decide) ?_
                        refine jw_aload_n dX1_doOne_254 (o := (some x0)) rfl ?_
                        refine jw_aload_n dX1_doOne_255 (o := (some x0)) rfl ?_
                        obtain ⟨v60, ev60, hq⟩ := Option.bind_eq_some_iff.mp hq
                        refine jw_getR (o := (some x0)) dX1_doOne_256 ev60 fl_X1_19 rfl ?_
                        obtain ⟨v61, ev61, hq⟩ := Option.bind_eq_some_iff.mp hq
                        refine jw_getR (o := v60) dX1_doOne_259 ev61 fl_X1_266 rfl ?_
                        obtain ⟨v62, ev62, hq⟩ := Option.bind_eq_some_iff.mp hq
                        refine jw_getI (o := v61) dX1_doOne_262 ev62 fl_X1_99 rfl ?_
                        rcases jw_if hq with ⟨c63, hq⟩ | ⟨c63, hq⟩
                        · refine jw_if_ne_f (tgt := 272) dX1_doOne_265 (by decide) c63 ?_
                          refine jw_iconst dX1_doOne_268 (v := (5 : Int32)) (by decide) ?_
                          refine jw_goto (tgt := 273) dX1_doOne_269 (by decide) ?_
                          refine jw_forget [true, false] (L' := [some (.ref x0), none]) rfl ?_
                          exact l_X1_doOne_b273  hq
                        · refine jw_if_ne_t (tgt := 272) dX1_doOne_265 (by decide) c63 ?_
                          refine jw_iconst dX1_doOne_272 (v := (0 : Int32)) (by decide) ?_
                          refine jw_forget [true, false] (L' := [some (.ref x0), none]) rfl ?_
                          exact l_X1_doOne_b273  hq
                      · rcases jw_if hq with ⟨c64, hq⟩ | ⟨c64, hq⟩
                        · refine jw_lookup (off := 232) (tgt := 236) dX1_doOne_4 (by decide) (jw_lks (l := [(60, 116), (62, 116), (97, 137), (99, 183), (100, 225), (101, 304), (105, 160), (106, 243), (114, 286), (115, 116), (117, 250), (118, 232), (122, 116)]) (by rw [lv_osw (a := 60) c2 rfl]; rw [lv_osw (a := 62) c3 rfl]; rw [lv_osw (a := 97) c4 rfl]; rw [lv_osw (a := 99) c14 rfl]; rw [lv_osw (a := 100) c27 rfl]; rw [lv_osw (a := 101) c31 rfl]; rw [lv_osw (a := 105) c35 rfl]; rw [lv_osw (a := 106) c45 rfl]; rw [lv_osw (a := 114) c49 rfl]; rw [lv_osw (a := 115) c58 rfl]; rw [lv_osw (a := 117) c59 rfl]; rw [c64]; rfl)) (by decide) ?_
                          refine jw_aload_n dX1_doOne_236 (o := (some x0)) rfl ?_
                          refine jw_aload_n dX1_doOne_237 (o := x1) rfl ?_
                          obtain ⟨v65, ev65, hq⟩ := Option.bind_eq_some_iff.mp hq
                          refine jw_getI (o := x1) dX1_doOne_238 ev65 fl_X1_130 rfl ?_
                          obtain ⟨a66, ea66, hq⟩ := Option.bind_eq_some_iff.mp hq
                          obtain ⟨eoa66, eta66⟩ := jw_rc_spec ea66
                          obtain ⟨w68, h67, ew68, hq⟩ := jw_b2_spec hq
                          refine jw_callV (As := [.int v65]) (S := []) (a := a66) (v := none) dX1_doOne_241 mt_X1_part in_X1_part se_X1_part lk_X1_260 (c_X1_part ew68) eta66 (by decide) rfl rfl (by decide) (Nat.le_of_ble_eq_true rfl) (by cases eoa66; rfl) ?_
                          refine jw_goto (tgt := 320) dX1_doOne_244 (by decide) ?_
                          cases hq
                          exact jw_vret dX1_doOne_320 rfl
                        · rcases jw_if hq with ⟨c69, hq⟩ | ⟨c69, hq⟩
                          · refine jw_lookup (off := 116) (tgt := 120) dX1_doOne_4 (by decide) (jw_lks (l := [(60, 116), (62, 116), (97, 137), (99, 183), (100, 225), (101, 304), (105, 160), (106, 243), (114, 286), (115, 116), (117, 250), (118, 232), (122, 116)]) (by rw [lv_osw (a := 60) c2 rfl]; rw [lv_osw (a := 62) c3 rfl]; rw [lv_osw (a := 97) c4 rfl]; rw [lv_osw (a := 99) c14 rfl]; rw [lv_osw (a := 100) c27 rfl]; rw [lv_osw (a := 101) c31 rfl]; rw [lv_osw (a := 105) c35 rfl]; rw [lv_osw (a := 106) c45 rfl]; rw [lv_osw (a := 114) c49 rfl]; rw [lv_osw (a := 115) c58 rfl]; rw [lv_osw (a := 117) c59 rfl]; rw [lv_osw (a := 118) c64 rfl]; rw [c69]; rfl)) (by decide) ?_
                            exact l_X1_doOne_b120  hq
                          · refine jw_lookup (off := 311) (tgt := 315) dX1_doOne_4 (by decide) (jw_lks (l := [(60, 116), (62, 116), (97, 137), (99, 183), (100, 225), (101, 304), (105, 160), (106, 243), (114, 286), (115, 116), (117, 250), (118, 232), (122, 116)]) (by rw [lv_osw (a := 60) c2 rfl]; rw [lv_osw (a := 62) c3 rfl]; rw [lv_osw (a := 97) c4 rfl]; rw [lv_osw (a := 99) c14 rfl]; rw [lv_osw (a := 100) c27 rfl]; rw [lv_osw (a := 101) c31 rfl]; rw [lv_osw (a := 105) c35 rfl]; rw [lv_osw (a := 106) c45 rfl]; rw [lv_osw (a := 114) c49 rfl]; rw [lv_osw (a := 115) c58 rfl]; rw [lv_osw (a := 117) c59 rfl]; rw [lv_osw (a := 118) c64 rfl]; rw [lv_osw (a := 122) c69 rfl]; rfl)) (by decide) ?_
                            refine jw_aload_n dX1_doOne_315 (o := (some x0)) rfl ?_
                            refine jw_aload_n dX1_doOne_316 (o := x1) rfl ?_
                            obtain ⟨a70, ea70, hq⟩ := Option.bind_eq_some_iff.mp hq
                            obtain ⟨eoa70, eta70⟩ := jw_rc_spec ea70
                            obtain ⟨w72, h71, ew72, hq⟩ := jw_b2_spec hq
                            refine jw_callV (As := [va_rf x1]) (S := []) (a := a70) (v := none) dX1_doOne_317 mt_X1_tell in_X1_tell se_X1_tell lk_X1_272 (c_X1_tell ew72) eta70 (by decide) rfl rfl (by decide) (Nat.le_of_ble_eq_true rfl) (by cases eoa70; rfl) ?_
                            cases hq
                            exact jw_vret dX1_doOne_320 rfl

theorem c_X1_doOne {h : jw_H} {x0 : Nat} {x1 : Option Nat} {r : Unit} {h' : jw_H} (hq : f_X1_doOne h x0 x1 = some (r, h')) : jw_Con (Cond.code yX1_doOne cX1_doOne 2 none) yX1_doOne 10 [.ref x0, va_rf x1] h (.inl none) h' :=
  jw_con false (plainFor_of_name (by decide +kernel)) (fun z => nomatch z) (by simp [jw_ent, jw_sl0_nil, jw_sl0_int, jw_sl0_long, jw_sl0_ref, jw_sl0_rf, jw_sl0_scr, List.replicate]) (by simp [jw_sl0_nil, jw_sl0_int, jw_sl0_long, jw_sl0_ref, jw_sl0_rf, jw_sl0_scr]) (l_X1_doOne hq)


/-! X1_doOrder -/
noncomputable def g_X1_doOrder_b66 (h : jw_H) (x1 : Int32) (t0 : Nat) (t1 : Int32) : Option (Int32 × jw_H) :=
 (jw_pI h 1 (some t0) 15 t1).bind fun h1 =>
 some (x1, h1)

noncomputable def g_X1_doOrder_b48 (h : jw_H) (x0 : Nat) (x1 : Int32) : Option (Int32 × jw_H) :=
 (jw_gI h 1 (some x0) 14).bind fun v1 =>
 if v1 ≤ (400 : Int32) then (g_X1_doOrder_b66  h x1 x0 (8 : Int32))
 else (g_X1_doOrder_b66  h x1 x0 (7 : Int32))

noncomputable def g_X1_doOrder_b153 (h : jw_H) (t0 : Int32) : Option (Int32 × jw_H) :=
 some (t0, h)

noncomputable def g_X1_doOrder_b138 (h : jw_H) (x1 : Int32) (x2 : Option Nat) (t0 : Int32) : Option (Int32 × jw_H) :=
 if t0 = 0 then ((jw_gI h 5 x2 9).bind fun v2 =>
 g_X1_doOrder_b153  h v2)
 else (g_X1_doOrder_b153  h (x1 + (1 : Int32)))

noncomputable def g_X1_doOrder_b133 (h : jw_H) (x1 : Int32) (x2 : Option Nat) : Option (Int32 × jw_H) :=
 g_X1_doOrder_b138  h x1 x2 (1 : Int32)

noncomputable def g_X1_doOrder_b130 (h : jw_H) (x1 : Int32) (x2 : Option Nat) (t0 : Int32) (t1 : Int32) : Option (Int32 × jw_H) :=
 if t0 = t1 then (g_X1_doOrder_b133  h x1 x2)
 else (g_X1_doOrder_b138  h x1 x2 (0 : Int32))

noncomputable def g_X1_doOrder_b193 (h : jw_H) (t0 : Int32) : Option (Int32 × jw_H) :=
 some (t0, h)

noncomputable def f_X1_doOrder (h : jw_H) (x0 : Nat) (x1 : Int32) : Option (Int32 × jw_H) :=
 (jw_gR h 1 (some x0) 0).bind fun v1 =>
 (jw_rc h 6 v1).bind fun a2 =>
 jw_b2 (f_X6_orderAt h a2 x1) fun w4 h3 =>
 if w4 = none then ((jw_gR h3 1 (some x0) 0).bind fun v48 =>
 (jw_gI h3 6 v48 6).bind fun v49 =>
 some (v49, h3))
 else ((jw_gI h3 1 (some x0) 14).bind fun v6 =>
 (jw_pI h3 1 (some x0) 14 (v6 + (1 : Int32))).bind fun h7 =>
 (jw_gI h7 1 (some x0) 14).bind fun v8 =>
 if (400 : Int32) < v8 then (g_X1_doOrder_b48  h7 x0 x1)
 else ((jw_rc h7 5 w4).bind fun a10 =>
 jw_b2 (f_X5_isNotByLine h7 a10) fun w12 h11 =>
 if w12 = 0 then ((jw_rc h11 1 (some x0)).bind fun a14 =>
 jw_b2 (f_X1_holds h11 a14 w4) fun w16 h15 =>
 if w16 = 0 then ((jw_gI h15 5 w4 9).bind fun v47 =>
 some (v47, h15))
 else ((jw_rc h15 5 w4).bind fun a18 =>
 jw_b2 (f_X5_holdsOthers h15 a18) fun w20 h19 =>
 if w20 = 0 then ((jw_rc h19 5 w4).bind fun a22 =>
 jw_b2 (f_X5_steers h19 a22) fun w24 h23 =>
 if w24 = 0 then ((jw_rc h23 1 (some x0)).bind fun a26 =>
 jw_b2 (f_X1_doOne h23 a26 w4) fun w28 h27 =>
 (jw_gI h27 1 (some x0) 16).bind fun v29 =>
 if v29 = 0 then ((jw_gI h27 5 w4 9).bind fun v31 =>
 g_X1_doOrder_b193  h27 v31)
 else ((jw_gR h27 1 (some x0) 0).bind fun v32 =>
 (jw_gI h27 6 v32 6).bind fun v33 =>
 g_X1_doOrder_b193  h27 v33))
 else ((jw_rc h23 1 (some x0)).bind fun a34 =>
 jw_b2 (f_X1_steer h23 a34 w4) fun w36 h35 =>
 some (w36, h35)))
 else ((jw_gI h19 5 w4 3).bind fun v37 =>
 if v37 = (123 : Int32) then (g_X1_doOrder_b133  h19 x1 w4)
 else ((jw_gR h19 1 (some x0) 4).bind fun v39 =>
 (jw_gR h19 1 (some x0) 7).bind fun v40 =>
 (jw_gI h19 5 w4 6).bind fun v41 =>
 (jw_rc h19 4 v39).bind fun a42 =>
 jw_b2 (f_X4_holds h19 a42 v40 (1 : Int32) v41) fun w44 h43 =>
 (jw_gI h43 5 w4 3).bind fun v45 =>
 if v45 = (103 : Int32) then (g_X1_doOrder_b130  h43 x1 w4 w44 (1 : Int32))
 else (g_X1_doOrder_b130  h43 x1 w4 w44 (0 : Int32))))))
 else (g_X1_doOrder_b48  h11 x0 x1)))

set_option maxRecDepth 100000 in
set_option maxHeartbeats 4000000 in
theorem l_X1_doOrder_b66 {hi : jw_H} {h : jw_H} {x1 : Int32} {t0 : Nat} {t1 : Int32} {r : Int32} {h' : jw_H} (hq : g_X1_doOrder_b66  h x1 t0 t1 = some (r, h')) : jw_E 11 uX1_doOrder hi 66 [none, some (.int x1), none, none] [.int t1, .ref t0] h (.inl (some (.int r))) h' := by
  unfold g_X1_doOrder_b66 at hq
  obtain ⟨h1, eh1, hq⟩ := Option.bind_eq_some_iff.mp hq
  refine jw_putI (o := (some t0)) dX1_doOrder_66 eh1 fl_X1_65 rfl rfl ?_
  refine jw_iload_n dX1_doOrder_69 rfl ?_
  cases hq
  exact jw_iret (ty := .int) dX1_doOrder_70 rfl rfl

set_option maxRecDepth 100000 in
set_option maxHeartbeats 4000000 in
theorem l_X1_doOrder_b48 {hi : jw_H} {h : jw_H} {x0 : Nat} {x1 : Int32} {r : Int32} {h' : jw_H} (hq : g_X1_doOrder_b48  h x0 x1 = some (r, h')) : jw_E 11 uX1_doOrder hi 48 [some (.ref x0), some (.int x1), none, none] [] h (.inl (some (.int r))) h' := by
  unfold g_X1_doOrder_b48 at hq
  refine jw_aload_n dX1_doOrder_48 (o := (some x0)) rfl ?_
  refine jw_aload_n dX1_doOrder_49 (o := (some x0)) rfl ?_
  obtain ⟨v1, ev1, hq⟩ := Option.bind_eq_some_iff.mp hq
  refine jw_getI (o := (some x0)) dX1_doOrder_50 ev1 fl_X1_109 rfl ?_
  refine jw_sipush dX1_doOrder_53 (v := (400 : Int32)) (by decide) ?_
  rcases jw_if hq with ⟨c2, hq⟩ | ⟨c2, hq⟩
  · refine jw_icmp_le_t (tgt := 64) dX1_doOrder_56 (by decide) c2 ?_
    refine jw_bipush dX1_doOrder_64 (v := (8 : Int32)) (by decide) ?_
    refine jw_forget [false, true, true, true] (L' := [none, some (.int x1), none, none]) rfl ?_
    exact l_X1_doOrder_b66  hq
  · refine jw_icmp_le_f (tgt := 64) dX1_doOrder_56 (by decide) c2 ?_
    refine jw_bipush dX1_doOrder_59 (v := (7 : Int32)) (by decide) ?_
    refine jw_goto (tgt := 66) dX1_doOrder_61 (by decide) ?_
    refine jw_forget [false, true, true, true] (L' := [none, some (.int x1), none, none]) rfl ?_
    exact l_X1_doOrder_b66  hq

set_option maxRecDepth 100000 in
set_option maxHeartbeats 4000000 in
theorem l_X1_doOrder_b153 {hi : jw_H} {h : jw_H} {t0 : Int32} {r : Int32} {h' : jw_H} (hq : g_X1_doOrder_b153  h t0 = some (r, h')) : jw_E 11 uX1_doOrder hi 153 [none, none, none, none] [.int t0] h (.inl (some (.int r))) h' := by
  unfold g_X1_doOrder_b153 at hq
  cases hq
  exact jw_iret (ty := .int) dX1_doOrder_153 rfl rfl

set_option maxRecDepth 100000 in
set_option maxHeartbeats 4000000 in
theorem l_X1_doOrder_b138 {hi : jw_H} {h : jw_H} {x1 : Int32} {x2 : Option Nat} {t0 : Int32} {r : Int32} {h' : jw_H} (hq : g_X1_doOrder_b138  h x1 x2 t0 = some (r, h')) : jw_E 11 uX1_doOrder hi 138 [none, some (.int x1), some (va_rf x2), none] [.int t0] h (.inl (some (.int r))) h' := by
  unfold g_X1_doOrder_b138 at hq
  refine jw_istore_n (L' := [none, some (.int x1), some (va_rf x2), some (.int t0)]) dX1_doOrder_138 (Nat.le_of_ble_eq_true rfl) ((jw_st1_of (j := 2) jw_long_rf).trans rfl) ?_
  refine jw_iload_n dX1_doOrder_139 rfl ?_
  rcases jw_if hq with ⟨c1, hq⟩ | ⟨c1, hq⟩
  · refine jw_if_eq_t (tgt := 149) dX1_doOrder_140 (by decide) c1 ?_
    refine jw_aload_n dX1_doOrder_149 (o := x2) rfl ?_
    obtain ⟨v2, ev2, hq⟩ := Option.bind_eq_some_iff.mp hq
    refine jw_getI (o := x2) dX1_doOrder_150 ev2 fl_X1_172 rfl ?_
    refine jw_forget [true, false, false, false] (L' := [none, none, none, none]) rfl ?_
    exact l_X1_doOrder_b153  hq
  · refine jw_if_eq_f (tgt := 149) dX1_doOrder_140 (by decide) c1 ?_
    refine jw_iload_n dX1_doOrder_143 rfl ?_
    refine jw_iconst dX1_doOrder_144 (v := (1 : Int32)) (by decide) ?_
    refine jw_iadd dX1_doOrder_145 ?_
    refine jw_goto (tgt := 153) dX1_doOrder_146 (by decide) ?_
    refine jw_forget [true, false, false, false] (L' := [none, none, none, none]) rfl ?_
    exact l_X1_doOrder_b153  hq

set_option maxRecDepth 100000 in
set_option maxHeartbeats 4000000 in
theorem l_X1_doOrder_b133 {hi : jw_H} {h : jw_H} {x1 : Int32} {x2 : Option Nat} {r : Int32} {h' : jw_H} (hq : g_X1_doOrder_b133  h x1 x2 = some (r, h')) : jw_E 11 uX1_doOrder hi 133 [none, some (.int x1), some (va_rf x2), none] [] h (.inl (some (.int r))) h' := by
  unfold g_X1_doOrder_b133 at hq
  refine jw_iconst dX1_doOrder_133 (v := (1 : Int32)) (by decide) ?_
  refine jw_goto (tgt := 138) dX1_doOrder_134 (by decide) ?_
  exact l_X1_doOrder_b138  hq

set_option maxRecDepth 100000 in
set_option maxHeartbeats 4000000 in
theorem l_X1_doOrder_b130 {hi : jw_H} {h : jw_H} {x1 : Int32} {x2 : Option Nat} {t0 : Int32} {t1 : Int32} {r : Int32} {h' : jw_H} (hq : g_X1_doOrder_b130  h x1 x2 t0 t1 = some (r, h')) : jw_E 11 uX1_doOrder hi 130 [none, some (.int x1), some (va_rf x2), none] [.int t1, .int t0] h (.inl (some (.int r))) h' := by
  unfold g_X1_doOrder_b130 at hq
  rcases jw_if hq with ⟨c1, hq⟩ | ⟨c1, hq⟩
  · refine jw_icmp_ne_f (tgt := 137) dX1_doOrder_130 (by decide) c1 ?_
    exact l_X1_doOrder_b133  hq
  · refine jw_icmp_ne_t (tgt := 137) dX1_doOrder_130 (by decide) c1 ?_
    refine jw_iconst dX1_doOrder_137 (v := (0 : Int32)) (by decide) ?_
    exact l_X1_doOrder_b138  hq

set_option maxRecDepth 100000 in
set_option maxHeartbeats 4000000 in
theorem l_X1_doOrder_b193 {hi : jw_H} {h : jw_H} {t0 : Int32} {r : Int32} {h' : jw_H} (hq : g_X1_doOrder_b193  h t0 = some (r, h')) : jw_E 11 uX1_doOrder hi 193 [none, none, none, none] [.int t0] h (.inl (some (.int r))) h' := by
  unfold g_X1_doOrder_b193 at hq
  cases hq
  exact jw_iret (ty := .int) dX1_doOrder_193 rfl rfl

set_option maxRecDepth 100000 in
set_option maxHeartbeats 4000000 in
theorem l_X1_doOrder {hi : jw_H} {h : jw_H} {x0 : Nat} {x1 : Int32} {r : Int32} {h' : jw_H} (hq : f_X1_doOrder  h x0 x1 = some (r, h')) : jw_E 11 uX1_doOrder hi 0 [some (.ref x0), some (.int x1), none, none] [] h (.inl (some (.int r))) h' := by
  unfold f_X1_doOrder at hq
  refine jw_aload_n dX1_doOrder_0 (o := (some x0)) rfl ?_
  obtain ⟨v1, ev1, hq⟩ := Option.bind_eq_some_iff.mp hq
  refine jw_getR (o := (some x0)) dX1_doOrder_1 ev1 fl_X1_9 rfl ?_
  refine jw_iload_n dX1_doOrder_4 rfl ?_
  obtain ⟨a2, ea2, hq⟩ := Option.bind_eq_some_iff.mp hq
  obtain ⟨eoa2, eta2⟩ := jw_rc_spec ea2
  obtain ⟨w4, h3, ew4, hq⟩ := jw_b2_spec hq
  refine jw_callV (As := [.int x1]) (S := []) (a := a2) (v := some (va_rf w4)) dX1_doOrder_5 mt_X6_orderAt in_X6_orderAt se_X6_orderAt lk_X1_121 (c_X6_orderAt ew4) eta2 (by decide) rfl rfl (by decide) (Nat.le_of_ble_eq_true rfl) (by cases eoa2; rfl) ?_
  refine jw_astore_n (o := w4) (L' := [some (.ref x0), some (.int x1), some (va_rf w4), none]) dX1_doOrder_8 (Nat.le_of_ble_eq_true rfl) rfl ?_
  refine jw_aload_n dX1_doOrder_9 (o := w4) rfl ?_
  rcases jw_if hq with ⟨c5, hq⟩ | ⟨c5, hq⟩
  · refine jw_ifnonnull_f (o := w4) dX1_doOrder_10 c5 ?_
    refine jw_aload_n dX1_doOrder_13 (o := (some x0)) rfl ?_
    obtain ⟨v48, ev48, hq⟩ := Option.bind_eq_some_iff.mp hq
    refine jw_getR (o := (some x0)) dX1_doOrder_14 ev48 fl_X1_9 rfl ?_
    obtain ⟨v49, ev49, hq⟩ := Option.bind_eq_some_iff.mp hq
    refine jw_getI (o := v48) dX1_doOrder_17 ev49 fl_X1_72 rfl ?_
    cases hq
    exact jw_iret (ty := .int) dX1_doOrder_20 rfl rfl
  · refine jw_ifnonnull_t (o := w4) (tgt := 21) dX1_doOrder_10 (by decide) c5 ?_
    refine jw_aload_n dX1_doOrder_21 (o := (some x0)) rfl ?_
    refine jw_dup dX1_doOrder_22 rfl ?_
    obtain ⟨v6, ev6, hq⟩ := Option.bind_eq_some_iff.mp hq
    refine jw_getI (o := (some x0)) dX1_doOrder_23 ev6 fl_X1_109 rfl ?_
    refine jw_iconst dX1_doOrder_26 (v := (1 : Int32)) (by decide) ?_
    refine jw_iadd dX1_doOrder_27 ?_
    obtain ⟨h7, eh7, hq⟩ := Option.bind_eq_some_iff.mp hq
    refine jw_putI (o := (some x0)) dX1_doOrder_28 eh7 fl_X1_109 rfl rfl ?_
    refine jw_aload_n dX1_doOrder_31 (o := (some x0)) rfl ?_
    obtain ⟨v8, ev8, hq⟩ := Option.bind_eq_some_iff.mp hq
    refine jw_getI (o := (some x0)) dX1_doOrder_32 ev8 fl_X1_109 rfl ?_
    refine jw_sipush dX1_doOrder_35 (v := (400 : Int32)) (by decide) ?_
    rcases jw_if hq with ⟨c9, hq⟩ | ⟨c9, hq⟩
    · refine jw_icmp_gt_t (tgt := 48) dX1_doOrder_38 (by decide) c9 ?_
      refine jw_forget [true, true, false, true] (L' := [some (.ref x0), some (.int x1), none, none]) rfl ?_
      exact l_X1_doOrder_b48  hq
    · refine jw_icmp_gt_f (tgt := 48) dX1_doOrder_38 (by decide) c9 ?_
      refine jw_aload_n dX1_doOrder_41 (o := w4) rfl ?_
      obtain ⟨a10, ea10, hq⟩ := Option.bind_eq_some_iff.mp hq
      obtain ⟨eoa10, eta10⟩ := jw_rc_spec ea10
      obtain ⟨w12, h11, ew12, hq⟩ := jw_b2_spec hq
      refine jw_callV (As := []) (S := []) (a := a10) (v := some (.int w12)) dX1_doOrder_42 mt_X5_isNotByLine in_X5_isNotByLine se_X5_isNotByLine lk_X1_164 (c_X5_isNotByLine ew12) eta10 (by decide) rfl rfl (by decide) (Nat.le_of_ble_eq_true rfl) (by cases eoa10; rfl) ?_
      rcases jw_if hq with ⟨c13, hq⟩ | ⟨c13, hq⟩
      · refine jw_if_eq_t (tgt := 71) dX1_doOrder_45 (by decide) c13 ?_
        refine jw_aload_n dX1_doOrder_71 (o := (some x0)) rfl ?_
        refine jw_aload_n dX1_doOrder_72 (o := w4) rfl ?_
        obtain ⟨a14, ea14, hq⟩ := Option.bind_eq_some_iff.mp hq
        obtain ⟨eoa14, eta14⟩ := jw_rc_spec ea14
        obtain ⟨w16, h15, ew16, hq⟩ := jw_b2_spec hq
        refine jw_callV (As := [va_rf w4]) (S := []) (a := a14) (v := some (.int w16)) dX1_doOrder_73 mt_X1_holds in_X1_holds se_X1_holds lk_X1_168 (c_X1_holds ew16) eta14 (by decide) rfl rfl (by decide) (Nat.le_of_ble_eq_true rfl) (by cases eoa14; rfl) ?_
        rcases jw_if hq with ⟨c17, hq⟩ | ⟨c17, hq⟩
        · refine jw_if_ne_f (tgt := 84) dX1_doOrder_76 (by decide) c17 ?_
          refine jw_aload_n dX1_doOrder_79 (o := w4) rfl ?_
          obtain ⟨v47, ev47, hq⟩ := Option.bind_eq_some_iff.mp hq
          refine jw_getI (o := w4) dX1_doOrder_80 ev47 fl_X1_172 rfl ?_
          cases hq
          exact jw_iret (ty := .int) dX1_doOrder_83 rfl rfl
        · refine jw_if_ne_t (tgt := 84) dX1_doOrder_76 (by decide) c17 ?_
          refine jw_aload_n dX1_doOrder_84 (o := w4) rfl ?_
          obtain ⟨a18, ea18, hq⟩ := Option.bind_eq_some_iff.mp hq
          obtain ⟨eoa18, eta18⟩ := jw_rc_spec ea18
          obtain ⟨w20, h19, ew20, hq⟩ := jw_b2_spec hq
          refine jw_callV (As := []) (S := []) (a := a18) (v := some (.int w20)) dX1_doOrder_85 mt_X5_holdsOthers in_X5_holdsOthers se_X5_holdsOthers lk_X1_175 (c_X5_holdsOthers ew20) eta18 (by decide) rfl rfl (by decide) (Nat.le_of_ble_eq_true rfl) (by cases eoa18; rfl) ?_
          rcases jw_if hq with ⟨c21, hq⟩ | ⟨c21, hq⟩
          · refine jw_if_eq_t (tgt := 154) dX1_doOrder_88 (by decide) c21 ?_
            refine jw_aload_n dX1_doOrder_154 (o := w4) rfl ?_
            obtain ⟨a22, ea22, hq⟩ := Option.bind_eq_some_iff.mp hq
            obtain ⟨eoa22, eta22⟩ := jw_rc_spec ea22
            obtain ⟨w24, h23, ew24, hq⟩ := jw_b2_spec hq
            refine jw_callV (As := []) (S := []) (a := a22) (v := some (.int w24)) dX1_doOrder_155 mt_X5_steers in_X5_steers se_X5_steers lk_X1_185 (c_X5_steers ew24) eta22 (by decide) rfl rfl (by decide) (Nat.le_of_ble_eq_true rfl) (by cases eoa22; rfl) ?_
            rcases jw_if hq with ⟨c25, hq⟩ | ⟨c25, hq⟩
            · refine jw_if_eq_t (tgt := 167) dX1_doOrder_158 (by decide) c25 ?_
              refine jw_aload_n dX1_doOrder_167 (o := (some x0)) rfl ?_
              refine jw_aload_n dX1_doOrder_168 (o := w4) rfl ?_
              obtain ⟨a26, ea26, hq⟩ := Option.bind_eq_some_iff.mp hq
              obtain ⟨eoa26, eta26⟩ := jw_rc_spec ea26
              obtain ⟨w28, h27, ew28, hq⟩ := jw_b2_spec hq
              refine jw_callV (As := [va_rf w4]) (S := []) (a := a26) (v := none) dX1_doOrder_169 mt_X1_doOne in_X1_doOne se_X1_doOne lk_X1_192 (c_X1_doOne ew28) eta26 (by decide) rfl rfl (by decide) (Nat.le_of_ble_eq_true rfl) (by cases eoa26; rfl) ?_
              refine jw_aload_n dX1_doOrder_172 (o := (some x0)) rfl ?_
              obtain ⟨v29, ev29, hq⟩ := Option.bind_eq_some_iff.mp hq
              refine jw_getI (o := (some x0)) dX1_doOrder_173 ev29 fl_X1_148 rfl ?_
              rcases jw_if hq with ⟨c30, hq⟩ | ⟨c30, hq⟩
              · refine jw_if_eq_t (tgt := 189) dX1_doOrder_176 (by decide) c30 ?_
                refine jw_aload_n dX1_doOrder_189 (o := w4) rfl ?_
                obtain ⟨v31, ev31, hq⟩ := Option.bind_eq_some_iff.mp hq
                refine jw_getI (o := w4) dX1_doOrder_190 ev31 fl_X1_172 rfl ?_
                refine jw_forget [false, false, false, true] (L' := [none, none, none, none]) rfl ?_
                exact l_X1_doOrder_b193  hq
              · refine jw_if_eq_f (tgt := 189) dX1_doOrder_176 (by decide) c30 ?_
                refine jw_aload_n dX1_doOrder_179 (o := (some x0)) rfl ?_
                obtain ⟨v32, ev32, hq⟩ := Option.bind_eq_some_iff.mp hq
                refine jw_getR (o := (some x0)) dX1_doOrder_180 ev32 fl_X1_9 rfl ?_
                obtain ⟨v33, ev33, hq⟩ := Option.bind_eq_some_iff.mp hq
                refine jw_getI (o := v32) dX1_doOrder_183 ev33 fl_X1_72 rfl ?_
                refine jw_goto (tgt := 193) dX1_doOrder_186 (by decide) ?_
                refine jw_forget [false, false, false, true] (L' := [none, none, none, none]) rfl ?_
                exact l_X1_doOrder_b193  hq
            · refine jw_if_eq_f (tgt := 167) dX1_doOrder_158 (by decide) c25 ?_
              refine jw_aload_n dX1_doOrder_161 (o := (some x0)) rfl ?_
              refine jw_aload_n dX1_doOrder_162 (o := w4) rfl ?_
              obtain ⟨a34, ea34, hq⟩ := Option.bind_eq_some_iff.mp hq
              obtain ⟨eoa34, eta34⟩ := jw_rc_spec ea34
              obtain ⟨w36, h35, ew36, hq⟩ := jw_b2_spec hq
              refine jw_callV (As := [va_rf w4]) (S := []) (a := a34) (v := some (.int w36)) dX1_doOrder_163 mt_X1_steer in_X1_steer se_X1_steer lk_X1_188 (c_X1_steer ew36) eta34 (by decide) rfl rfl (by decide) (Nat.le_of_ble_eq_true rfl) (by cases eoa34; rfl) ?_
              cases hq
              exact jw_iret (ty := .int) dX1_doOrder_166 rfl rfl
          · refine jw_if_eq_f (tgt := 154) dX1_doOrder_88 (by decide) c21 ?_
            refine jw_aload_n dX1_doOrder_91 (o := w4) rfl ?_
            obtain ⟨v37, ev37, hq⟩ := Option.bind_eq_some_iff.mp hq
            refine jw_getI (o := w4) dX1_doOrder_92 ev37 fl_X1_125 rfl ?_
            refine jw_bipush dX1_doOrder_95 (v := (123 : Int32)) (by decide) ?_
            rcases jw_if hq with ⟨c38, hq⟩ | ⟨c38, hq⟩
            · refine jw_icmp_eq_t (tgt := 133) dX1_doOrder_97 (by decide) c38 ?_
              refine jw_forget [false, true, true, true] (L' := [none, some (.int x1), some (va_rf w4), none]) rfl ?_
              exact l_X1_doOrder_b133  hq
            · refine jw_icmp_eq_f (tgt := 133) dX1_doOrder_97 (by decide) c38 ?_
              refine jw_aload_n dX1_doOrder_100 (o := (some x0)) rfl ?_
              obtain ⟨v39, ev39, hq⟩ := Option.bind_eq_some_iff.mp hq
              refine jw_getR (o := (some x0)) dX1_doOrder_101 ev39 fl_X1_26 rfl ?_
              refine jw_aload_n dX1_doOrder_104 (o := (some x0)) rfl ?_
              obtain ⟨v40, ev40, hq⟩ := Option.bind_eq_some_iff.mp hq
              refine jw_getR (o := (some x0)) dX1_doOrder_105 ev40 fl_X1_45 rfl ?_
              refine jw_iconst dX1_doOrder_108 (v := (1 : Int32)) (by decide) ?_
              refine jw_aload_n dX1_doOrder_109 (o := w4) rfl ?_
              obtain ⟨v41, ev41, hq⟩ := Option.bind_eq_some_iff.mp hq
              refine jw_getI (o := w4) dX1_doOrder_110 ev41 fl_X1_178 rfl ?_
              obtain ⟨a42, ea42, hq⟩ := Option.bind_eq_some_iff.mp hq
              obtain ⟨eoa42, eta42⟩ := jw_rc_spec ea42
              obtain ⟨w44, h43, ew44, hq⟩ := jw_b2_spec hq
              refine jw_callV (As := [va_rf v40, .int (1 : Int32), .int v41]) (S := []) (a := a42) (v := some (.int w44)) dX1_doOrder_113 mt_X4_holds in_X4_holds se_X4_holds lk_X1_181 (c_X4_holds ew44) eta42 (by decide) rfl rfl (by decide) (Nat.le_of_ble_eq_true rfl) (by cases eoa42; rfl) ?_
              refine jw_aload_n dX1_doOrder_116 (o := w4) rfl ?_
              obtain ⟨v45, ev45, hq⟩ := Option.bind_eq_some_iff.mp hq
              refine jw_getI (o := w4) dX1_doOrder_117 ev45 fl_X1_125 rfl ?_
              refine jw_bipush dX1_doOrder_120 (v := (103 : Int32)) (by decide) ?_
              rcases jw_if hq with ⟨c46, hq⟩ | ⟨c46, hq⟩
              · refine jw_icmp_ne_f (tgt := 129) dX1_doOrder_122 (by decide) c46 ?_
                refine jw_iconst dX1_doOrder_125 (v := (1 : Int32)) (by decide) ?_
                refine jw_goto (tgt := 130) dX1_doOrder_126 (by decide) ?_
                refine jw_forget [false, true, true, true] (L' := [none, some (.int x1), some (va_rf w4), none]) rfl ?_
                exact l_X1_doOrder_b130  hq
              · refine jw_icmp_ne_t (tgt := 129) dX1_doOrder_122 (by decide) c46 ?_
                refine jw_iconst dX1_doOrder_129 (v := (0 : Int32)) (by decide) ?_
                refine jw_forget [false, true, true, true] (L' := [none, some (.int x1), some (va_rf w4), none]) rfl ?_
                exact l_X1_doOrder_b130  hq
      · refine jw_if_eq_f (tgt := 71) dX1_doOrder_45 (by decide) c13 ?_
        refine jw_forget [true, true, false, true] (L' := [some (.ref x0), some (.int x1), none, none]) rfl ?_
        exact l_X1_doOrder_b48  hq

theorem c_X1_doOrder {h : jw_H} {x0 : Nat} {x1 : Int32} {r : Int32} {h' : jw_H} (hq : f_X1_doOrder h x0 x1 = some (r, h')) : jw_Con (Cond.code yX1_doOrder cX1_doOrder 4 (some .int)) yX1_doOrder 11 [.ref x0, .int x1] h (.inl (some (.int r))) h' :=
  jw_con false (plainFor_of_name (by decide +kernel)) (fun z => nomatch z) (by simp [jw_ent, jw_sl0_nil, jw_sl0_int, jw_sl0_long, jw_sl0_ref, jw_sl0_rf, jw_sl0_scr, List.replicate]) (by simp [jw_sl0_nil, jw_sl0_int, jw_sl0_long, jw_sl0_ref, jw_sl0_rf, jw_sl0_scr]) (l_X1_doOrder hq)


/-! X1_finishWork -/
noncomputable def g_X1_finishWork_b32 (h : jw_H) (x0 : Nat) : Option (Unit × jw_H) :=
 (jw_gR h 1 (some x0) 8).bind fun v1 =>
 (jw_rc h 1 (some x0)).bind fun a2 =>
 jw_b2 (f_X1_putNew h a2 v1) fun w4 h3 =>
 some ((), h3)

noncomputable def f_X1_finishWork (h : jw_H) (x0 : Nat) : Option (Unit × jw_H) :=
 (jw_gI h 1 (some x0) 16).bind fun v1 =>
 if v1 = 0 then ((jw_gR h 1 (some x0) 6).bind fun v3 =>
 (jw_gR h 1 (some x0) 7).bind fun v4 =>
 (jw_gI h 1 (some x0) 10).bind fun v5 =>
 (jw_rc h 9 v3).bind fun a6 =>
 jw_b2 (f_X9_append h a6 v4 (1 : Int32) v5) fun w8 h7 =>
 if w8 = 0 then ((jw_pI h7 1 (some x0) 15 (4 : Int32)).bind fun h10 =>
 some ((), h10))
 else (g_X1_finishWork_b32  h7 x0))
 else (g_X1_finishWork_b32  h x0)

set_option maxRecDepth 100000 in
set_option maxHeartbeats 4000000 in
theorem l_X1_finishWork_b32 {hi : jw_H} {h : jw_H} {x0 : Nat} {r : Unit} {h' : jw_H} (hq : g_X1_finishWork_b32  h x0 = some (r, h')) : jw_E 5 uX1_finishWork hi 32 [some (.ref x0)] [] h (.inl none) h' := by
  unfold g_X1_finishWork_b32 at hq
  refine jw_aload_n dX1_finishWork_32 (o := (some x0)) rfl ?_
  refine jw_aload_n dX1_finishWork_33 (o := (some x0)) rfl ?_
  obtain ⟨v1, ev1, hq⟩ := Option.bind_eq_some_iff.mp hq
  refine jw_getR (o := (some x0)) dX1_finishWork_34 ev1 fl_X1_49 rfl ?_
  obtain ⟨a2, ea2, hq⟩ := Option.bind_eq_some_iff.mp hq
  obtain ⟨eoa2, eta2⟩ := jw_rc_spec ea2
  obtain ⟨w4, h3, ew4, hq⟩ := jw_b2_spec hq
  refine jw_callV (As := [va_rf v1]) (S := []) (a := a2) (v := none) dX1_finishWork_37 mt_X1_putNew in_X1_putNew se_X1_putNew lk_X1_160 (c_X1_putNew ew4) eta2 (by decide) rfl rfl (by decide) (Nat.le_of_ble_eq_true rfl) (by cases eoa2; rfl) ?_
  cases hq
  exact jw_vret dX1_finishWork_40 rfl

set_option maxRecDepth 100000 in
set_option maxHeartbeats 4000000 in
theorem l_X1_finishWork {hi : jw_H} {h : jw_H} {x0 : Nat} {r : Unit} {h' : jw_H} (hq : f_X1_finishWork  h x0 = some (r, h')) : jw_E 5 uX1_finishWork hi 0 [some (.ref x0)] [] h (.inl none) h' := by
  unfold f_X1_finishWork at hq
  refine jw_aload_n dX1_finishWork_0 (o := (some x0)) rfl ?_
  obtain ⟨v1, ev1, hq⟩ := Option.bind_eq_some_iff.mp hq
  refine jw_getI (o := (some x0)) dX1_finishWork_1 ev1 fl_X1_148 rfl ?_
  rcases jw_if hq with ⟨c2, hq⟩ | ⟨c2, hq⟩
  · refine jw_if_ne_f (tgt := 32) dX1_finishWork_4 (by decide) c2 ?_
    refine jw_aload_n dX1_finishWork_7 (o := (some x0)) rfl ?_
    obtain ⟨v3, ev3, hq⟩ := Option.bind_eq_some_iff.mp hq
    refine jw_getR (o := (some x0)) dX1_finishWork_8 ev3 fl_X1_37 rfl ?_
    refine jw_aload_n dX1_finishWork_11 (o := (some x0)) rfl ?_
    obtain ⟨v4, ev4, hq⟩ := Option.bind_eq_some_iff.mp hq
    refine jw_getR (o := (some x0)) dX1_finishWork_12 ev4 fl_X1_45 rfl ?_
    refine jw_iconst dX1_finishWork_15 (v := (1 : Int32)) (by decide) ?_
    refine jw_aload_n dX1_finishWork_16 (o := (some x0)) rfl ?_
    obtain ⟨v5, ev5, hq⟩ := Option.bind_eq_some_iff.mp hq
    refine jw_getI (o := (some x0)) dX1_finishWork_17 ev5 fl_X1_141 rfl ?_
    obtain ⟨a6, ea6, hq⟩ := Option.bind_eq_some_iff.mp hq
    obtain ⟨eoa6, eta6⟩ := jw_rc_spec ea6
    obtain ⟨w8, h7, ew8, hq⟩ := jw_b2_spec hq
    refine jw_callV (As := [va_rf v4, .int (1 : Int32), .int v5]) (S := []) (a := a6) (v := some (.int w8)) dX1_finishWork_20 mt_X9_append in_X9_append se_X9_append lk_X1_156 (c_X9_append ew8) eta6 (by decide) rfl rfl (by decide) (Nat.le_of_ble_eq_true rfl) (by cases eoa6; rfl) ?_
    rcases jw_if hq with ⟨c9, hq⟩ | ⟨c9, hq⟩
    · refine jw_if_ne_f (tgt := 32) dX1_finishWork_23 (by decide) c9 ?_
      refine jw_aload_n dX1_finishWork_26 (o := (some x0)) rfl ?_
      refine jw_iconst dX1_finishWork_27 (v := (4 : Int32)) (by decide) ?_
      obtain ⟨h10, eh10, hq⟩ := Option.bind_eq_some_iff.mp hq
      refine jw_putI (o := (some x0)) dX1_finishWork_28 eh10 fl_X1_65 rfl rfl ?_
      cases hq
      exact jw_vret dX1_finishWork_31 rfl
    · refine jw_if_ne_t (tgt := 32) dX1_finishWork_23 (by decide) c9 ?_
      exact l_X1_finishWork_b32  hq
  · refine jw_if_ne_t (tgt := 32) dX1_finishWork_4 (by decide) c2 ?_
    exact l_X1_finishWork_b32  hq

theorem c_X1_finishWork {h : jw_H} {x0 : Nat} {r : Unit} {h' : jw_H} (hq : f_X1_finishWork h x0 = some (r, h')) : jw_Con (Cond.code yX1_finishWork cX1_finishWork 1 none) yX1_finishWork 5 [.ref x0] h (.inl none) h' :=
  jw_con false (plainFor_of_name (by decide +kernel)) (fun z => nomatch z) (by simp [jw_ent, jw_sl0_nil, jw_sl0_int, jw_sl0_long, jw_sl0_ref, jw_sl0_rf, jw_sl0_scr, List.replicate]) (by simp [jw_sl0_nil, jw_sl0_int, jw_sl0_long, jw_sl0_ref, jw_sl0_rf, jw_sl0_scr]) (l_X1_finishWork hq)

