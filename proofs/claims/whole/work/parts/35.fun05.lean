/-! X11_fault -/
noncomputable def f_X11_fault (h : jw_H) (x0 : Nat) : Option (Int32 × jw_H) :=
 (jw_gR h 11 (some x0) 5).bind fun v1 =>
 (jw_gR h 11 (some x0) 0).bind fun v2 =>
 (jw_gI h 11 (some x0) 12).bind fun v3 =>
 (jw_rc h 6 v1).bind fun a4 =>
 jw_b2 (f_X6_readOrders h a4 v2 v3) fun w6 h5 =>
 some (w6, h5)

set_option maxRecDepth 100000 in
set_option maxHeartbeats 4000000 in
theorem l_X11_fault {hi : jw_H} {h : jw_H} {x0 : Nat} {r : Int32} {h' : jw_H} (hq : f_X11_fault  h x0 = some (r, h')) : jw_E 7 uX11_fault hi 0 [some (.ref x0)] [] h (.inl (some (.int r))) h' := by
  unfold f_X11_fault at hq
  refine jw_aload_n dX11_fault_0 (o := (some x0)) rfl ?_
  obtain ⟨v1, ev1, hq⟩ := Option.bind_eq_some_iff.mp hq
  refine jw_getR (o := (some x0)) dX11_fault_1 ev1 fl_X11_31 rfl ?_
  refine jw_aload_n dX11_fault_4 (o := (some x0)) rfl ?_
  obtain ⟨v2, ev2, hq⟩ := Option.bind_eq_some_iff.mp hq
  refine jw_getR (o := (some x0)) dX11_fault_5 ev2 fl_X11_9 rfl ?_
  refine jw_aload_n dX11_fault_8 (o := (some x0)) rfl ?_
  obtain ⟨v3, ev3, hq⟩ := Option.bind_eq_some_iff.mp hq
  refine jw_getI (o := (some x0)) dX11_fault_9 ev3 fl_X11_95 rfl ?_
  obtain ⟨a4, ea4, hq⟩ := Option.bind_eq_some_iff.mp hq
  obtain ⟨eoa4, eta4⟩ := jw_rc_spec ea4
  obtain ⟨w6, h5, ew6, hq⟩ := jw_b2_spec hq
  refine jw_callV (As := [va_rf v2, .int v3]) (S := []) (a := a4) (v := some (.int w6)) dX11_fault_12 mt_X6_readOrders in_X6_readOrders se_X6_readOrders lk_X11_104 (c_X6_readOrders ew6) eta4 (by decide) rfl rfl (by decide) (Nat.le_of_ble_eq_true rfl) (by cases eoa4; rfl) ?_
  cases hq
  exact jw_iret (ty := .int) dX11_fault_15 rfl rfl

theorem c_X11_fault {h : jw_H} {x0 : Nat} {r : Int32} {h' : jw_H} (hq : f_X11_fault h x0 = some (r, h')) : jw_Con (Cond.code yX11_fault cX11_fault 1 (some .int)) yX11_fault 7 [.ref x0] h (.inl (some (.int r))) h' :=
  jw_con false (plainFor_of_name (by decide +kernel)) (fun z => nomatch z) (by simp [jw_ent, jw_sl0_nil, jw_sl0_int, jw_sl0_long, jw_sl0_ref, jw_sl0_rf, jw_sl0_scr, List.replicate]) (by simp [jw_sl0_nil, jw_sl0_int, jw_sl0_long, jw_sl0_ref, jw_sl0_rf, jw_sl0_scr]) (l_X11_fault hq)


/-! X11_patternFault -/
noncomputable def f_X11_patternFault (h : jw_H) (x0 : Nat) : Option (Int32 × jw_H) :=
 (jw_gR h 11 (some x0) 5).bind fun v1 =>
 (jw_gR h 11 (some x0) 0).bind fun v2 =>
 (jw_gI h 11 (some x0) 12).bind fun v3 =>
 (jw_rc h 6 v1).bind fun a4 =>
 jw_b2 (f_X6_readTapePattern h a4 v2 v3) fun w6 h5 =>
 some (w6, h5)

set_option maxRecDepth 100000 in
set_option maxHeartbeats 4000000 in
theorem l_X11_patternFault {hi : jw_H} {h : jw_H} {x0 : Nat} {r : Int32} {h' : jw_H} (hq : f_X11_patternFault  h x0 = some (r, h')) : jw_E 4 uX11_patternFault hi 0 [some (.ref x0)] [] h (.inl (some (.int r))) h' := by
  unfold f_X11_patternFault at hq
  refine jw_aload_n dX11_patternFault_0 (o := (some x0)) rfl ?_
  obtain ⟨v1, ev1, hq⟩ := Option.bind_eq_some_iff.mp hq
  refine jw_getR (o := (some x0)) dX11_patternFault_1 ev1 fl_X11_31 rfl ?_
  refine jw_aload_n dX11_patternFault_4 (o := (some x0)) rfl ?_
  obtain ⟨v2, ev2, hq⟩ := Option.bind_eq_some_iff.mp hq
  refine jw_getR (o := (some x0)) dX11_patternFault_5 ev2 fl_X11_9 rfl ?_
  refine jw_aload_n dX11_patternFault_8 (o := (some x0)) rfl ?_
  obtain ⟨v3, ev3, hq⟩ := Option.bind_eq_some_iff.mp hq
  refine jw_getI (o := (some x0)) dX11_patternFault_9 ev3 fl_X11_95 rfl ?_
  obtain ⟨a4, ea4, hq⟩ := Option.bind_eq_some_iff.mp hq
  obtain ⟨eoa4, eta4⟩ := jw_rc_spec ea4
  obtain ⟨w6, h5, ew6, hq⟩ := jw_b2_spec hq
  refine jw_callV (As := [va_rf v2, .int v3]) (S := []) (a := a4) (v := some (.int w6)) dX11_patternFault_12 mt_X6_readTapePattern in_X6_readTapePattern se_X6_readTapePattern lk_X11_108 (c_X6_readTapePattern ew6) eta4 (by decide) rfl rfl (by decide) (Nat.le_of_ble_eq_true rfl) (by cases eoa4; rfl) ?_
  cases hq
  exact jw_iret (ty := .int) dX11_patternFault_15 rfl rfl

theorem c_X11_patternFault {h : jw_H} {x0 : Nat} {r : Int32} {h' : jw_H} (hq : f_X11_patternFault h x0 = some (r, h')) : jw_Con (Cond.code yX11_patternFault cX11_patternFault 1 (some .int)) yX11_patternFault 4 [.ref x0] h (.inl (some (.int r))) h' :=
  jw_con false (plainFor_of_name (by decide +kernel)) (fun z => nomatch z) (by simp [jw_ent, jw_sl0_nil, jw_sl0_int, jw_sl0_long, jw_sl0_ref, jw_sl0_rf, jw_sl0_scr, List.replicate]) (by simp [jw_sl0_nil, jw_sl0_int, jw_sl0_long, jw_sl0_ref, jw_sl0_rf, jw_sl0_scr]) (l_X11_patternFault hq)


/-! X11_run -/
noncomputable def f_X11_run (h : jw_H) (x0 : Nat) : Option ((Int32 ⊕ String) × jw_H) :=
 (jw_gR h 11 (some x0) 5).bind fun v1 =>
 (jw_gR h 11 (some x0) 0).bind fun v2 =>
 (jw_gI h 11 (some x0) 12).bind fun v3 =>
 (jw_rc h 6 v1).bind fun a4 =>
 jw_b2 (f_X6_readOrders h a4 v2 v3) fun w6 h5 =>
 if w6 = (-1 : Int32) then ((jw_gI h5 11 (some x0) 13).bind fun v8 =>
 (jw_pI h5 11 (some x0) 13 (v8 + (1 : Int32))).bind fun h9 =>
 (jw_gR h9 11 (some x0) 9).bind fun v10 =>
 (jw_gI h9 11 (some x0) 13).bind fun v11 =>
 (jw_rc h9 10 v10).bind fun a12 =>
 jw_b2 (f_X10_perform h9 a12 v11) fun w14 h13 =>
 (jw_gR h13 11 (some x0) 9).bind fun v15 =>
 (jw_gI h13 10 v15 16).bind fun v16 =>
 (jw_pI h13 11 (some x0) 14 v16).bind fun h17 =>
 some (Sum.inl w14, h17))
 else (some (Sum.inr "java/lang/IllegalStateException", jw_thw h5))

set_option maxRecDepth 100000 in
set_option maxHeartbeats 4000000 in
theorem l_X11_run {hi : jw_H} {h : jw_H} {x0 : Nat} {r : Int32 ⊕ String} {h' : jw_H} (hq : f_X11_run  h x0 = some (r, h')) : jw_E 13 uX11_run hi 0 [some (.ref x0), none] [] h (jw_res r) h' := by
  unfold f_X11_run at hq
  refine jw_aload_n dX11_run_0 (o := (some x0)) rfl ?_
  obtain ⟨v1, ev1, hq⟩ := Option.bind_eq_some_iff.mp hq
  refine jw_getR (o := (some x0)) dX11_run_1 ev1 fl_X11_31 rfl ?_
  refine jw_aload_n dX11_run_4 (o := (some x0)) rfl ?_
  obtain ⟨v2, ev2, hq⟩ := Option.bind_eq_some_iff.mp hq
  refine jw_getR (o := (some x0)) dX11_run_5 ev2 fl_X11_9 rfl ?_
  refine jw_aload_n dX11_run_8 (o := (some x0)) rfl ?_
  obtain ⟨v3, ev3, hq⟩ := Option.bind_eq_some_iff.mp hq
  refine jw_getI (o := (some x0)) dX11_run_9 ev3 fl_X11_95 rfl ?_
  obtain ⟨a4, ea4, hq⟩ := Option.bind_eq_some_iff.mp hq
  obtain ⟨eoa4, eta4⟩ := jw_rc_spec ea4
  obtain ⟨w6, h5, ew6, hq⟩ := jw_b2_spec hq
  refine jw_callV (As := [va_rf v2, .int v3]) (S := []) (a := a4) (v := some (.int w6)) dX11_run_12 mt_X6_readOrders in_X6_readOrders se_X6_readOrders lk_X11_104 (c_X6_readOrders ew6) eta4 (by decide) rfl rfl (by decide) (Nat.le_of_ble_eq_true rfl) (by cases eoa4; rfl) ?_
  refine jw_iconst dX11_run_15 (v := (-1 : Int32)) (by decide) ?_
  rcases jw_if hq with ⟨c7, hq⟩ | ⟨c7, hq⟩
  · refine jw_icmp_eq_t (tgt := 29) dX11_run_16 (by decide) c7 ?_
    refine jw_aload_n dX11_run_29 (o := (some x0)) rfl ?_
    refine jw_dup dX11_run_30 rfl ?_
    obtain ⟨v8, ev8, hq⟩ := Option.bind_eq_some_iff.mp hq
    refine jw_getI (o := (some x0)) dX11_run_31 ev8 fl_X11_113 rfl ?_
    refine jw_iconst dX11_run_34 (v := (1 : Int32)) (by decide) ?_
    refine jw_iadd dX11_run_35 ?_
    obtain ⟨h9, eh9, hq⟩ := Option.bind_eq_some_iff.mp hq
    refine jw_putI (o := (some x0)) dX11_run_36 eh9 fl_X11_113 rfl rfl ?_
    refine jw_aload_n dX11_run_39 (o := (some x0)) rfl ?_
    obtain ⟨v10, ev10, hq⟩ := Option.bind_eq_some_iff.mp hq
    refine jw_getR (o := (some x0)) dX11_run_40 ev10 fl_X11_75 rfl ?_
    refine jw_aload_n dX11_run_43 (o := (some x0)) rfl ?_
    obtain ⟨v11, ev11, hq⟩ := Option.bind_eq_some_iff.mp hq
    refine jw_getI (o := (some x0)) dX11_run_44 ev11 fl_X11_113 rfl ?_
    obtain ⟨a12, ea12, hq⟩ := Option.bind_eq_some_iff.mp hq
    obtain ⟨eoa12, eta12⟩ := jw_rc_spec ea12
    obtain ⟨w14, h13, ew14, hq⟩ := jw_b2_spec hq
    refine jw_callV (As := [.int v11]) (S := []) (a := a12) (v := some (.int w14)) dX11_run_47 mt_X10_perform in_X10_perform se_X10_perform lk_X11_116 (c_X10_perform ew14) eta12 (by decide) rfl rfl (by decide) (Nat.le_of_ble_eq_true rfl) (by cases eoa12; rfl) ?_
    refine jw_istore_n (L' := [some (.ref x0), some (.int w14)]) dX11_run_50 (Nat.le_of_ble_eq_true rfl) rfl ?_
    refine jw_aload_n dX11_run_51 (o := (some x0)) rfl ?_
    refine jw_aload_n dX11_run_52 (o := (some x0)) rfl ?_
    obtain ⟨v15, ev15, hq⟩ := Option.bind_eq_some_iff.mp hq
    refine jw_getR (o := (some x0)) dX11_run_53 ev15 fl_X11_75 rfl ?_
    obtain ⟨v16, ev16, hq⟩ := Option.bind_eq_some_iff.mp hq
    refine jw_getI (o := v15) dX11_run_56 ev16 fl_X11_120 rfl ?_
    obtain ⟨h17, eh17, hq⟩ := Option.bind_eq_some_iff.mp hq
    refine jw_putI (o := (some x0)) dX11_run_59 eh17 fl_X11_123 rfl rfl ?_
    refine jw_iload_n dX11_run_62 rfl ?_
    cases hq
    exact jw_iret (ty := .int) dX11_run_63 rfl rfl
  · refine jw_icmp_eq_f (tgt := 29) dX11_run_16 (by decide) c7 ?_
    cases hq
    exact jw_throw th_X11_run_19 (Nat.le_of_ble_eq_true rfl) (Nat.le_of_ble_eq_true rfl)

theorem c_X11_run {h : jw_H} {x0 : Nat} {r : Int32 ⊕ String} {h' : jw_H} (hq : f_X11_run h x0 = some (r, h')) : jw_Con (Cond.code yX11_run cX11_run 2 (some .int)) yX11_run 13 [.ref x0] h (jw_res r) h' :=
  jw_con false (plainFor_of_name (by decide +kernel)) (fun z => nomatch z) (by simp [jw_ent, jw_sl0_nil, jw_sl0_int, jw_sl0_long, jw_sl0_ref, jw_sl0_rf, jw_sl0_scr, List.replicate]) (by simp [jw_sl0_nil, jw_sl0_int, jw_sl0_long, jw_sl0_ref, jw_sl0_rf, jw_sl0_scr]) (l_X11_run hq)


/-! X11_isNoScript -/
noncomputable def g_X11_isNoScript_b14 (h : jw_H) (t0 : Int32) : Option (Int32 × jw_H) :=
 (jw_rb t0).bind fun v1 =>
 some (t0, h)

noncomputable def g_X11_isNoScript_b9 (h : jw_H)  : Option (Int32 × jw_H) :=
 g_X11_isNoScript_b14  h (1 : Int32)

noncomputable def f_X11_isNoScript (h : jw_H) (x0 : Nat) (x1 : Int32) : Option (Int32 × jw_H) :=
 if x1 < 0 then (g_X11_isNoScript_b9  h )
 else (if x1 < (4 : Int32) then (g_X11_isNoScript_b14  h (0 : Int32))
 else (g_X11_isNoScript_b9  h ))

set_option maxRecDepth 100000 in
set_option maxHeartbeats 4000000 in
theorem l_X11_isNoScript_b14 {hi : jw_H} {h : jw_H} {t0 : Int32} {r : Int32} {h' : jw_H} (hq : g_X11_isNoScript_b14  h t0 = some (r, h')) : jw_E 0 uX11_isNoScript hi 14 [none, none] [.int t0] h (.inl (some (.int r))) h' := by
  unfold g_X11_isNoScript_b14 at hq
  obtain ⟨v1, ev1, hq⟩ := Option.bind_eq_some_iff.mp hq
  cases hq
  exact jw_iret (ty := .boolean) dX11_isNoScript_14 rfl (jw_rb_spec ev1)

set_option maxRecDepth 100000 in
set_option maxHeartbeats 4000000 in
theorem l_X11_isNoScript_b9 {hi : jw_H} {h : jw_H}  {r : Int32} {h' : jw_H} (hq : g_X11_isNoScript_b9  h  = some (r, h')) : jw_E 0 uX11_isNoScript hi 9 [none, none] [] h (.inl (some (.int r))) h' := by
  unfold g_X11_isNoScript_b9 at hq
  refine jw_iconst dX11_isNoScript_9 (v := (1 : Int32)) (by decide) ?_
  refine jw_goto (tgt := 14) dX11_isNoScript_10 (by decide) ?_
  exact l_X11_isNoScript_b14  hq

set_option maxRecDepth 100000 in
set_option maxHeartbeats 4000000 in
theorem l_X11_isNoScript {hi : jw_H} {h : jw_H} {x0 : Nat} {x1 : Int32} {r : Int32} {h' : jw_H} (hq : f_X11_isNoScript  h x0 x1 = some (r, h')) : jw_E 0 uX11_isNoScript hi 0 [some (.ref x0), some (.int x1)] [] h (.inl (some (.int r))) h' := by
  unfold f_X11_isNoScript at hq
  refine jw_iload_n dX11_isNoScript_0 rfl ?_
  rcases jw_if hq with ⟨c1, hq⟩ | ⟨c1, hq⟩
  · refine jw_if_lt_t (tgt := 9) dX11_isNoScript_1 (by decide) c1 ?_
    refine jw_forget [false, false] (L' := [none, none]) rfl ?_
    exact l_X11_isNoScript_b9  hq
  · refine jw_if_lt_f (tgt := 9) dX11_isNoScript_1 (by decide) c1 ?_
    refine jw_iload_n dX11_isNoScript_4 rfl ?_
    refine jw_iconst dX11_isNoScript_5 (v := (4 : Int32)) (by decide) ?_
    rcases jw_if hq with ⟨c2, hq⟩ | ⟨c2, hq⟩
    · refine jw_icmp_lt_t (tgt := 13) dX11_isNoScript_6 (by decide) c2 ?_
      refine jw_iconst dX11_isNoScript_13 (v := (0 : Int32)) (by decide) ?_
      refine jw_forget [false, false] (L' := [none, none]) rfl ?_
      exact l_X11_isNoScript_b14  hq
    · refine jw_icmp_lt_f (tgt := 13) dX11_isNoScript_6 (by decide) c2 ?_
      refine jw_forget [false, false] (L' := [none, none]) rfl ?_
      exact l_X11_isNoScript_b9  hq

theorem c_X11_isNoScript {h : jw_H} {x0 : Nat} {x1 : Int32} {r : Int32} {h' : jw_H} (hq : f_X11_isNoScript h x0 x1 = some (r, h')) : jw_Con (Cond.code yX11_isNoScript cX11_isNoScript 2 (some .boolean)) yX11_isNoScript 0 [.ref x0, .int x1] h (.inl (some (.int r))) h' :=
  jw_con false (plainFor_of_name (by decide +kernel)) (fun z => nomatch z) (by simp [jw_ent, jw_sl0_nil, jw_sl0_int, jw_sl0_long, jw_sl0_ref, jw_sl0_rf, jw_sl0_scr, List.replicate]) (by simp [jw_sl0_nil, jw_sl0_int, jw_sl0_long, jw_sl0_ref, jw_sl0_rf, jw_sl0_scr]) (l_X11_isNoScript hq)


/-! X11_keep -/
noncomputable def g_X11_keep_b94 (h : jw_H) (x0 : Nat) (x1 : Int32) : Option ((Int32 ⊕ String) × jw_H) :=
 (jw_gR h 11 (some x0) 2).bind fun v1 =>
 (jw_gI h 11 (some x0) 12).bind fun v2 =>
 (jw_si h 20 v1 x1 v2).bind fun h3 =>
 (jw_gI h3 11 (some x0) 12).bind fun v4 =>
 some (Sum.inl v4, h3)

noncomputable def g_X11_keep_b56 (k56 : jw_H → Nat → Int32 → Option Nat → Int32 → Option ((Int32 ⊕ String) × jw_H)) (h : jw_H) (x0 : Nat) (x1 : Int32) (x2 : Option Nat) (x3 : Int32) : Option ((Int32 ⊕ String) × jw_H) :=
 (jw_gI h 11 (some x0) 12).bind fun v1 =>
 if v1 ≤ x3 then (g_X11_keep_b94  h x0 x1)
 else ((jw_ln h x2).bind fun v3 =>
 if v3 ≤ x3 then (g_X11_keep_b94  h x0 x1)
 else ((jw_gR h 11 (some x0) 0).bind fun v5 =>
 (jw_ln h v5).bind fun v6 =>
 if v6 ≤ x3 then (g_X11_keep_b94  h x0 x1)
 else ((jw_gR h 11 (some x0) 0).bind fun v8 =>
 (jw_ai h 21 v8 x3).bind fun v9 =>
 (jw_si h 21 x2 x3 (vp_nar .byte v9)).bind fun h10 =>
 k56 h10 x0 x1 x2 (x3 + (1 : Int32)))))

noncomputable def f_X11_keep_b56 (n : Nat) : jw_H → Nat → Int32 → Option Nat → Int32 → Option ((Int32 ⊕ String) × jw_H) :=
 Nat.rec (fun _ _ _ _ _ => none) (fun _ k56 => g_X11_keep_b56 k56) n

noncomputable def f_X11_keep (h : jw_H) (x0 : Nat) (x1 : Int32) : Option ((Int32 ⊕ String) × jw_H) :=
 (jw_rc h 11 (some x0)).bind fun a1 =>
 jw_b2 (f_X11_isNoScript h a1 x1) fun w3 h2 =>
 if w3 = 0 then ((jw_gR h2 11 (some x0) 5).bind fun v5 =>
 (jw_gR h2 11 (some x0) 0).bind fun v6 =>
 (jw_gI h2 11 (some x0) 12).bind fun v7 =>
 (jw_rc h2 6 v5).bind fun a8 =>
 jw_b2 (f_X6_readOrders h2 a8 v6 v7) fun w10 h9 =>
 if w10 = (-1 : Int32) then ((jw_gR h9 11 (some x0) 1).bind fun v12 =>
 (jw_ar h9 24 v12 x1).bind fun v13 =>
 f_X11_keep_b56  jw_FU h9 x0 x1 v13 (0 : Int32))
 else (some (Sum.inr "java/lang/IllegalStateException", jw_thw h9)))
 else (some (Sum.inr "java/lang/IndexOutOfBoundsException", jw_thw h2))

set_option maxRecDepth 100000 in
set_option maxHeartbeats 4000000 in
theorem l_X11_keep_b94 {hi : jw_H} {h : jw_H} {x0 : Nat} {x1 : Int32} {r : Int32 ⊕ String} {h' : jw_H} (hq : g_X11_keep_b94  h x0 x1 = some (r, h')) : jw_E 8 uX11_keep hi 94 [some (.ref x0), some (.int x1), none, none] [] h (jw_res r) h' := by
  unfold g_X11_keep_b94 at hq
  refine jw_aload_n dX11_keep_94 (o := (some x0)) rfl ?_
  obtain ⟨v1, ev1, hq⟩ := Option.bind_eq_some_iff.mp hq
  refine jw_getR (o := (some x0)) dX11_keep_95 ev1 fl_X11_18 rfl ?_
  refine jw_iload_n dX11_keep_98 rfl ?_
  refine jw_aload_n dX11_keep_99 (o := (some x0)) rfl ?_
  obtain ⟨v2, ev2, hq⟩ := Option.bind_eq_some_iff.mp hq
  refine jw_getI (o := (some x0)) dX11_keep_100 ev2 fl_X11_95 rfl ?_
  obtain ⟨h3, eh3, hq⟩ := Option.bind_eq_some_iff.mp hq
  refine jw_iast (o := v1) dX11_keep_103 eh3 ?_
  refine jw_aload_n dX11_keep_104 (o := (some x0)) rfl ?_
  obtain ⟨v4, ev4, hq⟩ := Option.bind_eq_some_iff.mp hq
  refine jw_getI (o := (some x0)) dX11_keep_105 ev4 fl_X11_95 rfl ?_
  cases hq
  exact jw_iret (ty := .int) dX11_keep_108 rfl rfl

set_option maxRecDepth 100000 in
set_option maxHeartbeats 4000000 in
theorem l_X11_keep_b56g {hi : jw_H} {k56 : jw_H → Nat → Int32 → Option Nat → Int32 → Option ((Int32 ⊕ String) × jw_H)} (hk56 : ∀ (h : jw_H) (x0 : Nat) (x1 : Int32) (x2 : Option Nat) (x3 : Int32) (r : Int32 ⊕ String) (h' : jw_H), k56 h x0 x1 x2 x3 = some (r, h') → jw_E 8 uX11_keep hi 56 [some (.ref x0), some (.int x1), some (va_rf x2), some (.int x3)] [] h (jw_res r) h') {h : jw_H} {x0 : Nat} {x1 : Int32} {x2 : Option Nat} {x3 : Int32} {r : Int32 ⊕ String} {h' : jw_H} (hq : g_X11_keep_b56 k56 h x0 x1 x2 x3 = some (r, h')) : jw_E 8 uX11_keep hi 56 [some (.ref x0), some (.int x1), some (va_rf x2), some (.int x3)] [] h (jw_res r) h' := by
  unfold g_X11_keep_b56 at hq
  refine jw_iload_n dX11_keep_56 rfl ?_
  refine jw_aload_n dX11_keep_57 (o := (some x0)) rfl ?_
  obtain ⟨v1, ev1, hq⟩ := Option.bind_eq_some_iff.mp hq
  refine jw_getI (o := (some x0)) dX11_keep_58 ev1 fl_X11_95 rfl ?_
  rcases jw_if hq with ⟨c2, hq⟩ | ⟨c2, hq⟩
  · refine jw_icmp_ge_t (tgt := 94) dX11_keep_61 (by decide) c2 ?_
    refine jw_forget [true, true, false, false] (L' := [some (.ref x0), some (.int x1), none, none]) rfl ?_
    exact l_X11_keep_b94  hq
  · refine jw_icmp_ge_f (tgt := 94) dX11_keep_61 (by decide) c2 ?_
    refine jw_iload_n dX11_keep_64 rfl ?_
    refine jw_aload_n dX11_keep_65 (o := x2) rfl ?_
    obtain ⟨v3, ev3, hq⟩ := Option.bind_eq_some_iff.mp hq
    refine jw_alen (o := x2) dX11_keep_66 ev3 ?_
    rcases jw_if hq with ⟨c4, hq⟩ | ⟨c4, hq⟩
    · refine jw_icmp_ge_t (tgt := 94) dX11_keep_67 (by decide) c4 ?_
      refine jw_forget [true, true, false, false] (L' := [some (.ref x0), some (.int x1), none, none]) rfl ?_
      exact l_X11_keep_b94  hq
    · refine jw_icmp_ge_f (tgt := 94) dX11_keep_67 (by decide) c4 ?_
      refine jw_iload_n dX11_keep_70 rfl ?_
      refine jw_aload_n dX11_keep_71 (o := (some x0)) rfl ?_
      obtain ⟨v5, ev5, hq⟩ := Option.bind_eq_some_iff.mp hq
      refine jw_getR (o := (some x0)) dX11_keep_72 ev5 fl_X11_9 rfl ?_
      obtain ⟨v6, ev6, hq⟩ := Option.bind_eq_some_iff.mp hq
      refine jw_alen (o := v5) dX11_keep_75 ev6 ?_
      rcases jw_if hq with ⟨c7, hq⟩ | ⟨c7, hq⟩
      · refine jw_icmp_ge_t (tgt := 94) dX11_keep_76 (by decide) c7 ?_
        refine jw_forget [true, true, false, false] (L' := [some (.ref x0), some (.int x1), none, none]) rfl ?_
        exact l_X11_keep_b94  hq
      · refine jw_icmp_ge_f (tgt := 94) dX11_keep_76 (by decide) c7 ?_
        refine jw_aload_n dX11_keep_79 (o := x2) rfl ?_
        refine jw_iload_n dX11_keep_80 rfl ?_
        refine jw_aload_n dX11_keep_81 (o := (some x0)) rfl ?_
        obtain ⟨v8, ev8, hq⟩ := Option.bind_eq_some_iff.mp hq
        refine jw_getR (o := (some x0)) dX11_keep_82 ev8 fl_X11_9 rfl ?_
        refine jw_iload_n dX11_keep_85 rfl ?_
        obtain ⟨v9, ev9, hq⟩ := Option.bind_eq_some_iff.mp hq
        refine jw_bald (o := v8) dX11_keep_86 ev9 ?_
        obtain ⟨h10, eh10, hq⟩ := Option.bind_eq_some_iff.mp hq
        refine jw_bast (o := x2) rfl dX11_keep_87 eh10 ?_
        refine jw_iinc (L' := [some (.ref x0), some (.int x1), some (va_rf x2), some (.int (x3 + (1 : Int32)))]) dX11_keep_88 rfl (v := (1 : Int32)) (by decide) (Nat.le_of_ble_eq_true rfl) ((jw_st1_of (j := 2) jw_long_rf).trans rfl) ?_
        refine jw_goto (tgt := 56) dX11_keep_91 (by decide) ?_
        exact hk56 _ _ _ _ _ _ _ hq

theorem l_X11_keep_b56 {hi : jw_H} : ∀ (n : Nat) (h : jw_H) (x0 : Nat) (x1 : Int32) (x2 : Option Nat) (x3 : Int32) (r : Int32 ⊕ String) (h' : jw_H), f_X11_keep_b56  n h x0 x1 x2 x3 = some (r, h') → jw_E 8 uX11_keep hi 56 [some (.ref x0), some (.int x1), some (va_rf x2), some (.int x3)] [] h (jw_res r) h' := by
  intro n
  induction n with
  | zero => intro h x0 x1 x2 x3 r h' hq; exact nomatch hq
  | succ n ih => intro h x0 x1 x2 x3 r h' hq; exact l_X11_keep_b56g ih hq

set_option maxRecDepth 100000 in
set_option maxHeartbeats 4000000 in
theorem l_X11_keep {hi : jw_H} {h : jw_H} {x0 : Nat} {x1 : Int32} {r : Int32 ⊕ String} {h' : jw_H} (hq : f_X11_keep  h x0 x1 = some (r, h')) : jw_E 8 uX11_keep hi 0 [some (.ref x0), some (.int x1), none, none] [] h (jw_res r) h' := by
  unfold f_X11_keep at hq
  refine jw_aload_n dX11_keep_0 (o := (some x0)) rfl ?_
  refine jw_iload_n dX11_keep_1 rfl ?_
  obtain ⟨a1, ea1, hq⟩ := Option.bind_eq_some_iff.mp hq
  obtain ⟨eoa1, eta1⟩ := jw_rc_spec ea1
  obtain ⟨w3, h2, ew3, hq⟩ := jw_b2_spec hq
  refine jw_callV (As := [.int x1]) (S := []) (a := a1) (v := some (.int w3)) dX11_keep_2 mt_X11_isNoScript in_X11_isNoScript se_X11_isNoScript lk_X11_126 (c_X11_isNoScript ew3) eta1 (by decide) rfl rfl (by decide) (Nat.le_of_ble_eq_true rfl) (by cases eoa1; rfl) ?_
  rcases jw_if hq with ⟨c4, hq⟩ | ⟨c4, hq⟩
  · refine jw_if_eq_t (tgt := 18) dX11_keep_5 (by decide) c4 ?_
    refine jw_aload_n dX11_keep_18 (o := (some x0)) rfl ?_
    obtain ⟨v5, ev5, hq⟩ := Option.bind_eq_some_iff.mp hq
    refine jw_getR (o := (some x0)) dX11_keep_19 ev5 fl_X11_31 rfl ?_
    refine jw_aload_n dX11_keep_22 (o := (some x0)) rfl ?_
    obtain ⟨v6, ev6, hq⟩ := Option.bind_eq_some_iff.mp hq
    refine jw_getR (o := (some x0)) dX11_keep_23 ev6 fl_X11_9 rfl ?_
    refine jw_aload_n dX11_keep_26 (o := (some x0)) rfl ?_
    obtain ⟨v7, ev7, hq⟩ := Option.bind_eq_some_iff.mp hq
    refine jw_getI (o := (some x0)) dX11_keep_27 ev7 fl_X11_95 rfl ?_
    obtain ⟨a8, ea8, hq⟩ := Option.bind_eq_some_iff.mp hq
    obtain ⟨eoa8, eta8⟩ := jw_rc_spec ea8
    obtain ⟨w10, h9, ew10, hq⟩ := jw_b2_spec hq
    refine jw_callV (As := [va_rf v6, .int v7]) (S := []) (a := a8) (v := some (.int w10)) dX11_keep_30 mt_X6_readOrders in_X6_readOrders se_X6_readOrders lk_X11_104 (c_X6_readOrders ew10) eta8 (by decide) rfl rfl (by decide) (Nat.le_of_ble_eq_true rfl) (by cases eoa8; rfl) ?_
    refine jw_iconst dX11_keep_33 (v := (-1 : Int32)) (by decide) ?_
    rcases jw_if hq with ⟨c11, hq⟩ | ⟨c11, hq⟩
    · refine jw_icmp_eq_t (tgt := 47) dX11_keep_34 (by decide) c11 ?_
      refine jw_aload_n dX11_keep_47 (o := (some x0)) rfl ?_
      obtain ⟨v12, ev12, hq⟩ := Option.bind_eq_some_iff.mp hq
      refine jw_getR (o := (some x0)) dX11_keep_48 ev12 fl_X11_15 rfl ?_
      refine jw_iload_n dX11_keep_51 rfl ?_
      obtain ⟨v13, ev13, hq⟩ := Option.bind_eq_some_iff.mp hq
      refine jw_aald2 (o := v12) dX11_keep_52 ev13 ?_
      refine jw_astore_n (o := v13) (L' := [some (.ref x0), some (.int x1), some (va_rf v13), none]) dX11_keep_53 (Nat.le_of_ble_eq_true rfl) rfl ?_
      refine jw_iconst dX11_keep_54 (v := (0 : Int32)) (by decide) ?_
      refine jw_istore_n (L' := [some (.ref x0), some (.int x1), some (va_rf v13), some (.int (0 : Int32))]) dX11_keep_55 (Nat.le_of_ble_eq_true rfl) ((jw_st1_of (j := 2) jw_long_rf).trans rfl) ?_
      exact l_X11_keep_b56  jw_FU _ _ _ _ _ _ _ hq
    · refine jw_icmp_eq_f (tgt := 47) dX11_keep_34 (by decide) c11 ?_
      cases hq
      exact jw_throw th_X11_keep_37 (Nat.le_of_ble_eq_true rfl) (Nat.le_of_ble_eq_true rfl)
  · refine jw_if_eq_f (tgt := 18) dX11_keep_5 (by decide) c4 ?_
    cases hq
    exact jw_throw th_X11_keep_8 (Nat.le_of_ble_eq_true rfl) (Nat.le_of_ble_eq_true rfl)

theorem c_X11_keep {h : jw_H} {x0 : Nat} {x1 : Int32} {r : Int32 ⊕ String} {h' : jw_H} (hq : f_X11_keep h x0 x1 = some (r, h')) : jw_Con (Cond.code yX11_keep cX11_keep 4 (some .int)) yX11_keep 8 [.ref x0, .int x1] h (jw_res r) h' :=
  jw_con false (plainFor_of_name (by decide +kernel)) (fun z => nomatch z) (by simp [jw_ent, jw_sl0_nil, jw_sl0_int, jw_sl0_long, jw_sl0_ref, jw_sl0_rf, jw_sl0_scr, List.replicate]) (by simp [jw_sl0_nil, jw_sl0_int, jw_sl0_long, jw_sl0_ref, jw_sl0_rf, jw_sl0_scr]) (l_X11_keep hq)


/-! X11_play -/
noncomputable def f_X11_play (h : jw_H) (x0 : Nat) (x1 : Int32) : Option ((Int32 ⊕ String) × jw_H) :=
 (jw_rc h 11 (some x0)).bind fun a1 =>
 jw_b2 (f_X11_isNoScript h a1 x1) fun w3 h2 =>
 if w3 = 0 then ((jw_gR h2 11 (some x0) 2).bind fun v5 =>
 (jw_ai h2 20 v5 x1).bind fun v6 =>
 if v6 = (-1 : Int32) then (some (Sum.inr "java/lang/IllegalStateException", jw_thw h2))
 else ((jw_gR h2 11 (some x0) 5).bind fun v8 =>
 (jw_gR h2 11 (some x0) 1).bind fun v9 =>
 (jw_ar h2 24 v9 x1).bind fun v10 =>
 (jw_gR h2 11 (some x0) 2).bind fun v11 =>
 (jw_ai h2 20 v11 x1).bind fun v12 =>
 (jw_rc h2 6 v8).bind fun a13 =>
 jw_b2 (f_X6_readOrders h2 a13 v10 v12) fun w15 h14 =>
 (jw_gI h14 11 (some x0) 13).bind fun v16 =>
 (jw_pI h14 11 (some x0) 13 (v16 + (1 : Int32))).bind fun h17 =>
 (jw_gR h17 11 (some x0) 9).bind fun v18 =>
 (jw_gI h17 11 (some x0) 13).bind fun v19 =>
 (jw_rc h17 10 v18).bind fun a20 =>
 jw_b2 (f_X10_perform h17 a20 v19) fun w22 h21 =>
 (jw_gR h21 11 (some x0) 9).bind fun v23 =>
 (jw_gI h21 10 v23 16).bind fun v24 =>
 (jw_pI h21 11 (some x0) 14 v24).bind fun h25 =>
 some (Sum.inl w22, h25)))
 else (some (Sum.inr "java/lang/IndexOutOfBoundsException", jw_thw h2))

set_option maxRecDepth 100000 in
set_option maxHeartbeats 4000000 in
theorem l_X11_play {hi : jw_H} {h : jw_H} {x0 : Nat} {x1 : Int32} {r : Int32 ⊕ String} {h' : jw_H} (hq : f_X11_play  h x0 x1 = some (r, h')) : jw_E 13 uX11_play hi 0 [some (.ref x0), some (.int x1), none] [] h (jw_res r) h' := by
  unfold f_X11_play at hq
  refine jw_aload_n dX11_play_0 (o := (some x0)) rfl ?_
  refine jw_iload_n dX11_play_1 rfl ?_
  obtain ⟨a1, ea1, hq⟩ := Option.bind_eq_some_iff.mp hq
  obtain ⟨eoa1, eta1⟩ := jw_rc_spec ea1
  obtain ⟨w3, h2, ew3, hq⟩ := jw_b2_spec hq
  refine jw_callV (As := [.int x1]) (S := []) (a := a1) (v := some (.int w3)) dX11_play_2 mt_X11_isNoScript in_X11_isNoScript se_X11_isNoScript lk_X11_126 (c_X11_isNoScript ew3) eta1 (by decide) rfl rfl (by decide) (Nat.le_of_ble_eq_true rfl) (by cases eoa1; rfl) ?_
  rcases jw_if hq with ⟨c4, hq⟩ | ⟨c4, hq⟩
  · refine jw_if_eq_t (tgt := 18) dX11_play_5 (by decide) c4 ?_
    refine jw_aload_n dX11_play_18 (o := (some x0)) rfl ?_
    obtain ⟨v5, ev5, hq⟩ := Option.bind_eq_some_iff.mp hq
    refine jw_getR (o := (some x0)) dX11_play_19 ev5 fl_X11_18 rfl ?_
    refine jw_iload_n dX11_play_22 rfl ?_
    obtain ⟨v6, ev6, hq⟩ := Option.bind_eq_some_iff.mp hq
    refine jw_iald (o := v5) dX11_play_23 ev6 ?_
    refine jw_iconst dX11_play_24 (v := (-1 : Int32)) (by decide) ?_
    rcases jw_if hq with ⟨c7, hq⟩ | ⟨c7, hq⟩
    · refine jw_icmp_ne_f (tgt := 38) dX11_play_25 (by decide) c7 ?_
      cases hq
      exact jw_throw th_X11_play_28 (Nat.le_of_ble_eq_true rfl) (Nat.le_of_ble_eq_true rfl)
    · refine jw_icmp_ne_t (tgt := 38) dX11_play_25 (by decide) c7 ?_
      refine jw_aload_n dX11_play_38 (o := (some x0)) rfl ?_
      obtain ⟨v8, ev8, hq⟩ := Option.bind_eq_some_iff.mp hq
      refine jw_getR (o := (some x0)) dX11_play_39 ev8 fl_X11_31 rfl ?_
      refine jw_aload_n dX11_play_42 (o := (some x0)) rfl ?_
      obtain ⟨v9, ev9, hq⟩ := Option.bind_eq_some_iff.mp hq
      refine jw_getR (o := (some x0)) dX11_play_43 ev9 fl_X11_15 rfl ?_
      refine jw_iload_n dX11_play_46 rfl ?_
      obtain ⟨v10, ev10, hq⟩ := Option.bind_eq_some_iff.mp hq
      refine jw_aald2 (o := v9) dX11_play_47 ev10 ?_
      refine jw_aload_n dX11_play_48 (o := (some x0)) rfl ?_
      obtain ⟨v11, ev11, hq⟩ := Option.bind_eq_some_iff.mp hq
      refine jw_getR (o := (some x0)) dX11_play_49 ev11 fl_X11_18 rfl ?_
      refine jw_iload_n dX11_play_52 rfl ?_
      obtain ⟨v12, ev12, hq⟩ := Option.bind_eq_some_iff.mp hq
      refine jw_iald (o := v11) dX11_play_53 ev12 ?_
      obtain ⟨a13, ea13, hq⟩ := Option.bind_eq_some_iff.mp hq
      obtain ⟨eoa13, eta13⟩ := jw_rc_spec ea13
      obtain ⟨w15, h14, ew15, hq⟩ := jw_b2_spec hq
      refine jw_callV (As := [va_rf v10, .int v12]) (S := []) (a := a13) (v := some (.int w15)) dX11_play_54 mt_X6_readOrders in_X6_readOrders se_X6_readOrders lk_X11_104 (c_X6_readOrders ew15) eta13 (by decide) rfl rfl (by decide) (Nat.le_of_ble_eq_true rfl) (by cases eoa13; rfl) ?_
      refine jw_pop dX11_play_57 rfl ?_
      refine jw_aload_n dX11_play_58 (o := (some x0)) rfl ?_
      refine jw_dup dX11_play_59 rfl ?_
      obtain ⟨v16, ev16, hq⟩ := Option.bind_eq_some_iff.mp hq
      refine jw_getI (o := (some x0)) dX11_play_60 ev16 fl_X11_113 rfl ?_
      refine jw_iconst dX11_play_63 (v := (1 : Int32)) (by decide) ?_
      refine jw_iadd dX11_play_64 ?_
      obtain ⟨h17, eh17, hq⟩ := Option.bind_eq_some_iff.mp hq
      refine jw_putI (o := (some x0)) dX11_play_65 eh17 fl_X11_113 rfl rfl ?_
      refine jw_aload_n dX11_play_68 (o := (some x0)) rfl ?_
      obtain ⟨v18, ev18, hq⟩ := Option.bind_eq_some_iff.mp hq
      refine jw_getR (o := (some x0)) dX11_play_69 ev18 fl_X11_75 rfl ?_
      refine jw_aload_n dX11_play_72 (o := (some x0)) rfl ?_
      obtain ⟨v19, ev19, hq⟩ := Option.bind_eq_some_iff.mp hq
      refine jw_getI (o := (some x0)) dX11_play_73 ev19 fl_X11_113 rfl ?_
      obtain ⟨a20, ea20, hq⟩ := Option.bind_eq_some_iff.mp hq
      obtain ⟨eoa20, eta20⟩ := jw_rc_spec ea20
      obtain ⟨w22, h21, ew22, hq⟩ := jw_b2_spec hq
      refine jw_callV (As := [.int v19]) (S := []) (a := a20) (v := some (.int w22)) dX11_play_76 mt_X10_perform in_X10_perform se_X10_perform lk_X11_116 (c_X10_perform ew22) eta20 (by decide) rfl rfl (by decide) (Nat.le_of_ble_eq_true rfl) (by cases eoa20; rfl) ?_
      refine jw_istore_n (L' := [some (.ref x0), some (.int x1), some (.int w22)]) dX11_play_79 (Nat.le_of_ble_eq_true rfl) rfl ?_
      refine jw_aload_n dX11_play_80 (o := (some x0)) rfl ?_
      refine jw_aload_n dX11_play_81 (o := (some x0)) rfl ?_
      obtain ⟨v23, ev23, hq⟩ := Option.bind_eq_some_iff.mp hq
      refine jw_getR (o := (some x0)) dX11_play_82 ev23 fl_X11_75 rfl ?_
      obtain ⟨v24, ev24, hq⟩ := Option.bind_eq_some_iff.mp hq
      refine jw_getI (o := v23) dX11_play_85 ev24 fl_X11_120 rfl ?_
      obtain ⟨h25, eh25, hq⟩ := Option.bind_eq_some_iff.mp hq
      refine jw_putI (o := (some x0)) dX11_play_88 eh25 fl_X11_123 rfl rfl ?_
      refine jw_iload_n dX11_play_91 rfl ?_
      cases hq
      exact jw_iret (ty := .int) dX11_play_92 rfl rfl
  · refine jw_if_eq_f (tgt := 18) dX11_play_5 (by decide) c4 ?_
    cases hq
    exact jw_throw th_X11_play_8 (Nat.le_of_ble_eq_true rfl) (Nat.le_of_ble_eq_true rfl)

theorem c_X11_play {h : jw_H} {x0 : Nat} {x1 : Int32} {r : Int32 ⊕ String} {h' : jw_H} (hq : f_X11_play h x0 x1 = some (r, h')) : jw_Con (Cond.code yX11_play cX11_play 3 (some .int)) yX11_play 13 [.ref x0, .int x1] h (jw_res r) h' :=
  jw_con false (plainFor_of_name (by decide +kernel)) (fun z => nomatch z) (by simp [jw_ent, jw_sl0_nil, jw_sl0_int, jw_sl0_long, jw_sl0_ref, jw_sl0_rf, jw_sl0_scr, List.replicate]) (by simp [jw_sl0_nil, jw_sl0_int, jw_sl0_long, jw_sl0_ref, jw_sl0_rf, jw_sl0_scr]) (l_X11_play hq)


/-! X11_stream -/
noncomputable def f_X11_stream (h : jw_H) (x0 : Nat) (x1 : Int32) : Option ((Int32 ⊕ String) × jw_H) :=
 (jw_rc h 11 (some x0)).bind fun a1 =>
 jw_b2 (f_X11_isNoScript h a1 x1) fun w3 h2 =>
 if w3 = 0 then ((jw_gR h2 11 (some x0) 2).bind fun v5 =>
 (jw_ai h2 20 v5 x1).bind fun v6 =>
 if v6 = (-1 : Int32) then (some (Sum.inr "java/lang/IllegalStateException", jw_thw h2))
 else ((jw_gR h2 11 (some x0) 5).bind fun v8 =>
 (jw_gR h2 11 (some x0) 1).bind fun v9 =>
 (jw_ar h2 24 v9 x1).bind fun v10 =>
 (jw_gR h2 11 (some x0) 2).bind fun v11 =>
 (jw_ai h2 20 v11 x1).bind fun v12 =>
 (jw_rc h2 6 v8).bind fun a13 =>
 jw_b2 (f_X6_readOrders h2 a13 v10 v12) fun w15 h14 =>
 (jw_gI h14 11 (some x0) 13).bind fun v16 =>
 (jw_pI h14 11 (some x0) 13 (v16 + (1 : Int32))).bind fun h17 =>
 (jw_gR h17 11 (some x0) 11).bind fun v18 =>
 (jw_gR h17 11 (some x0) 6).bind fun v19 =>
 (jw_rc h17 3 v18).bind fun a20 =>
 jw_b2 (f_X3_note h17 a20 v19) fun w22 h21 =>
 (jw_gR h21 11 (some x0) 10).bind fun v23 =>
 (jw_rc h21 1 v23).bind fun a24 =>
 jw_b2 (f_X1_perform h21 a24) fun w26 h25 =>
 (jw_gR h25 11 (some x0) 10).bind fun v27 =>
 (jw_gI h25 1 v27 15).bind fun v28 =>
 (jw_pI h25 11 (some x0) 14 v28).bind fun h29 =>
 (jw_gI h29 11 (some x0) 14).bind fun v30 =>
 if v30 = 0 then ((jw_gR h29 11 (some x0) 11).bind fun v32 =>
 (jw_gI h29 11 (some x0) 13).bind fun v33 =>
 (jw_rc h29 3 v32).bind fun a34 =>
 jw_b2 (f_X3_store h29 a34 v33) fun w36 h35 =>
 some (Sum.inl w26, h35))
 else (some (Sum.inl w26, h29))))
 else (some (Sum.inr "java/lang/IndexOutOfBoundsException", jw_thw h2))

set_option maxRecDepth 100000 in
set_option maxHeartbeats 4000000 in
theorem l_X11_stream {hi : jw_H} {h : jw_H} {x0 : Nat} {x1 : Int32} {r : Int32 ⊕ String} {h' : jw_H} (hq : f_X11_stream  h x0 x1 = some (r, h')) : jw_E 13 uX11_stream hi 0 [some (.ref x0), some (.int x1), none] [] h (jw_res r) h' := by
  unfold f_X11_stream at hq
  refine jw_aload_n dX11_stream_0 (o := (some x0)) rfl ?_
  refine jw_iload_n dX11_stream_1 rfl ?_
  obtain ⟨a1, ea1, hq⟩ := Option.bind_eq_some_iff.mp hq
  obtain ⟨eoa1, eta1⟩ := jw_rc_spec ea1
  obtain ⟨w3, h2, ew3, hq⟩ := jw_b2_spec hq
  refine jw_callV (As := [.int x1]) (S := []) (a := a1) (v := some (.int w3)) dX11_stream_2 mt_X11_isNoScript in_X11_isNoScript se_X11_isNoScript lk_X11_126 (c_X11_isNoScript ew3) eta1 (by decide) rfl rfl (by decide) (Nat.le_of_ble_eq_true rfl) (by cases eoa1; rfl) ?_
  rcases jw_if hq with ⟨c4, hq⟩ | ⟨c4, hq⟩
  · refine jw_if_eq_t (tgt := 18) dX11_stream_5 (by decide) c4 ?_
    refine jw_aload_n dX11_stream_18 (o := (some x0)) rfl ?_
    obtain ⟨v5, ev5, hq⟩ := Option.bind_eq_some_iff.mp hq
    refine jw_getR (o := (some x0)) dX11_stream_19 ev5 fl_X11_18 rfl ?_
    refine jw_iload_n dX11_stream_22 rfl ?_
    obtain ⟨v6, ev6, hq⟩ := Option.bind_eq_some_iff.mp hq
    refine jw_iald (o := v5) dX11_stream_23 ev6 ?_
    refine jw_iconst dX11_stream_24 (v := (-1 : Int32)) (by decide) ?_
    rcases jw_if hq with ⟨c7, hq⟩ | ⟨c7, hq⟩
    · refine jw_icmp_ne_f (tgt := 38) dX11_stream_25 (by decide) c7 ?_
      cases hq
      exact jw_throw th_X11_stream_28 (Nat.le_of_ble_eq_true rfl) (Nat.le_of_ble_eq_true rfl)
    · refine jw_icmp_ne_t (tgt := 38) dX11_stream_25 (by decide) c7 ?_
      refine jw_aload_n dX11_stream_38 (o := (some x0)) rfl ?_
      obtain ⟨v8, ev8, hq⟩ := Option.bind_eq_some_iff.mp hq
      refine jw_getR (o := (some x0)) dX11_stream_39 ev8 fl_X11_31 rfl ?_
      refine jw_aload_n dX11_stream_42 (o := (some x0)) rfl ?_
      obtain ⟨v9, ev9, hq⟩ := Option.bind_eq_some_iff.mp hq
      refine jw_getR (o := (some x0)) dX11_stream_43 ev9 fl_X11_15 rfl ?_
      refine jw_iload_n dX11_stream_46 rfl ?_
      obtain ⟨v10, ev10, hq⟩ := Option.bind_eq_some_iff.mp hq
      refine jw_aald2 (o := v9) dX11_stream_47 ev10 ?_
      refine jw_aload_n dX11_stream_48 (o := (some x0)) rfl ?_
      obtain ⟨v11, ev11, hq⟩ := Option.bind_eq_some_iff.mp hq
      refine jw_getR (o := (some x0)) dX11_stream_49 ev11 fl_X11_18 rfl ?_
      refine jw_iload_n dX11_stream_52 rfl ?_
      obtain ⟨v12, ev12, hq⟩ := Option.bind_eq_some_iff.mp hq
      refine jw_iald (o := v11) dX11_stream_53 ev12 ?_
      obtain ⟨a13, ea13, hq⟩ := Option.bind_eq_some_iff.mp hq
      obtain ⟨eoa13, eta13⟩ := jw_rc_spec ea13
      obtain ⟨w15, h14, ew15, hq⟩ := jw_b2_spec hq
      refine jw_callV (As := [va_rf v10, .int v12]) (S := []) (a := a13) (v := some (.int w15)) dX11_stream_54 mt_X6_readOrders in_X6_readOrders se_X6_readOrders lk_X11_104 (c_X6_readOrders ew15) eta13 (by decide) rfl rfl (by decide) (Nat.le_of_ble_eq_true rfl) (by cases eoa13; rfl) ?_
      refine jw_pop dX11_stream_57 rfl ?_
      refine jw_aload_n dX11_stream_58 (o := (some x0)) rfl ?_
      refine jw_dup dX11_stream_59 rfl ?_
      obtain ⟨v16, ev16, hq⟩ := Option.bind_eq_some_iff.mp hq
      refine jw_getI (o := (some x0)) dX11_stream_60 ev16 fl_X11_113 rfl ?_
      refine jw_iconst dX11_stream_63 (v := (1 : Int32)) (by decide) ?_
      refine jw_iadd dX11_stream_64 ?_
      obtain ⟨h17, eh17, hq⟩ := Option.bind_eq_some_iff.mp hq
      refine jw_putI (o := (some x0)) dX11_stream_65 eh17 fl_X11_113 rfl rfl ?_
      refine jw_aload_n dX11_stream_68 (o := (some x0)) rfl ?_
      obtain ⟨v18, ev18, hq⟩ := Option.bind_eq_some_iff.mp hq
      refine jw_getR (o := (some x0)) dX11_stream_69 ev18 fl_X11_52 rfl ?_
      refine jw_aload_n dX11_stream_72 (o := (some x0)) rfl ?_
      obtain ⟨v19, ev19, hq⟩ := Option.bind_eq_some_iff.mp hq
      refine jw_getR (o := (some x0)) dX11_stream_73 ev19 fl_X11_38 rfl ?_
      obtain ⟨a20, ea20, hq⟩ := Option.bind_eq_some_iff.mp hq
      obtain ⟨eoa20, eta20⟩ := jw_rc_spec ea20
      obtain ⟨w22, h21, ew22, hq⟩ := jw_b2_spec hq
      refine jw_callV (As := [va_rf v19]) (S := []) (a := a20) (v := none) dX11_stream_76 mt_X3_note in_X3_note se_X3_note lk_X11_137 (c_X3_note ew22) eta20 (by decide) rfl rfl (by decide) (Nat.le_of_ble_eq_true rfl) (by cases eoa20; rfl) ?_
      refine jw_aload_n dX11_stream_79 (o := (some x0)) rfl ?_
      obtain ⟨v23, ev23, hq⟩ := Option.bind_eq_some_iff.mp hq
      refine jw_getR (o := (some x0)) dX11_stream_80 ev23 fl_X11_84 rfl ?_
      obtain ⟨a24, ea24, hq⟩ := Option.bind_eq_some_iff.mp hq
      obtain ⟨eoa24, eta24⟩ := jw_rc_spec ea24
      obtain ⟨w26, h25, ew26, hq⟩ := jw_b2_spec hq
      refine jw_callV (As := []) (S := []) (a := a24) (v := some (.int w26)) dX11_stream_83 mt_X1_perform in_X1_perform se_X1_perform lk_X11_141 (c_X1_perform ew26) eta24 (by decide) rfl rfl (by decide) (Nat.le_of_ble_eq_true rfl) (by cases eoa24; rfl) ?_
      refine jw_istore_n (L' := [some (.ref x0), some (.int x1), some (.int w26)]) dX11_stream_86 (Nat.le_of_ble_eq_true rfl) rfl ?_
      refine jw_aload_n dX11_stream_87 (o := (some x0)) rfl ?_
      refine jw_aload_n dX11_stream_88 (o := (some x0)) rfl ?_
      obtain ⟨v27, ev27, hq⟩ := Option.bind_eq_some_iff.mp hq
      refine jw_getR (o := (some x0)) dX11_stream_89 ev27 fl_X11_84 rfl ?_
      obtain ⟨v28, ev28, hq⟩ := Option.bind_eq_some_iff.mp hq
      refine jw_getI (o := v27) dX11_stream_92 ev28 fl_X11_144 rfl ?_
      obtain ⟨h29, eh29, hq⟩ := Option.bind_eq_some_iff.mp hq
      refine jw_putI (o := (some x0)) dX11_stream_95 eh29 fl_X11_123 rfl rfl ?_
      refine jw_aload_n dX11_stream_98 (o := (some x0)) rfl ?_
      obtain ⟨v30, ev30, hq⟩ := Option.bind_eq_some_iff.mp hq
      refine jw_getI (o := (some x0)) dX11_stream_99 ev30 fl_X11_123 rfl ?_
      rcases jw_if hq with ⟨c31, hq⟩ | ⟨c31, hq⟩
      · refine jw_if_ne_f (tgt := 116) dX11_stream_102 (by decide) c31 ?_
        refine jw_aload_n dX11_stream_105 (o := (some x0)) rfl ?_
        obtain ⟨v32, ev32, hq⟩ := Option.bind_eq_some_iff.mp hq
        refine jw_getR (o := (some x0)) dX11_stream_106 ev32 fl_X11_52 rfl ?_
        refine jw_aload_n dX11_stream_109 (o := (some x0)) rfl ?_
        obtain ⟨v33, ev33, hq⟩ := Option.bind_eq_some_iff.mp hq
        refine jw_getI (o := (some x0)) dX11_stream_110 ev33 fl_X11_113 rfl ?_
        obtain ⟨a34, ea34, hq⟩ := Option.bind_eq_some_iff.mp hq
        obtain ⟨eoa34, eta34⟩ := jw_rc_spec ea34
        obtain ⟨w36, h35, ew36, hq⟩ := jw_b2_spec hq
        refine jw_callV (As := [.int v33]) (S := []) (a := a34) (v := none) dX11_stream_113 mt_X3_store in_X3_store se_X3_store lk_X11_145 (c_X3_store ew36) eta34 (by decide) rfl rfl (by decide) (Nat.le_of_ble_eq_true rfl) (by cases eoa34; rfl) ?_
        refine jw_iload_n dX11_stream_116 rfl ?_
        cases hq
        exact jw_iret (ty := .int) dX11_stream_117 rfl rfl
      · refine jw_if_ne_t (tgt := 116) dX11_stream_102 (by decide) c31 ?_
        refine jw_iload_n dX11_stream_116 rfl ?_
        cases hq
        exact jw_iret (ty := .int) dX11_stream_117 rfl rfl
  · refine jw_if_eq_f (tgt := 18) dX11_stream_5 (by decide) c4 ?_
    cases hq
    exact jw_throw th_X11_stream_8 (Nat.le_of_ble_eq_true rfl) (Nat.le_of_ble_eq_true rfl)

theorem c_X11_stream {h : jw_H} {x0 : Nat} {x1 : Int32} {r : Int32 ⊕ String} {h' : jw_H} (hq : f_X11_stream h x0 x1 = some (r, h')) : jw_Con (Cond.code yX11_stream cX11_stream 3 (some .int)) yX11_stream 13 [.ref x0, .int x1] h (jw_res r) h' :=
  jw_con false (plainFor_of_name (by decide +kernel)) (fun z => nomatch z) (by simp [jw_ent, jw_sl0_nil, jw_sl0_int, jw_sl0_long, jw_sl0_ref, jw_sl0_rf, jw_sl0_scr, List.replicate]) (by simp [jw_sl0_nil, jw_sl0_int, jw_sl0_long, jw_sl0_ref, jw_sl0_rf, jw_sl0_scr]) (l_X11_stream hq)


/-! X11_reason -/
noncomputable def f_X11_reason (h : jw_H) (x0 : Nat) : Option (Int32 × jw_H) :=
 (jw_gI h 11 (some x0) 14).bind fun v1 =>
 some (v1, h)

set_option maxRecDepth 100000 in
set_option maxHeartbeats 4000000 in
theorem l_X11_reason {hi : jw_H} {h : jw_H} {x0 : Nat} {r : Int32} {h' : jw_H} (hq : f_X11_reason  h x0 = some (r, h')) : jw_E 0 uX11_reason hi 0 [some (.ref x0)] [] h (.inl (some (.int r))) h' := by
  unfold f_X11_reason at hq
  refine jw_aload_n dX11_reason_0 (o := (some x0)) rfl ?_
  obtain ⟨v1, ev1, hq⟩ := Option.bind_eq_some_iff.mp hq
  refine jw_getI (o := (some x0)) dX11_reason_1 ev1 fl_X11_123 rfl ?_
  cases hq
  exact jw_iret (ty := .int) dX11_reason_4 rfl rfl

theorem c_X11_reason {h : jw_H} {x0 : Nat} {r : Int32} {h' : jw_H} (hq : f_X11_reason h x0 = some (r, h')) : jw_Con (Cond.code yX11_reason cX11_reason 1 (some .int)) yX11_reason 0 [.ref x0] h (.inl (some (.int r))) h' :=
  jw_con false (plainFor_of_name (by decide +kernel)) (fun z => nomatch z) (by simp [jw_ent, jw_sl0_nil, jw_sl0_int, jw_sl0_long, jw_sl0_ref, jw_sl0_rf, jw_sl0_scr, List.replicate]) (by simp [jw_sl0_nil, jw_sl0_int, jw_sl0_long, jw_sl0_ref, jw_sl0_rf, jw_sl0_scr]) (l_X11_reason hq)


/-! X11_scriptLength -/
noncomputable def f_X11_scriptLength (h : jw_H) (x0 : Nat) (x1 : Int32) : Option ((Int32 ⊕ String) × jw_H) :=
 (jw_rc h 11 (some x0)).bind fun a1 =>
 jw_b2 (f_X11_isNoScript h a1 x1) fun w3 h2 =>
 if w3 = 0 then ((jw_gR h2 11 (some x0) 2).bind fun v5 =>
 (jw_ai h2 20 v5 x1).bind fun v6 =>
 some (Sum.inl v6, h2))
 else (some (Sum.inr "java/lang/IndexOutOfBoundsException", jw_thw h2))

set_option maxRecDepth 100000 in
set_option maxHeartbeats 4000000 in
theorem l_X11_scriptLength {hi : jw_H} {h : jw_H} {x0 : Nat} {x1 : Int32} {r : Int32 ⊕ String} {h' : jw_H} (hq : f_X11_scriptLength  h x0 x1 = some (r, h')) : jw_E 8 uX11_scriptLength hi 0 [some (.ref x0), some (.int x1)] [] h (jw_res r) h' := by
  unfold f_X11_scriptLength at hq
  refine jw_aload_n dX11_scriptLength_0 (o := (some x0)) rfl ?_
  refine jw_iload_n dX11_scriptLength_1 rfl ?_
  obtain ⟨a1, ea1, hq⟩ := Option.bind_eq_some_iff.mp hq
  obtain ⟨eoa1, eta1⟩ := jw_rc_spec ea1
  obtain ⟨w3, h2, ew3, hq⟩ := jw_b2_spec hq
  refine jw_callV (As := [.int x1]) (S := []) (a := a1) (v := some (.int w3)) dX11_scriptLength_2 mt_X11_isNoScript in_X11_isNoScript se_X11_isNoScript lk_X11_126 (c_X11_isNoScript ew3) eta1 (by decide) rfl rfl (by decide) (Nat.le_of_ble_eq_true rfl) (by cases eoa1; rfl) ?_
  rcases jw_if hq with ⟨c4, hq⟩ | ⟨c4, hq⟩
  · refine jw_if_eq_t (tgt := 18) dX11_scriptLength_5 (by decide) c4 ?_
    refine jw_aload_n dX11_scriptLength_18 (o := (some x0)) rfl ?_
    obtain ⟨v5, ev5, hq⟩ := Option.bind_eq_some_iff.mp hq
    refine jw_getR (o := (some x0)) dX11_scriptLength_19 ev5 fl_X11_18 rfl ?_
    refine jw_iload_n dX11_scriptLength_22 rfl ?_
    obtain ⟨v6, ev6, hq⟩ := Option.bind_eq_some_iff.mp hq
    refine jw_iald (o := v5) dX11_scriptLength_23 ev6 ?_
    cases hq
    exact jw_iret (ty := .int) dX11_scriptLength_24 rfl rfl
  · refine jw_if_eq_f (tgt := 18) dX11_scriptLength_5 (by decide) c4 ?_
    cases hq
    exact jw_throw th_X11_scriptLength_8 (Nat.le_of_ble_eq_true rfl) (Nat.le_of_ble_eq_true rfl)

theorem c_X11_scriptLength {h : jw_H} {x0 : Nat} {x1 : Int32} {r : Int32 ⊕ String} {h' : jw_H} (hq : f_X11_scriptLength h x0 x1 = some (r, h')) : jw_Con (Cond.code yX11_scriptLength cX11_scriptLength 2 (some .int)) yX11_scriptLength 8 [.ref x0, .int x1] h (jw_res r) h' :=
  jw_con false (plainFor_of_name (by decide +kernel)) (fun z => nomatch z) (by simp [jw_ent, jw_sl0_nil, jw_sl0_int, jw_sl0_long, jw_sl0_ref, jw_sl0_rf, jw_sl0_scr, List.replicate]) (by simp [jw_sl0_nil, jw_sl0_int, jw_sl0_long, jw_sl0_ref, jw_sl0_rf, jw_sl0_scr]) (l_X11_scriptLength hq)


/-! X11_scriptAt -/
noncomputable def g_X11_scriptAt_b43 (h : jw_H)  : Option ((Int32 ⊕ String) × jw_H) :=
 some (Sum.inr "java/lang/IndexOutOfBoundsException", jw_thw h)

noncomputable def f_X11_scriptAt (h : jw_H) (x0 : Nat) (x1 : Int32) (x2 : Int32) : Option ((Int32 ⊕ String) × jw_H) :=
 (jw_rc h 11 (some x0)).bind fun a1 =>
 jw_b2 (f_X11_isNoScript h a1 x1) fun w3 h2 =>
 if w3 = 0 then (if x2 < 0 then (g_X11_scriptAt_b43  h2 )
 else ((jw_gR h2 11 (some x0) 2).bind fun v6 =>
 (jw_ai h2 20 v6 x1).bind fun v7 =>
 if v7 ≤ x2 then (g_X11_scriptAt_b43  h2 )
 else ((jw_gR h2 11 (some x0) 1).bind fun v9 =>
 (jw_ar h2 24 v9 x1).bind fun v10 =>
 (jw_ln h2 v10).bind fun v11 =>
 if x2 < v11 then ((jw_gR h2 11 (some x0) 1).bind fun v13 =>
 (jw_ar h2 24 v13 x1).bind fun v14 =>
 (jw_ai h2 21 v14 x2).bind fun v15 =>
 some (Sum.inl v15, h2))
 else (g_X11_scriptAt_b43  h2 ))))
 else (some (Sum.inr "java/lang/IndexOutOfBoundsException", jw_thw h2))

set_option maxRecDepth 100000 in
set_option maxHeartbeats 4000000 in
theorem l_X11_scriptAt_b43 {hi : jw_H} {h : jw_H}  {r : Int32 ⊕ String} {h' : jw_H} (hq : g_X11_scriptAt_b43  h  = some (r, h')) : jw_E 8 uX11_scriptAt hi 43 [none, none, none] [] h (jw_res r) h' := by
  unfold g_X11_scriptAt_b43 at hq
  cases hq
  exact jw_throw th_X11_scriptAt_43 (Nat.le_of_ble_eq_true rfl) (Nat.le_of_ble_eq_true rfl)

set_option maxRecDepth 100000 in
set_option maxHeartbeats 4000000 in
theorem l_X11_scriptAt {hi : jw_H} {h : jw_H} {x0 : Nat} {x1 : Int32} {x2 : Int32} {r : Int32 ⊕ String} {h' : jw_H} (hq : f_X11_scriptAt  h x0 x1 x2 = some (r, h')) : jw_E 8 uX11_scriptAt hi 0 [some (.ref x0), some (.int x1), some (.int x2)] [] h (jw_res r) h' := by
  unfold f_X11_scriptAt at hq
  refine jw_aload_n dX11_scriptAt_0 (o := (some x0)) rfl ?_
  refine jw_iload_n dX11_scriptAt_1 rfl ?_
  obtain ⟨a1, ea1, hq⟩ := Option.bind_eq_some_iff.mp hq
  obtain ⟨eoa1, eta1⟩ := jw_rc_spec ea1
  obtain ⟨w3, h2, ew3, hq⟩ := jw_b2_spec hq
  refine jw_callV (As := [.int x1]) (S := []) (a := a1) (v := some (.int w3)) dX11_scriptAt_2 mt_X11_isNoScript in_X11_isNoScript se_X11_isNoScript lk_X11_126 (c_X11_isNoScript ew3) eta1 (by decide) rfl rfl (by decide) (Nat.le_of_ble_eq_true rfl) (by cases eoa1; rfl) ?_
  rcases jw_if hq with ⟨c4, hq⟩ | ⟨c4, hq⟩
  · refine jw_if_eq_t (tgt := 18) dX11_scriptAt_5 (by decide) c4 ?_
    refine jw_iload_n dX11_scriptAt_18 rfl ?_
    rcases jw_if hq with ⟨c5, hq⟩ | ⟨c5, hq⟩
    · refine jw_if_lt_t (tgt := 43) dX11_scriptAt_19 (by decide) c5 ?_
      refine jw_forget [false, false, false] (L' := [none, none, none]) rfl ?_
      exact l_X11_scriptAt_b43  hq
    · refine jw_if_lt_f (tgt := 43) dX11_scriptAt_19 (by decide) c5 ?_
      refine jw_iload_n dX11_scriptAt_22 rfl ?_
      refine jw_aload_n dX11_scriptAt_23 (o := (some x0)) rfl ?_
      obtain ⟨v6, ev6, hq⟩ := Option.bind_eq_some_iff.mp hq
      refine jw_getR (o := (some x0)) dX11_scriptAt_24 ev6 fl_X11_18 rfl ?_
      refine jw_iload_n dX11_scriptAt_27 rfl ?_
      obtain ⟨v7, ev7, hq⟩ := Option.bind_eq_some_iff.mp hq
      refine jw_iald (o := v6) dX11_scriptAt_28 ev7 ?_
      rcases jw_if hq with ⟨c8, hq⟩ | ⟨c8, hq⟩
      · refine jw_icmp_ge_t (tgt := 43) dX11_scriptAt_29 (by decide) c8 ?_
        refine jw_forget [false, false, false] (L' := [none, none, none]) rfl ?_
        exact l_X11_scriptAt_b43  hq
      · refine jw_icmp_ge_f (tgt := 43) dX11_scriptAt_29 (by decide) c8 ?_
        refine jw_iload_n dX11_scriptAt_32 rfl ?_
        refine jw_aload_n dX11_scriptAt_33 (o := (some x0)) rfl ?_
        obtain ⟨v9, ev9, hq⟩ := Option.bind_eq_some_iff.mp hq
        refine jw_getR (o := (some x0)) dX11_scriptAt_34 ev9 fl_X11_15 rfl ?_
        refine jw_iload_n dX11_scriptAt_37 rfl ?_
        obtain ⟨v10, ev10, hq⟩ := Option.bind_eq_some_iff.mp hq
        refine jw_aald2 (o := v9) dX11_scriptAt_38 ev10 ?_
        obtain ⟨v11, ev11, hq⟩ := Option.bind_eq_some_iff.mp hq
        refine jw_alen (o := v10) dX11_scriptAt_39 ev11 ?_
        rcases jw_if hq with ⟨c12, hq⟩ | ⟨c12, hq⟩
        · refine jw_icmp_lt_t (tgt := 53) dX11_scriptAt_40 (by decide) c12 ?_
          refine jw_aload_n dX11_scriptAt_53 (o := (some x0)) rfl ?_
          obtain ⟨v13, ev13, hq⟩ := Option.bind_eq_some_iff.mp hq
          refine jw_getR (o := (some x0)) dX11_scriptAt_54 ev13 fl_X11_15 rfl ?_
          refine jw_iload_n dX11_scriptAt_57 rfl ?_
          obtain ⟨v14, ev14, hq⟩ := Option.bind_eq_some_iff.mp hq
          refine jw_aald2 (o := v13) dX11_scriptAt_58 ev14 ?_
          refine jw_iload_n dX11_scriptAt_59 rfl ?_
          obtain ⟨v15, ev15, hq⟩ := Option.bind_eq_some_iff.mp hq
          refine jw_bald (o := v14) dX11_scriptAt_60 ev15 ?_
          cases hq
          exact jw_iret (ty := .int) dX11_scriptAt_61 rfl rfl
        · refine jw_icmp_lt_f (tgt := 53) dX11_scriptAt_40 (by decide) c12 ?_
          refine jw_forget [false, false, false] (L' := [none, none, none]) rfl ?_
          exact l_X11_scriptAt_b43  hq
  · refine jw_if_eq_f (tgt := 18) dX11_scriptAt_5 (by decide) c4 ?_
    cases hq
    exact jw_throw th_X11_scriptAt_8 (Nat.le_of_ble_eq_true rfl) (Nat.le_of_ble_eq_true rfl)

theorem c_X11_scriptAt {h : jw_H} {x0 : Nat} {x1 : Int32} {x2 : Int32} {r : Int32 ⊕ String} {h' : jw_H} (hq : f_X11_scriptAt h x0 x1 x2 = some (r, h')) : jw_Con (Cond.code yX11_scriptAt cX11_scriptAt 3 (some .int)) yX11_scriptAt 8 [.ref x0, .int x1, .int x2] h (jw_res r) h' :=
  jw_con false (plainFor_of_name (by decide +kernel)) (fun z => nomatch z) (by simp [jw_ent, jw_sl0_nil, jw_sl0_int, jw_sl0_long, jw_sl0_ref, jw_sl0_rf, jw_sl0_scr, List.replicate]) (by simp [jw_sl0_nil, jw_sl0_int, jw_sl0_long, jw_sl0_ref, jw_sl0_rf, jw_sl0_scr]) (l_X11_scriptAt hq)


/-! X11_undo -/
noncomputable def f_X11_undo (h : jw_H) (x0 : Nat) : Option ((Int32 ⊕ String) × jw_H) :=
 (jw_gR h 11 (some x0) 11).bind fun v1 =>
 (jw_gI h 3 v1 3).bind fun v2 =>
 if v2 = 0 then (some (Sum.inr "java/lang/IllegalStateException", jw_thw h))
 else ((jw_gR h 11 (some x0) 11).bind fun v4 =>
 (jw_gR h 11 (some x0) 6).bind fun v5 =>
 (jw_rc h 3 v4).bind fun a6 =>
 jw_b2 (f_X3_takeBack h a6 v5) fun w8 h7 =>
 (jw_gR h7 11 (some x0) 11).bind fun v9 =>
 (jw_gI h7 3 v9 3).bind fun v10 =>
 some (Sum.inl v10, h7))

set_option maxRecDepth 100000 in
set_option maxHeartbeats 4000000 in
theorem l_X11_undo {hi : jw_H} {h : jw_H} {x0 : Nat} {r : Int32 ⊕ String} {h' : jw_H} (hq : f_X11_undo  h x0 = some (r, h')) : jw_E 8 uX11_undo hi 0 [some (.ref x0)] [] h (jw_res r) h' := by
  unfold f_X11_undo at hq
  refine jw_aload_n dX11_undo_0 (o := (some x0)) rfl ?_
  obtain ⟨v1, ev1, hq⟩ := Option.bind_eq_some_iff.mp hq
  refine jw_getR (o := (some x0)) dX11_undo_1 ev1 fl_X11_52 rfl ?_
  obtain ⟨v2, ev2, hq⟩ := Option.bind_eq_some_iff.mp hq
  refine jw_getI (o := v1) dX11_undo_4 ev2 fl_X11_149 rfl ?_
  rcases jw_if hq with ⟨c3, hq⟩ | ⟨c3, hq⟩
  · refine jw_if_ne_f (tgt := 20) dX11_undo_7 (by decide) c3 ?_
    cases hq
    exact jw_throw th_X11_undo_10 (Nat.le_of_ble_eq_true rfl) (Nat.le_of_ble_eq_true rfl)
  · refine jw_if_ne_t (tgt := 20) dX11_undo_7 (by decide) c3 ?_
    refine jw_aload_n dX11_undo_20 (o := (some x0)) rfl ?_
    obtain ⟨v4, ev4, hq⟩ := Option.bind_eq_some_iff.mp hq
    refine jw_getR (o := (some x0)) dX11_undo_21 ev4 fl_X11_52 rfl ?_
    refine jw_aload_n dX11_undo_24 (o := (some x0)) rfl ?_
    obtain ⟨v5, ev5, hq⟩ := Option.bind_eq_some_iff.mp hq
    refine jw_getR (o := (some x0)) dX11_undo_25 ev5 fl_X11_38 rfl ?_
    obtain ⟨a6, ea6, hq⟩ := Option.bind_eq_some_iff.mp hq
    obtain ⟨eoa6, eta6⟩ := jw_rc_spec ea6
    obtain ⟨w8, h7, ew8, hq⟩ := jw_b2_spec hq
    refine jw_callV (As := [va_rf v5]) (S := []) (a := a6) (v := none) dX11_undo_28 mt_X3_takeBack in_X3_takeBack se_X3_takeBack lk_X11_154 (c_X3_takeBack ew8) eta6 (by decide) rfl rfl (by decide) (Nat.le_of_ble_eq_true rfl) (by cases eoa6; rfl) ?_
    refine jw_aload_n dX11_undo_31 (o := (some x0)) rfl ?_
    obtain ⟨v9, ev9, hq⟩ := Option.bind_eq_some_iff.mp hq
    refine jw_getR (o := (some x0)) dX11_undo_32 ev9 fl_X11_52 rfl ?_
    obtain ⟨v10, ev10, hq⟩ := Option.bind_eq_some_iff.mp hq
    refine jw_getI (o := v9) dX11_undo_35 ev10 fl_X11_149 rfl ?_
    cases hq
    exact jw_iret (ty := .int) dX11_undo_38 rfl rfl

theorem c_X11_undo {h : jw_H} {x0 : Nat} {r : Int32 ⊕ String} {h' : jw_H} (hq : f_X11_undo h x0 = some (r, h')) : jw_Con (Cond.code yX11_undo cX11_undo 1 (some .int)) yX11_undo 8 [.ref x0] h (jw_res r) h' :=
  jw_con false (plainFor_of_name (by decide +kernel)) (fun z => nomatch z) (by simp [jw_ent, jw_sl0_nil, jw_sl0_int, jw_sl0_long, jw_sl0_ref, jw_sl0_rf, jw_sl0_scr, List.replicate]) (by simp [jw_sl0_nil, jw_sl0_int, jw_sl0_long, jw_sl0_ref, jw_sl0_rf, jw_sl0_scr]) (l_X11_undo hq)


/-! X11_undoRun -/
noncomputable def g_X11_undoRun_b38 (k38 : jw_H → Nat → Int32 → Int32 → Int32 → Option ((Int32 ⊕ String) × jw_H)) (h : jw_H) (x0 : Nat) (x1 : Int32) (x2 : Int32) (x3 : Int32) : Option ((Int32 ⊕ String) × jw_H) :=
 if x3 ≤ 0 then (some (Sum.inl x2, h))
 else ((jw_gR h 11 (some x0) 11).bind fun v2 =>
 (jw_rc h 3 v2).bind fun a3 =>
 jw_b2 (f_X3_latestCall h a3) fun w5 h4 =>
 if w5 = x1 then ((jw_gR h4 11 (some x0) 11).bind fun v7 =>
 (jw_gR h4 11 (some x0) 6).bind fun v8 =>
 (jw_rc h4 3 v7).bind fun a9 =>
 jw_b2 (f_X3_takeBack h4 a9 v8) fun w11 h10 =>
 k38 h10 x0 x1 (x2 + (1 : Int32)) (x3 + (-1 : Int32)))
 else (some (Sum.inl x2, h4)))

noncomputable def f_X11_undoRun_b38 (n : Nat) : jw_H → Nat → Int32 → Int32 → Int32 → Option ((Int32 ⊕ String) × jw_H) :=
 Nat.rec (fun _ _ _ _ _ => none) (fun _ k38 => g_X11_undoRun_b38 k38) n

noncomputable def f_X11_undoRun (h : jw_H) (x0 : Nat) : Option ((Int32 ⊕ String) × jw_H) :=
 (jw_gR h 11 (some x0) 11).bind fun v1 =>
 (jw_gI h 3 v1 3).bind fun v2 =>
 if v2 = 0 then (some (Sum.inr "java/lang/IllegalStateException", jw_thw h))
 else ((jw_gR h 11 (some x0) 11).bind fun v4 =>
 (jw_rc h 3 v4).bind fun a5 =>
 jw_b2 (f_X3_latestCall h a5) fun w7 h6 =>
 (jw_gR h6 11 (some x0) 11).bind fun v8 =>
 (jw_gI h6 3 v8 3).bind fun v9 =>
 f_X11_undoRun_b38  jw_FU h6 x0 w7 (0 : Int32) v9)

set_option maxRecDepth 100000 in
set_option maxHeartbeats 4000000 in
theorem l_X11_undoRun_b38g {hi : jw_H} {k38 : jw_H → Nat → Int32 → Int32 → Int32 → Option ((Int32 ⊕ String) × jw_H)} (hk38 : ∀ (h : jw_H) (x0 : Nat) (x1 : Int32) (x2 : Int32) (x3 : Int32) (r : Int32 ⊕ String) (h' : jw_H), k38 h x0 x1 x2 x3 = some (r, h') → jw_E 8 uX11_undoRun hi 38 [some (.ref x0), some (.int x1), some (.int x2), some (.int x3)] [] h (jw_res r) h') {h : jw_H} {x0 : Nat} {x1 : Int32} {x2 : Int32} {x3 : Int32} {r : Int32 ⊕ String} {h' : jw_H} (hq : g_X11_undoRun_b38 k38 h x0 x1 x2 x3 = some (r, h')) : jw_E 8 uX11_undoRun hi 38 [some (.ref x0), some (.int x1), some (.int x2), some (.int x3)] [] h (jw_res r) h' := by
  unfold g_X11_undoRun_b38 at hq
  refine jw_iload_n dX11_undoRun_38 rfl ?_
  rcases jw_if hq with ⟨c1, hq⟩ | ⟨c1, hq⟩
  · refine jw_if_le_t (tgt := 73) dX11_undoRun_39 (by decide) c1 ?_
    refine jw_iload_n dX11_undoRun_73 rfl ?_
    cases hq
    exact jw_iret (ty := .int) dX11_undoRun_74 rfl rfl
  · refine jw_if_le_f (tgt := 73) dX11_undoRun_39 (by decide) c1 ?_
    refine jw_aload_n dX11_undoRun_42 (o := (some x0)) rfl ?_
    obtain ⟨v2, ev2, hq⟩ := Option.bind_eq_some_iff.mp hq
    refine jw_getR (o := (some x0)) dX11_undoRun_43 ev2 fl_X11_52 rfl ?_
    obtain ⟨a3, ea3, hq⟩ := Option.bind_eq_some_iff.mp hq
    obtain ⟨eoa3, eta3⟩ := jw_rc_spec ea3
    obtain ⟨w5, h4, ew5, hq⟩ := jw_b2_spec hq
    refine jw_callV (As := []) (S := []) (a := a3) (v := some (.int w5)) dX11_undoRun_46 mt_X3_latestCall in_X3_latestCall se_X3_latestCall lk_X11_157 (c_X3_latestCall ew5) eta3 (by decide) rfl rfl (by decide) (Nat.le_of_ble_eq_true rfl) (by cases eoa3; rfl) ?_
    refine jw_iload_n dX11_undoRun_49 rfl ?_
    rcases jw_if hq with ⟨c6, hq⟩ | ⟨c6, hq⟩
    · refine jw_icmp_ne_f (tgt := 73) dX11_undoRun_50 (by decide) c6 ?_
      refine jw_aload_n dX11_undoRun_53 (o := (some x0)) rfl ?_
      obtain ⟨v7, ev7, hq⟩ := Option.bind_eq_some_iff.mp hq
      refine jw_getR (o := (some x0)) dX11_undoRun_54 ev7 fl_X11_52 rfl ?_
      refine jw_aload_n dX11_undoRun_57 (o := (some x0)) rfl ?_
      obtain ⟨v8, ev8, hq⟩ := Option.bind_eq_some_iff.mp hq
      refine jw_getR (o := (some x0)) dX11_undoRun_58 ev8 fl_X11_38 rfl ?_
      obtain ⟨a9, ea9, hq⟩ := Option.bind_eq_some_iff.mp hq
      obtain ⟨eoa9, eta9⟩ := jw_rc_spec ea9
      obtain ⟨w11, h10, ew11, hq⟩ := jw_b2_spec hq
      refine jw_callV (As := [va_rf v8]) (S := []) (a := a9) (v := none) dX11_undoRun_61 mt_X3_takeBack in_X3_takeBack se_X3_takeBack lk_X11_154 (c_X3_takeBack ew11) eta9 (by decide) rfl rfl (by decide) (Nat.le_of_ble_eq_true rfl) (by cases eoa9; rfl) ?_
      refine jw_iinc (L' := [some (.ref x0), some (.int x1), some (.int (x2 + (1 : Int32))), some (.int x3)]) dX11_undoRun_64 rfl (v := (1 : Int32)) (by decide) (Nat.le_of_ble_eq_true rfl) rfl ?_
      refine jw_iinc (L' := [some (.ref x0), some (.int x1), some (.int (x2 + (1 : Int32))), some (.int (x3 + (-1 : Int32)))]) dX11_undoRun_67 rfl (v := (-1 : Int32)) (by decide) (Nat.le_of_ble_eq_true rfl) rfl ?_
      refine jw_goto (tgt := 38) dX11_undoRun_70 (by decide) ?_
      exact hk38 _ _ _ _ _ _ _ hq
    · refine jw_icmp_ne_t (tgt := 73) dX11_undoRun_50 (by decide) c6 ?_
      refine jw_iload_n dX11_undoRun_73 rfl ?_
      cases hq
      exact jw_iret (ty := .int) dX11_undoRun_74 rfl rfl

theorem l_X11_undoRun_b38 {hi : jw_H} : ∀ (n : Nat) (h : jw_H) (x0 : Nat) (x1 : Int32) (x2 : Int32) (x3 : Int32) (r : Int32 ⊕ String) (h' : jw_H), f_X11_undoRun_b38  n h x0 x1 x2 x3 = some (r, h') → jw_E 8 uX11_undoRun hi 38 [some (.ref x0), some (.int x1), some (.int x2), some (.int x3)] [] h (jw_res r) h' := by
  intro n
  induction n with
  | zero => intro h x0 x1 x2 x3 r h' hq; exact nomatch hq
  | succ n ih => intro h x0 x1 x2 x3 r h' hq; exact l_X11_undoRun_b38g ih hq

set_option maxRecDepth 100000 in
set_option maxHeartbeats 4000000 in
theorem l_X11_undoRun {hi : jw_H} {h : jw_H} {x0 : Nat} {r : Int32 ⊕ String} {h' : jw_H} (hq : f_X11_undoRun  h x0 = some (r, h')) : jw_E 8 uX11_undoRun hi 0 [some (.ref x0), none, none, none] [] h (jw_res r) h' := by
  unfold f_X11_undoRun at hq
  refine jw_aload_n dX11_undoRun_0 (o := (some x0)) rfl ?_
  obtain ⟨v1, ev1, hq⟩ := Option.bind_eq_some_iff.mp hq
  refine jw_getR (o := (some x0)) dX11_undoRun_1 ev1 fl_X11_52 rfl ?_
  obtain ⟨v2, ev2, hq⟩ := Option.bind_eq_some_iff.mp hq
  refine jw_getI (o := v1) dX11_undoRun_4 ev2 fl_X11_149 rfl ?_
  rcases jw_if hq with ⟨c3, hq⟩ | ⟨c3, hq⟩
  · refine jw_if_ne_f (tgt := 20) dX11_undoRun_7 (by decide) c3 ?_
    cases hq
    exact jw_throw th_X11_undoRun_10 (Nat.le_of_ble_eq_true rfl) (Nat.le_of_ble_eq_true rfl)
  · refine jw_if_ne_t (tgt := 20) dX11_undoRun_7 (by decide) c3 ?_
    refine jw_aload_n dX11_undoRun_20 (o := (some x0)) rfl ?_
    obtain ⟨v4, ev4, hq⟩ := Option.bind_eq_some_iff.mp hq
    refine jw_getR (o := (some x0)) dX11_undoRun_21 ev4 fl_X11_52 rfl ?_
    obtain ⟨a5, ea5, hq⟩ := Option.bind_eq_some_iff.mp hq
    obtain ⟨eoa5, eta5⟩ := jw_rc_spec ea5
    obtain ⟨w7, h6, ew7, hq⟩ := jw_b2_spec hq
    refine jw_callV (As := []) (S := []) (a := a5) (v := some (.int w7)) dX11_undoRun_24 mt_X3_latestCall in_X3_latestCall se_X3_latestCall lk_X11_157 (c_X3_latestCall ew7) eta5 (by decide) rfl rfl (by decide) (Nat.le_of_ble_eq_true rfl) (by cases eoa5; rfl) ?_
    refine jw_istore_n (L' := [some (.ref x0), some (.int w7), none, none]) dX11_undoRun_27 (Nat.le_of_ble_eq_true rfl) rfl ?_
    refine jw_iconst dX11_undoRun_28 (v := (0 : Int32)) (by decide) ?_
    refine jw_istore_n (L' := [some (.ref x0), some (.int w7), some (.int (0 : Int32)), none]) dX11_undoRun_29 (Nat.le_of_ble_eq_true rfl) rfl ?_
    refine jw_aload_n dX11_undoRun_30 (o := (some x0)) rfl ?_
    obtain ⟨v8, ev8, hq⟩ := Option.bind_eq_some_iff.mp hq
    refine jw_getR (o := (some x0)) dX11_undoRun_31 ev8 fl_X11_52 rfl ?_
    obtain ⟨v9, ev9, hq⟩ := Option.bind_eq_some_iff.mp hq
    refine jw_getI (o := v8) dX11_undoRun_34 ev9 fl_X11_149 rfl ?_
    refine jw_istore_n (L' := [some (.ref x0), some (.int w7), some (.int (0 : Int32)), some (.int v9)]) dX11_undoRun_37 (Nat.le_of_ble_eq_true rfl) rfl ?_
    exact l_X11_undoRun_b38  jw_FU _ _ _ _ _ _ _ hq

theorem c_X11_undoRun {h : jw_H} {x0 : Nat} {r : Int32 ⊕ String} {h' : jw_H} (hq : f_X11_undoRun h x0 = some (r, h')) : jw_Con (Cond.code yX11_undoRun cX11_undoRun 4 (some .int)) yX11_undoRun 8 [.ref x0] h (jw_res r) h' :=
  jw_con false (plainFor_of_name (by decide +kernel)) (fun z => nomatch z) (by simp [jw_ent, jw_sl0_nil, jw_sl0_int, jw_sl0_long, jw_sl0_ref, jw_sl0_rf, jw_sl0_scr, List.replicate]) (by simp [jw_sl0_nil, jw_sl0_int, jw_sl0_long, jw_sl0_ref, jw_sl0_rf, jw_sl0_scr]) (l_X11_undoRun hq)


/-! X11_deeds -/
noncomputable def f_X11_deeds (h : jw_H) (x0 : Nat) : Option (Int32 × jw_H) :=
 (jw_gR h 11 (some x0) 11).bind fun v1 =>
 (jw_gI h 3 v1 3).bind fun v2 =>
 some (v2, h)

set_option maxRecDepth 100000 in
set_option maxHeartbeats 4000000 in
theorem l_X11_deeds {hi : jw_H} {h : jw_H} {x0 : Nat} {r : Int32} {h' : jw_H} (hq : f_X11_deeds  h x0 = some (r, h')) : jw_E 0 uX11_deeds hi 0 [some (.ref x0)] [] h (.inl (some (.int r))) h' := by
  unfold f_X11_deeds at hq
  refine jw_aload_n dX11_deeds_0 (o := (some x0)) rfl ?_
  obtain ⟨v1, ev1, hq⟩ := Option.bind_eq_some_iff.mp hq
  refine jw_getR (o := (some x0)) dX11_deeds_1 ev1 fl_X11_52 rfl ?_
  obtain ⟨v2, ev2, hq⟩ := Option.bind_eq_some_iff.mp hq
  refine jw_getI (o := v1) dX11_deeds_4 ev2 fl_X11_149 rfl ?_
  cases hq
  exact jw_iret (ty := .int) dX11_deeds_7 rfl rfl

theorem c_X11_deeds {h : jw_H} {x0 : Nat} {r : Int32} {h' : jw_H} (hq : f_X11_deeds h x0 = some (r, h')) : jw_Con (Cond.code yX11_deeds cX11_deeds 1 (some .int)) yX11_deeds 0 [.ref x0] h (.inl (some (.int r))) h' :=
  jw_con false (plainFor_of_name (by decide +kernel)) (fun z => nomatch z) (by simp [jw_ent, jw_sl0_nil, jw_sl0_int, jw_sl0_long, jw_sl0_ref, jw_sl0_rf, jw_sl0_scr, List.replicate]) (by simp [jw_sl0_nil, jw_sl0_int, jw_sl0_long, jw_sl0_ref, jw_sl0_rf, jw_sl0_scr]) (l_X11_deeds hq)


/-! X11_lines -/
noncomputable def f_X11_lines (h : jw_H) (x0 : Nat) : Option (Int32 × jw_H) :=
 (jw_gR h 11 (some x0) 6).bind fun v1 =>
 (jw_gR h 9 v1 0).bind fun v2 =>
 (jw_gI h 7 v2 2).bind fun v3 =>
 some (v3, h)

set_option maxRecDepth 100000 in
set_option maxHeartbeats 4000000 in
theorem l_X11_lines {hi : jw_H} {h : jw_H} {x0 : Nat} {r : Int32} {h' : jw_H} (hq : f_X11_lines  h x0 = some (r, h')) : jw_E 0 uX11_lines hi 0 [some (.ref x0)] [] h (.inl (some (.int r))) h' := by
  unfold f_X11_lines at hq
  refine jw_aload_n dX11_lines_0 (o := (some x0)) rfl ?_
  obtain ⟨v1, ev1, hq⟩ := Option.bind_eq_some_iff.mp hq
  refine jw_getR (o := (some x0)) dX11_lines_1 ev1 fl_X11_38 rfl ?_
  obtain ⟨v2, ev2, hq⟩ := Option.bind_eq_some_iff.mp hq
  refine jw_getR (o := v1) dX11_lines_4 ev2 fl_X11_160 rfl ?_
  obtain ⟨v3, ev3, hq⟩ := Option.bind_eq_some_iff.mp hq
  refine jw_getI (o := v2) dX11_lines_7 ev3 fl_X11_164 rfl ?_
  cases hq
  exact jw_iret (ty := .int) dX11_lines_10 rfl rfl

theorem c_X11_lines {h : jw_H} {x0 : Nat} {r : Int32} {h' : jw_H} (hq : f_X11_lines h x0 = some (r, h')) : jw_Con (Cond.code yX11_lines cX11_lines 1 (some .int)) yX11_lines 0 [.ref x0] h (.inl (some (.int r))) h' :=
  jw_con false (plainFor_of_name (by decide +kernel)) (fun z => nomatch z) (by simp [jw_ent, jw_sl0_nil, jw_sl0_int, jw_sl0_long, jw_sl0_ref, jw_sl0_rf, jw_sl0_scr, List.replicate]) (by simp [jw_sl0_nil, jw_sl0_int, jw_sl0_long, jw_sl0_ref, jw_sl0_rf, jw_sl0_scr]) (l_X11_lines hq)


/-! X11_length -/
noncomputable def f_X11_length (h : jw_H) (x0 : Nat) (x1 : Int32) : Option ((Int32 ⊕ String) × jw_H) :=
 (jw_gR h 11 (some x0) 6).bind fun v1 =>
 (jw_gR h 9 v1 0).bind fun v2 =>
 (jw_rc h 7 v2).bind fun a3 =>
 jw_b2 (f_X7_has h a3 x1) fun w5 h4 =>
 if w5 = 0 then (some (Sum.inr "java/lang/IndexOutOfBoundsException", jw_thw h4))
 else ((jw_gR h4 11 (some x0) 6).bind fun v7 =>
 (jw_gR h4 9 v7 0).bind fun v8 =>
 (jw_rc h4 7 v8).bind fun a9 =>
 jw_b2 (f_X7_lengthOf h4 a9 x1) fun w11 h10 =>
 some (Sum.inl w11, h10))

set_option maxRecDepth 100000 in
set_option maxHeartbeats 4000000 in
theorem l_X11_length {hi : jw_H} {h : jw_H} {x0 : Nat} {x1 : Int32} {r : Int32 ⊕ String} {h' : jw_H} (hq : f_X11_length  h x0 x1 = some (r, h')) : jw_E 8 uX11_length hi 0 [some (.ref x0), some (.int x1)] [] h (jw_res r) h' := by
  unfold f_X11_length at hq
  refine jw_aload_n dX11_length_0 (o := (some x0)) rfl ?_
  obtain ⟨v1, ev1, hq⟩ := Option.bind_eq_some_iff.mp hq
  refine jw_getR (o := (some x0)) dX11_length_1 ev1 fl_X11_38 rfl ?_
  obtain ⟨v2, ev2, hq⟩ := Option.bind_eq_some_iff.mp hq
  refine jw_getR (o := v1) dX11_length_4 ev2 fl_X11_160 rfl ?_
  refine jw_iload_n dX11_length_7 rfl ?_
  obtain ⟨a3, ea3, hq⟩ := Option.bind_eq_some_iff.mp hq
  obtain ⟨eoa3, eta3⟩ := jw_rc_spec ea3
  obtain ⟨w5, h4, ew5, hq⟩ := jw_b2_spec hq
  refine jw_callV (As := [.int x1]) (S := []) (a := a3) (v := some (.int w5)) dX11_length_8 mt_X7_has in_X7_has se_X7_has lk_X11_169 (c_X7_has ew5) eta3 (by decide) rfl rfl (by decide) (Nat.le_of_ble_eq_true rfl) (by cases eoa3; rfl) ?_
  rcases jw_if hq with ⟨c6, hq⟩ | ⟨c6, hq⟩
  · refine jw_if_ne_f (tgt := 24) dX11_length_11 (by decide) c6 ?_
    cases hq
    exact jw_throw th_X11_length_14 (Nat.le_of_ble_eq_true rfl) (Nat.le_of_ble_eq_true rfl)
  · refine jw_if_ne_t (tgt := 24) dX11_length_11 (by decide) c6 ?_
    refine jw_aload_n dX11_length_24 (o := (some x0)) rfl ?_
    obtain ⟨v7, ev7, hq⟩ := Option.bind_eq_some_iff.mp hq
    refine jw_getR (o := (some x0)) dX11_length_25 ev7 fl_X11_38 rfl ?_
    obtain ⟨v8, ev8, hq⟩ := Option.bind_eq_some_iff.mp hq
    refine jw_getR (o := v7) dX11_length_28 ev8 fl_X11_160 rfl ?_
    refine jw_iload_n dX11_length_31 rfl ?_
    obtain ⟨a9, ea9, hq⟩ := Option.bind_eq_some_iff.mp hq
    obtain ⟨eoa9, eta9⟩ := jw_rc_spec ea9
    obtain ⟨w11, h10, ew11, hq⟩ := jw_b2_spec hq
    refine jw_callV (As := [.int x1]) (S := []) (a := a9) (v := some (.int w11)) dX11_length_32 mt_X7_lengthOf in_X7_lengthOf se_X7_lengthOf lk_X11_174 (c_X7_lengthOf ew11) eta9 (by decide) rfl rfl (by decide) (Nat.le_of_ble_eq_true rfl) (by cases eoa9; rfl) ?_
    cases hq
    exact jw_iret (ty := .int) dX11_length_35 rfl rfl

theorem c_X11_length {h : jw_H} {x0 : Nat} {x1 : Int32} {r : Int32 ⊕ String} {h' : jw_H} (hq : f_X11_length h x0 x1 = some (r, h')) : jw_Con (Cond.code yX11_length cX11_length 2 (some .int)) yX11_length 8 [.ref x0, .int x1] h (jw_res r) h' :=
  jw_con false (plainFor_of_name (by decide +kernel)) (fun z => nomatch z) (by simp [jw_ent, jw_sl0_nil, jw_sl0_int, jw_sl0_long, jw_sl0_ref, jw_sl0_rf, jw_sl0_scr, List.replicate]) (by simp [jw_sl0_nil, jw_sl0_int, jw_sl0_long, jw_sl0_ref, jw_sl0_rf, jw_sl0_scr]) (l_X11_length hq)


/-! X11_at -/
noncomputable def f_X11_at (h : jw_H) (x0 : Nat) (x1 : Int32) (x2 : Int32) : Option ((Int32 ⊕ String) × jw_H) :=
 (jw_gR h 11 (some x0) 6).bind fun v1 =>
 (jw_gR h 9 v1 0).bind fun v2 =>
 (jw_rc h 7 v2).bind fun a3 =>
 jw_b2 (f_X7_signAt h a3 x1 x2) fun w5 h4 =>
 if w5 = (-1 : Int32) then (some (Sum.inr "java/lang/IndexOutOfBoundsException", jw_thw h4))
 else (some (Sum.inl w5, h4))

set_option maxRecDepth 100000 in
set_option maxHeartbeats 4000000 in
theorem l_X11_at {hi : jw_H} {h : jw_H} {x0 : Nat} {x1 : Int32} {x2 : Int32} {r : Int32 ⊕ String} {h' : jw_H} (hq : f_X11_at  h x0 x1 x2 = some (r, h')) : jw_E 8 uX11_at hi 0 [some (.ref x0), some (.int x1), some (.int x2), none] [] h (jw_res r) h' := by
  unfold f_X11_at at hq
  refine jw_aload_n dX11_at_0 (o := (some x0)) rfl ?_
  obtain ⟨v1, ev1, hq⟩ := Option.bind_eq_some_iff.mp hq
  refine jw_getR (o := (some x0)) dX11_at_1 ev1 fl_X11_38 rfl ?_
  obtain ⟨v2, ev2, hq⟩ := Option.bind_eq_some_iff.mp hq
  refine jw_getR (o := v1) dX11_at_4 ev2 fl_X11_160 rfl ?_
  refine jw_iload_n dX11_at_7 rfl ?_
  refine jw_iload_n dX11_at_8 rfl ?_
  obtain ⟨a3, ea3, hq⟩ := Option.bind_eq_some_iff.mp hq
  obtain ⟨eoa3, eta3⟩ := jw_rc_spec ea3
  obtain ⟨w5, h4, ew5, hq⟩ := jw_b2_spec hq
  refine jw_callV (As := [.int x1, .int x2]) (S := []) (a := a3) (v := some (.int w5)) dX11_at_9 mt_X7_signAt in_X7_signAt se_X7_signAt lk_X11_177 (c_X7_signAt ew5) eta3 (by decide) rfl rfl (by decide) (Nat.le_of_ble_eq_true rfl) (by cases eoa3; rfl) ?_
  refine jw_istore_n (L' := [some (.ref x0), some (.int x1), some (.int x2), some (.int w5)]) dX11_at_12 (Nat.le_of_ble_eq_true rfl) rfl ?_
  refine jw_iload_n dX11_at_13 rfl ?_
  refine jw_iconst dX11_at_14 (v := (-1 : Int32)) (by decide) ?_
  rcases jw_if hq with ⟨c6, hq⟩ | ⟨c6, hq⟩
  · refine jw_icmp_ne_f (tgt := 28) dX11_at_15 (by decide) c6 ?_
    cases hq
    exact jw_throw th_X11_at_18 (Nat.le_of_ble_eq_true rfl) (Nat.le_of_ble_eq_true rfl)
  · refine jw_icmp_ne_t (tgt := 28) dX11_at_15 (by decide) c6 ?_
    refine jw_iload_n dX11_at_28 rfl ?_
    cases hq
    exact jw_iret (ty := .int) dX11_at_29 rfl rfl

theorem c_X11_at {h : jw_H} {x0 : Nat} {x1 : Int32} {x2 : Int32} {r : Int32 ⊕ String} {h' : jw_H} (hq : f_X11_at h x0 x1 x2 = some (r, h')) : jw_Con (Cond.code yX11_at cX11_at 4 (some .int)) yX11_at 8 [.ref x0, .int x1, .int x2] h (jw_res r) h' :=
  jw_con false (plainFor_of_name (by decide +kernel)) (fun z => nomatch z) (by simp [jw_ent, jw_sl0_nil, jw_sl0_int, jw_sl0_long, jw_sl0_ref, jw_sl0_rf, jw_sl0_scr, List.replicate]) (by simp [jw_sl0_nil, jw_sl0_int, jw_sl0_long, jw_sl0_ref, jw_sl0_rf, jw_sl0_scr]) (l_X11_at hq)


/-! X11_id -/
noncomputable def f_X11_id (h : jw_H) (x0 : Nat) (x1 : Int32) : Option ((Int32 ⊕ String) × jw_H) :=
 (jw_gR h 11 (some x0) 6).bind fun v1 =>
 (jw_gR h 9 v1 0).bind fun v2 =>
 (jw_rc h 7 v2).bind fun a3 =>
 jw_b2 (f_X7_has h a3 x1) fun w5 h4 =>
 if w5 = 0 then (some (Sum.inr "java/lang/IndexOutOfBoundsException", jw_thw h4))
 else ((jw_gR h4 11 (some x0) 6).bind fun v7 =>
 (jw_rc h4 9 v7).bind fun a8 =>
 jw_b2 (f_X9_idOf h4 a8 x1) fun w10 h9 =>
 some (Sum.inl w10, h9))

set_option maxRecDepth 100000 in
set_option maxHeartbeats 4000000 in
theorem l_X11_id {hi : jw_H} {h : jw_H} {x0 : Nat} {x1 : Int32} {r : Int32 ⊕ String} {h' : jw_H} (hq : f_X11_id  h x0 x1 = some (r, h')) : jw_E 8 uX11_id hi 0 [some (.ref x0), some (.int x1)] [] h (jw_res r) h' := by
  unfold f_X11_id at hq
  refine jw_aload_n dX11_id_0 (o := (some x0)) rfl ?_
  obtain ⟨v1, ev1, hq⟩ := Option.bind_eq_some_iff.mp hq
  refine jw_getR (o := (some x0)) dX11_id_1 ev1 fl_X11_38 rfl ?_
  obtain ⟨v2, ev2, hq⟩ := Option.bind_eq_some_iff.mp hq
  refine jw_getR (o := v1) dX11_id_4 ev2 fl_X11_160 rfl ?_
  refine jw_iload_n dX11_id_7 rfl ?_
  obtain ⟨a3, ea3, hq⟩ := Option.bind_eq_some_iff.mp hq
  obtain ⟨eoa3, eta3⟩ := jw_rc_spec ea3
  obtain ⟨w5, h4, ew5, hq⟩ := jw_b2_spec hq
  refine jw_callV (As := [.int x1]) (S := []) (a := a3) (v := some (.int w5)) dX11_id_8 mt_X7_has in_X7_has se_X7_has lk_X11_169 (c_X7_has ew5) eta3 (by decide) rfl rfl (by decide) (Nat.le_of_ble_eq_true rfl) (by cases eoa3; rfl) ?_
  rcases jw_if hq with ⟨c6, hq⟩ | ⟨c6, hq⟩
  · refine jw_if_ne_f (tgt := 24) dX11_id_11 (by decide) c6 ?_
    cases hq
    exact jw_throw th_X11_id_14 (Nat.le_of_ble_eq_true rfl) (Nat.le_of_ble_eq_true rfl)
  · refine jw_if_ne_t (tgt := 24) dX11_id_11 (by decide) c6 ?_
    refine jw_aload_n dX11_id_24 (o := (some x0)) rfl ?_
    obtain ⟨v7, ev7, hq⟩ := Option.bind_eq_some_iff.mp hq
    refine jw_getR (o := (some x0)) dX11_id_25 ev7 fl_X11_38 rfl ?_
    refine jw_iload_n dX11_id_28 rfl ?_
    obtain ⟨a8, ea8, hq⟩ := Option.bind_eq_some_iff.mp hq
    obtain ⟨eoa8, eta8⟩ := jw_rc_spec ea8
    obtain ⟨w10, h9, ew10, hq⟩ := jw_b2_spec hq
    refine jw_callV (As := [.int x1]) (S := []) (a := a8) (v := some (.int w10)) dX11_id_29 mt_X9_idOf in_X9_idOf se_X9_idOf lk_X11_183 (c_X9_idOf ew10) eta8 (by decide) rfl rfl (by decide) (Nat.le_of_ble_eq_true rfl) (by cases eoa8; rfl) ?_
    cases hq
    exact jw_iret (ty := .int) dX11_id_32 rfl rfl

theorem c_X11_id {h : jw_H} {x0 : Nat} {x1 : Int32} {r : Int32 ⊕ String} {h' : jw_H} (hq : f_X11_id h x0 x1 = some (r, h')) : jw_Con (Cond.code yX11_id cX11_id 2 (some .int)) yX11_id 8 [.ref x0, .int x1] h (jw_res r) h' :=
  jw_con false (plainFor_of_name (by decide +kernel)) (fun z => nomatch z) (by simp [jw_ent, jw_sl0_nil, jw_sl0_int, jw_sl0_long, jw_sl0_ref, jw_sl0_rf, jw_sl0_scr, List.replicate]) (by simp [jw_sl0_nil, jw_sl0_int, jw_sl0_long, jw_sl0_ref, jw_sl0_rf, jw_sl0_scr]) (l_X11_id hq)


/-! X11_lineOf -/
noncomputable def f_X11_lineOf (h : jw_H) (x0 : Nat) (x1 : Int32) : Option (Int32 × jw_H) :=
 (jw_gR h 11 (some x0) 6).bind fun v1 =>
 (jw_rc h 9 v1).bind fun a2 =>
 jw_b2 (f_X9_numberOf h a2 x1) fun w4 h3 =>
 some (w4, h3)

set_option maxRecDepth 100000 in
set_option maxHeartbeats 4000000 in
theorem l_X11_lineOf {hi : jw_H} {h : jw_H} {x0 : Nat} {x1 : Int32} {r : Int32} {h' : jw_H} (hq : f_X11_lineOf  h x0 x1 = some (r, h')) : jw_E 1 uX11_lineOf hi 0 [some (.ref x0), some (.int x1)] [] h (.inl (some (.int r))) h' := by
  unfold f_X11_lineOf at hq
  refine jw_aload_n dX11_lineOf_0 (o := (some x0)) rfl ?_
  obtain ⟨v1, ev1, hq⟩ := Option.bind_eq_some_iff.mp hq
  refine jw_getR (o := (some x0)) dX11_lineOf_1 ev1 fl_X11_38 rfl ?_
  refine jw_iload_n dX11_lineOf_4 rfl ?_
  obtain ⟨a2, ea2, hq⟩ := Option.bind_eq_some_iff.mp hq
  obtain ⟨eoa2, eta2⟩ := jw_rc_spec ea2
  obtain ⟨w4, h3, ew4, hq⟩ := jw_b2_spec hq
  refine jw_callV (As := [.int x1]) (S := []) (a := a2) (v := some (.int w4)) dX11_lineOf_5 mt_X9_numberOf in_X9_numberOf se_X9_numberOf lk_X11_186 (c_X9_numberOf ew4) eta2 (by decide) rfl rfl (by decide) (Nat.le_of_ble_eq_true rfl) (by cases eoa2; rfl) ?_
  cases hq
  exact jw_iret (ty := .int) dX11_lineOf_8 rfl rfl

theorem c_X11_lineOf {h : jw_H} {x0 : Nat} {x1 : Int32} {r : Int32} {h' : jw_H} (hq : f_X11_lineOf h x0 x1 = some (r, h')) : jw_Con (Cond.code yX11_lineOf cX11_lineOf 2 (some .int)) yX11_lineOf 1 [.ref x0, .int x1] h (.inl (some (.int r))) h' :=
  jw_con false (plainFor_of_name (by decide +kernel)) (fun z => nomatch z) (by simp [jw_ent, jw_sl0_nil, jw_sl0_int, jw_sl0_long, jw_sl0_ref, jw_sl0_rf, jw_sl0_scr, List.replicate]) (by simp [jw_sl0_nil, jw_sl0_int, jw_sl0_long, jw_sl0_ref, jw_sl0_rf, jw_sl0_scr]) (l_X11_lineOf hq)


/-! X11_present -/
noncomputable def f_X11_present (h : jw_H) (x0 : Nat) : Option (Int32 × jw_H) :=
 (jw_gR h 11 (some x0) 6).bind fun v1 =>
 (jw_gI h 9 v1 3).bind fun v2 =>
 some (v2, h)

set_option maxRecDepth 100000 in
set_option maxHeartbeats 4000000 in
theorem l_X11_present {hi : jw_H} {h : jw_H} {x0 : Nat} {r : Int32} {h' : jw_H} (hq : f_X11_present  h x0 = some (r, h')) : jw_E 0 uX11_present hi 0 [some (.ref x0)] [] h (.inl (some (.int r))) h' := by
  unfold f_X11_present at hq
  refine jw_aload_n dX11_present_0 (o := (some x0)) rfl ?_
  obtain ⟨v1, ev1, hq⟩ := Option.bind_eq_some_iff.mp hq
  refine jw_getR (o := (some x0)) dX11_present_1 ev1 fl_X11_38 rfl ?_
  obtain ⟨v2, ev2, hq⟩ := Option.bind_eq_some_iff.mp hq
  refine jw_getI (o := v1) dX11_present_4 ev2 fl_X11_189 rfl ?_
  cases hq
  exact jw_iret (ty := .int) dX11_present_7 rfl rfl

theorem c_X11_present {h : jw_H} {x0 : Nat} {r : Int32} {h' : jw_H} (hq : f_X11_present h x0 = some (r, h')) : jw_Con (Cond.code yX11_present cX11_present 1 (some .int)) yX11_present 0 [.ref x0] h (.inl (some (.int r))) h' :=
  jw_con false (plainFor_of_name (by decide +kernel)) (fun z => nomatch z) (by simp [jw_ent, jw_sl0_nil, jw_sl0_int, jw_sl0_long, jw_sl0_ref, jw_sl0_rf, jw_sl0_scr, List.replicate]) (by simp [jw_sl0_nil, jw_sl0_int, jw_sl0_long, jw_sl0_ref, jw_sl0_rf, jw_sl0_scr]) (l_X11_present hq)


/-! X11_mark -/
noncomputable def g_X11_mark_b9 (h : jw_H)  : Option ((Int32 ⊕ String) × jw_H) :=
 some (Sum.inr "java/lang/IndexOutOfBoundsException", jw_thw h)

noncomputable def f_X11_mark (h : jw_H) (x0 : Nat) (x1 : Int32) : Option ((Int32 ⊕ String) × jw_H) :=
 if x1 < 0 then (g_X11_mark_b9  h )
 else (if x1 < (5 : Int32) then ((jw_gR h 11 (some x0) 6).bind fun v3 =>
 (jw_rc h 9 v3).bind fun a4 =>
 jw_b2 (f_X9_markedLine h a4 x1) fun w6 h5 =>
 some (Sum.inl w6, h5))
 else (g_X11_mark_b9  h ))

set_option maxRecDepth 100000 in
set_option maxHeartbeats 4000000 in
theorem l_X11_mark_b9 {hi : jw_H} {h : jw_H}  {r : Int32 ⊕ String} {h' : jw_H} (hq : g_X11_mark_b9  h  = some (r, h')) : jw_E 8 uX11_mark hi 9 [none, none] [] h (jw_res r) h' := by
  unfold g_X11_mark_b9 at hq
  cases hq
  exact jw_throw th_X11_mark_9 (Nat.le_of_ble_eq_true rfl) (Nat.le_of_ble_eq_true rfl)

set_option maxRecDepth 100000 in
set_option maxHeartbeats 4000000 in
theorem l_X11_mark {hi : jw_H} {h : jw_H} {x0 : Nat} {x1 : Int32} {r : Int32 ⊕ String} {h' : jw_H} (hq : f_X11_mark  h x0 x1 = some (r, h')) : jw_E 8 uX11_mark hi 0 [some (.ref x0), some (.int x1)] [] h (jw_res r) h' := by
  unfold f_X11_mark at hq
  refine jw_iload_n dX11_mark_0 rfl ?_
  rcases jw_if hq with ⟨c1, hq⟩ | ⟨c1, hq⟩
  · refine jw_if_lt_t (tgt := 9) dX11_mark_1 (by decide) c1 ?_
    refine jw_forget [false, false] (L' := [none, none]) rfl ?_
    exact l_X11_mark_b9  hq
  · refine jw_if_lt_f (tgt := 9) dX11_mark_1 (by decide) c1 ?_
    refine jw_iload_n dX11_mark_4 rfl ?_
    refine jw_iconst dX11_mark_5 (v := (5 : Int32)) (by decide) ?_
    rcases jw_if hq with ⟨c2, hq⟩ | ⟨c2, hq⟩
    · refine jw_icmp_lt_t (tgt := 19) dX11_mark_6 (by decide) c2 ?_
      refine jw_aload_n dX11_mark_19 (o := (some x0)) rfl ?_
      obtain ⟨v3, ev3, hq⟩ := Option.bind_eq_some_iff.mp hq
      refine jw_getR (o := (some x0)) dX11_mark_20 ev3 fl_X11_38 rfl ?_
      refine jw_iload_n dX11_mark_23 rfl ?_
      obtain ⟨a4, ea4, hq⟩ := Option.bind_eq_some_iff.mp hq
      obtain ⟨eoa4, eta4⟩ := jw_rc_spec ea4
      obtain ⟨w6, h5, ew6, hq⟩ := jw_b2_spec hq
      refine jw_callV (As := [.int x1]) (S := []) (a := a4) (v := some (.int w6)) dX11_mark_24 mt_X9_markedLine in_X9_markedLine se_X9_markedLine lk_X11_194 (c_X9_markedLine ew6) eta4 (by decide) rfl rfl (by decide) (Nat.le_of_ble_eq_true rfl) (by cases eoa4; rfl) ?_
      cases hq
      exact jw_iret (ty := .int) dX11_mark_27 rfl rfl
    · refine jw_icmp_lt_f (tgt := 19) dX11_mark_6 (by decide) c2 ?_
      refine jw_forget [false, false] (L' := [none, none]) rfl ?_
      exact l_X11_mark_b9  hq

theorem c_X11_mark {h : jw_H} {x0 : Nat} {x1 : Int32} {r : Int32 ⊕ String} {h' : jw_H} (hq : f_X11_mark h x0 x1 = some (r, h')) : jw_Con (Cond.code yX11_mark cX11_mark 2 (some .int)) yX11_mark 8 [.ref x0, .int x1] h (jw_res r) h' :=
  jw_con false (plainFor_of_name (by decide +kernel)) (fun z => nomatch z) (by simp [jw_ent, jw_sl0_nil, jw_sl0_int, jw_sl0_long, jw_sl0_ref, jw_sl0_rf, jw_sl0_scr, List.replicate]) (by simp [jw_sl0_nil, jw_sl0_int, jw_sl0_long, jw_sl0_ref, jw_sl0_rf, jw_sl0_scr]) (l_X11_mark hq)


/-! X11_sample -/
noncomputable def g_X11_sample_b21 (h : jw_H)  : Option ((Int32 ⊕ String) × jw_H) :=
 some (Sum.inr "java/lang/IllegalArgumentException", jw_thw h)

noncomputable def f_X11_sample (h : jw_H) (x0 : Nat) (x1 : Int32) (x2 : Int32) : Option ((Int32 ⊕ String) × jw_H) :=
 if x1 < 0 then (g_X11_sample_b21  h )
 else (if (65535 : Int32) < x1 then (g_X11_sample_b21  h )
 else (if x2 < (1 : Int32) then (g_X11_sample_b21  h )
 else (if x2 ≤ (20 : Int32) then ((jw_gR h 11 (some x0) 6).bind fun v5 =>
 (jw_gR h 9 v5 0).bind fun v6 =>
 (jw_gI h 7 v6 2).bind fun v7 =>
 if (v7 + x2) ≤ (40 : Int32) then ((jw_gI h 11 (some x0) 13).bind fun v9 =>
 (jw_pI h 11 (some x0) 13 (v9 + (1 : Int32))).bind fun h10 =>
 (jw_gR h10 11 (some x0) 11).bind fun v11 =>
 (jw_gR h10 11 (some x0) 6).bind fun v12 =>
 (jw_rc h10 3 v11).bind fun a13 =>
 jw_b2 (f_X3_note h10 a13 v12) fun w15 h14 =>
 (jw_gR h14 11 (some x0) 6).bind fun v16 =>
 (jw_rc h14 9 v16).bind fun a17 =>
 jw_b2 (f_X9_addSample h14 a17 x1 x2) fun w19 h18 =>
 (jw_gR h18 11 (some x0) 11).bind fun v20 =>
 (jw_gI h18 11 (some x0) 13).bind fun v21 =>
 (jw_rc h18 3 v20).bind fun a22 =>
 jw_b2 (f_X3_store h18 a22 v21) fun w24 h23 =>
 (jw_gR h23 11 (some x0) 6).bind fun v25 =>
 (jw_gR h23 9 v25 0).bind fun v26 =>
 (jw_gI h23 7 v26 2).bind fun v27 =>
 some (Sum.inl v27, h23))
 else (some (Sum.inr "java/lang/IllegalStateException", jw_thw h)))
 else (g_X11_sample_b21  h ))))

set_option maxRecDepth 100000 in
set_option maxHeartbeats 4000000 in
theorem l_X11_sample_b21 {hi : jw_H} {h : jw_H}  {r : Int32 ⊕ String} {h' : jw_H} (hq : g_X11_sample_b21  h  = some (r, h')) : jw_E 8 uX11_sample hi 21 [none, none, none] [] h (jw_res r) h' := by
  unfold g_X11_sample_b21 at hq
  cases hq
  exact jw_throw th_X11_sample_21 (Nat.le_of_ble_eq_true rfl) (Nat.le_of_ble_eq_true rfl)

set_option maxRecDepth 100000 in
set_option maxHeartbeats 4000000 in
theorem l_X11_sample {hi : jw_H} {h : jw_H} {x0 : Nat} {x1 : Int32} {x2 : Int32} {r : Int32 ⊕ String} {h' : jw_H} (hq : f_X11_sample  h x0 x1 x2 = some (r, h')) : jw_E 8 uX11_sample hi 0 [some (.ref x0), some (.int x1), some (.int x2)] [] h (jw_res r) h' := by
  unfold f_X11_sample at hq
  refine jw_iload_n dX11_sample_0 rfl ?_
  rcases jw_if hq with ⟨c1, hq⟩ | ⟨c1, hq⟩
  · refine jw_if_lt_t (tgt := 21) dX11_sample_1 (by decide) c1 ?_
    refine jw_forget [false, false, false] (L' := [none, none, none]) rfl ?_
    exact l_X11_sample_b21  hq
  · refine jw_if_lt_f (tgt := 21) dX11_sample_1 (by decide) c1 ?_
    refine jw_iload_n dX11_sample_4 rfl ?_
    refine jw_ldc dX11_sample_5 cw_X11_197 ?_
    rcases jw_if hq with ⟨c2, hq⟩ | ⟨c2, hq⟩
    · refine jw_icmp_gt_t (tgt := 21) dX11_sample_7 (by decide) c2 ?_
      refine jw_forget [false, false, false] (L' := [none, none, none]) rfl ?_
      exact l_X11_sample_b21  hq
    · refine jw_icmp_gt_f (tgt := 21) dX11_sample_7 (by decide) c2 ?_
      refine jw_iload_n dX11_sample_10 rfl ?_
      refine jw_iconst dX11_sample_11 (v := (1 : Int32)) (by decide) ?_
      rcases jw_if hq with ⟨c3, hq⟩ | ⟨c3, hq⟩
      · refine jw_icmp_lt_t (tgt := 21) dX11_sample_12 (by decide) c3 ?_
        refine jw_forget [false, false, false] (L' := [none, none, none]) rfl ?_
        exact l_X11_sample_b21  hq
      · refine jw_icmp_lt_f (tgt := 21) dX11_sample_12 (by decide) c3 ?_
        refine jw_iload_n dX11_sample_15 rfl ?_
        refine jw_bipush dX11_sample_16 (v := (20 : Int32)) (by decide) ?_
        rcases jw_if hq with ⟨c4, hq⟩ | ⟨c4, hq⟩
        · refine jw_icmp_le_t (tgt := 31) dX11_sample_18 (by decide) c4 ?_
          refine jw_aload_n dX11_sample_31 (o := (some x0)) rfl ?_
          obtain ⟨v5, ev5, hq⟩ := Option.bind_eq_some_iff.mp hq
          refine jw_getR (o := (some x0)) dX11_sample_32 ev5 fl_X11_38 rfl ?_
          obtain ⟨v6, ev6, hq⟩ := Option.bind_eq_some_iff.mp hq
          refine jw_getR (o := v5) dX11_sample_35 ev6 fl_X11_160 rfl ?_
          obtain ⟨v7, ev7, hq⟩ := Option.bind_eq_some_iff.mp hq
          refine jw_getI (o := v6) dX11_sample_38 ev7 fl_X11_164 rfl ?_
          refine jw_iload_n dX11_sample_41 rfl ?_
          refine jw_iadd dX11_sample_42 ?_
          refine jw_bipush dX11_sample_43 (v := (40 : Int32)) (by decide) ?_
          rcases jw_if hq with ⟨c8, hq⟩ | ⟨c8, hq⟩
          · refine jw_icmp_le_t (tgt := 58) dX11_sample_45 (by decide) c8 ?_
            refine jw_aload_n dX11_sample_58 (o := (some x0)) rfl ?_
            refine jw_dup dX11_sample_59 rfl ?_
            obtain ⟨v9, ev9, hq⟩ := Option.bind_eq_some_iff.mp hq
            refine jw_getI (o := (some x0)) dX11_sample_60 ev9 fl_X11_113 rfl ?_
            refine jw_iconst dX11_sample_63 (v := (1 : Int32)) (by decide) ?_
            refine jw_iadd dX11_sample_64 ?_
            obtain ⟨h10, eh10, hq⟩ := Option.bind_eq_some_iff.mp hq
            refine jw_putI (o := (some x0)) dX11_sample_65 eh10 fl_X11_113 rfl rfl ?_
            refine jw_aload_n dX11_sample_68 (o := (some x0)) rfl ?_
            obtain ⟨v11, ev11, hq⟩ := Option.bind_eq_some_iff.mp hq
            refine jw_getR (o := (some x0)) dX11_sample_69 ev11 fl_X11_52 rfl ?_
            refine jw_aload_n dX11_sample_72 (o := (some x0)) rfl ?_
            obtain ⟨v12, ev12, hq⟩ := Option.bind_eq_some_iff.mp hq
            refine jw_getR (o := (some x0)) dX11_sample_73 ev12 fl_X11_38 rfl ?_
            obtain ⟨a13, ea13, hq⟩ := Option.bind_eq_some_iff.mp hq
            obtain ⟨eoa13, eta13⟩ := jw_rc_spec ea13
            obtain ⟨w15, h14, ew15, hq⟩ := jw_b2_spec hq
            refine jw_callV (As := [va_rf v12]) (S := []) (a := a13) (v := none) dX11_sample_76 mt_X3_note in_X3_note se_X3_note lk_X11_137 (c_X3_note ew15) eta13 (by decide) rfl rfl (by decide) (Nat.le_of_ble_eq_true rfl) (by cases eoa13; rfl) ?_
            refine jw_aload_n dX11_sample_79 (o := (some x0)) rfl ?_
            obtain ⟨v16, ev16, hq⟩ := Option.bind_eq_some_iff.mp hq
            refine jw_getR (o := (some x0)) dX11_sample_80 ev16 fl_X11_38 rfl ?_
            refine jw_iload_n dX11_sample_83 rfl ?_
            refine jw_iload_n dX11_sample_84 rfl ?_
            obtain ⟨a17, ea17, hq⟩ := Option.bind_eq_some_iff.mp hq
            obtain ⟨eoa17, eta17⟩ := jw_rc_spec ea17
            obtain ⟨w19, h18, ew19, hq⟩ := jw_b2_spec hq
            refine jw_callV (As := [.int x1, .int x2]) (S := []) (a := a17) (v := none) dX11_sample_85 mt_X9_addSample in_X9_addSample se_X9_addSample lk_X11_202 (c_X9_addSample ew19) eta17 (by decide) rfl rfl (by decide) (Nat.le_of_ble_eq_true rfl) (by cases eoa17; rfl) ?_
            refine jw_aload_n dX11_sample_88 (o := (some x0)) rfl ?_
            obtain ⟨v20, ev20, hq⟩ := Option.bind_eq_some_iff.mp hq
            refine jw_getR (o := (some x0)) dX11_sample_89 ev20 fl_X11_52 rfl ?_
            refine jw_aload_n dX11_sample_92 (o := (some x0)) rfl ?_
            obtain ⟨v21, ev21, hq⟩ := Option.bind_eq_some_iff.mp hq
            refine jw_getI (o := (some x0)) dX11_sample_93 ev21 fl_X11_113 rfl ?_
            obtain ⟨a22, ea22, hq⟩ := Option.bind_eq_some_iff.mp hq
            obtain ⟨eoa22, eta22⟩ := jw_rc_spec ea22
            obtain ⟨w24, h23, ew24, hq⟩ := jw_b2_spec hq
            refine jw_callV (As := [.int v21]) (S := []) (a := a22) (v := none) dX11_sample_96 mt_X3_store in_X3_store se_X3_store lk_X11_145 (c_X3_store ew24) eta22 (by decide) rfl rfl (by decide) (Nat.le_of_ble_eq_true rfl) (by cases eoa22; rfl) ?_
            refine jw_aload_n dX11_sample_99 (o := (some x0)) rfl ?_
            obtain ⟨v25, ev25, hq⟩ := Option.bind_eq_some_iff.mp hq
            refine jw_getR (o := (some x0)) dX11_sample_100 ev25 fl_X11_38 rfl ?_
            obtain ⟨v26, ev26, hq⟩ := Option.bind_eq_some_iff.mp hq
            refine jw_getR (o := v25) dX11_sample_103 ev26 fl_X11_160 rfl ?_
            obtain ⟨v27, ev27, hq⟩ := Option.bind_eq_some_iff.mp hq
            refine jw_getI (o := v26) dX11_sample_106 ev27 fl_X11_164 rfl ?_
            cases hq
            exact jw_iret (ty := .int) dX11_sample_109 rfl rfl
          · refine jw_icmp_le_f (tgt := 58) dX11_sample_45 (by decide) c8 ?_
            cases hq
            exact jw_throw th_X11_sample_48 (Nat.le_of_ble_eq_true rfl) (Nat.le_of_ble_eq_true rfl)
        · refine jw_icmp_le_f (tgt := 31) dX11_sample_18 (by decide) c4 ?_
          refine jw_forget [false, false, false] (L' := [none, none, none]) rfl ?_
          exact l_X11_sample_b21  hq

theorem c_X11_sample {h : jw_H} {x0 : Nat} {x1 : Int32} {x2 : Int32} {r : Int32 ⊕ String} {h' : jw_H} (hq : f_X11_sample h x0 x1 x2 = some (r, h')) : jw_Con (Cond.code yX11_sample cX11_sample 3 (some .int)) yX11_sample 8 [.ref x0, .int x1, .int x2] h (jw_res r) h' :=
  jw_con false (plainFor_of_name (by decide +kernel)) (fun z => nomatch z) (by simp [jw_ent, jw_sl0_nil, jw_sl0_int, jw_sl0_long, jw_sl0_ref, jw_sl0_rf, jw_sl0_scr, List.replicate]) (by simp [jw_sl0_nil, jw_sl0_int, jw_sl0_long, jw_sl0_ref, jw_sl0_rf, jw_sl0_scr]) (l_X11_sample hq)


/-! X11_held -/
noncomputable def f_X11_held (h : jw_H) (x0 : Nat) : Option (Int32 × jw_H) :=
 (jw_gR h 11 (some x0) 7).bind fun v1 =>
 (jw_gR h 8 v1 0).bind fun v2 =>
 (jw_gI h 7 v2 2).bind fun v3 =>
 some (v3, h)

set_option maxRecDepth 100000 in
set_option maxHeartbeats 4000000 in
theorem l_X11_held {hi : jw_H} {h : jw_H} {x0 : Nat} {r : Int32} {h' : jw_H} (hq : f_X11_held  h x0 = some (r, h')) : jw_E 0 uX11_held hi 0 [some (.ref x0)] [] h (.inl (some (.int r))) h' := by
  unfold f_X11_held at hq
  refine jw_aload_n dX11_held_0 (o := (some x0)) rfl ?_
  obtain ⟨v1, ev1, hq⟩ := Option.bind_eq_some_iff.mp hq
  refine jw_getR (o := (some x0)) dX11_held_1 ev1 fl_X11_45 rfl ?_
  obtain ⟨v2, ev2, hq⟩ := Option.bind_eq_some_iff.mp hq
  refine jw_getR (o := v1) dX11_held_4 ev2 fl_X11_206 rfl ?_
  obtain ⟨v3, ev3, hq⟩ := Option.bind_eq_some_iff.mp hq
  refine jw_getI (o := v2) dX11_held_7 ev3 fl_X11_164 rfl ?_
  cases hq
  exact jw_iret (ty := .int) dX11_held_10 rfl rfl

theorem c_X11_held {h : jw_H} {x0 : Nat} {r : Int32} {h' : jw_H} (hq : f_X11_held h x0 = some (r, h')) : jw_Con (Cond.code yX11_held cX11_held 1 (some .int)) yX11_held 0 [.ref x0] h (.inl (some (.int r))) h' :=
  jw_con false (plainFor_of_name (by decide +kernel)) (fun z => nomatch z) (by simp [jw_ent, jw_sl0_nil, jw_sl0_int, jw_sl0_long, jw_sl0_ref, jw_sl0_rf, jw_sl0_scr, List.replicate]) (by simp [jw_sl0_nil, jw_sl0_int, jw_sl0_long, jw_sl0_ref, jw_sl0_rf, jw_sl0_scr]) (l_X11_held hq)


/-! X11_heldLength -/
noncomputable def f_X11_heldLength (h : jw_H) (x0 : Nat) (x1 : Int32) : Option ((Int32 ⊕ String) × jw_H) :=
 (jw_gR h 11 (some x0) 7).bind fun v1 =>
 (jw_gR h 8 v1 0).bind fun v2 =>
 (jw_rc h 7 v2).bind fun a3 =>
 jw_b2 (f_X7_has h a3 x1) fun w5 h4 =>
 if w5 = 0 then (some (Sum.inr "java/lang/IndexOutOfBoundsException", jw_thw h4))
 else ((jw_gR h4 11 (some x0) 7).bind fun v7 =>
 (jw_gR h4 8 v7 0).bind fun v8 =>
 (jw_rc h4 7 v8).bind fun a9 =>
 jw_b2 (f_X7_lengthOf h4 a9 x1) fun w11 h10 =>
 some (Sum.inl w11, h10))

set_option maxRecDepth 100000 in
set_option maxHeartbeats 4000000 in
theorem l_X11_heldLength {hi : jw_H} {h : jw_H} {x0 : Nat} {x1 : Int32} {r : Int32 ⊕ String} {h' : jw_H} (hq : f_X11_heldLength  h x0 x1 = some (r, h')) : jw_E 8 uX11_heldLength hi 0 [some (.ref x0), some (.int x1)] [] h (jw_res r) h' := by
  unfold f_X11_heldLength at hq
  refine jw_aload_n dX11_heldLength_0 (o := (some x0)) rfl ?_
  obtain ⟨v1, ev1, hq⟩ := Option.bind_eq_some_iff.mp hq
  refine jw_getR (o := (some x0)) dX11_heldLength_1 ev1 fl_X11_45 rfl ?_
  obtain ⟨v2, ev2, hq⟩ := Option.bind_eq_some_iff.mp hq
  refine jw_getR (o := v1) dX11_heldLength_4 ev2 fl_X11_206 rfl ?_
  refine jw_iload_n dX11_heldLength_7 rfl ?_
  obtain ⟨a3, ea3, hq⟩ := Option.bind_eq_some_iff.mp hq
  obtain ⟨eoa3, eta3⟩ := jw_rc_spec ea3
  obtain ⟨w5, h4, ew5, hq⟩ := jw_b2_spec hq
  refine jw_callV (As := [.int x1]) (S := []) (a := a3) (v := some (.int w5)) dX11_heldLength_8 mt_X7_has in_X7_has se_X7_has lk_X11_169 (c_X7_has ew5) eta3 (by decide) rfl rfl (by decide) (Nat.le_of_ble_eq_true rfl) (by cases eoa3; rfl) ?_
  rcases jw_if hq with ⟨c6, hq⟩ | ⟨c6, hq⟩
  · refine jw_if_ne_f (tgt := 24) dX11_heldLength_11 (by decide) c6 ?_
    cases hq
    exact jw_throw th_X11_heldLength_14 (Nat.le_of_ble_eq_true rfl) (Nat.le_of_ble_eq_true rfl)
  · refine jw_if_ne_t (tgt := 24) dX11_heldLength_11 (by decide) c6 ?_
    refine jw_aload_n dX11_heldLength_24 (o := (some x0)) rfl ?_
    obtain ⟨v7, ev7, hq⟩ := Option.bind_eq_some_iff.mp hq
    refine jw_getR (o := (some x0)) dX11_heldLength_25 ev7 fl_X11_45 rfl ?_
    obtain ⟨v8, ev8, hq⟩ := Option.bind_eq_some_iff.mp hq
    refine jw_getR (o := v7) dX11_heldLength_28 ev8 fl_X11_206 rfl ?_
    refine jw_iload_n dX11_heldLength_31 rfl ?_
    obtain ⟨a9, ea9, hq⟩ := Option.bind_eq_some_iff.mp hq
    obtain ⟨eoa9, eta9⟩ := jw_rc_spec ea9
    obtain ⟨w11, h10, ew11, hq⟩ := jw_b2_spec hq
    refine jw_callV (As := [.int x1]) (S := []) (a := a9) (v := some (.int w11)) dX11_heldLength_32 mt_X7_lengthOf in_X7_lengthOf se_X7_lengthOf lk_X11_174 (c_X7_lengthOf ew11) eta9 (by decide) rfl rfl (by decide) (Nat.le_of_ble_eq_true rfl) (by cases eoa9; rfl) ?_
    cases hq
    exact jw_iret (ty := .int) dX11_heldLength_35 rfl rfl

theorem c_X11_heldLength {h : jw_H} {x0 : Nat} {x1 : Int32} {r : Int32 ⊕ String} {h' : jw_H} (hq : f_X11_heldLength h x0 x1 = some (r, h')) : jw_Con (Cond.code yX11_heldLength cX11_heldLength 2 (some .int)) yX11_heldLength 8 [.ref x0, .int x1] h (jw_res r) h' :=
  jw_con false (plainFor_of_name (by decide +kernel)) (fun z => nomatch z) (by simp [jw_ent, jw_sl0_nil, jw_sl0_int, jw_sl0_long, jw_sl0_ref, jw_sl0_rf, jw_sl0_scr, List.replicate]) (by simp [jw_sl0_nil, jw_sl0_int, jw_sl0_long, jw_sl0_ref, jw_sl0_rf, jw_sl0_scr]) (l_X11_heldLength hq)


/-! X11_heldAt -/
noncomputable def f_X11_heldAt (h : jw_H) (x0 : Nat) (x1 : Int32) (x2 : Int32) : Option ((Int32 ⊕ String) × jw_H) :=
 (jw_gR h 11 (some x0) 7).bind fun v1 =>
 (jw_gR h 8 v1 0).bind fun v2 =>
 (jw_rc h 7 v2).bind fun a3 =>
 jw_b2 (f_X7_signAt h a3 x1 x2) fun w5 h4 =>
 if w5 = (-1 : Int32) then (some (Sum.inr "java/lang/IndexOutOfBoundsException", jw_thw h4))
 else (some (Sum.inl w5, h4))

set_option maxRecDepth 100000 in
set_option maxHeartbeats 4000000 in
theorem l_X11_heldAt {hi : jw_H} {h : jw_H} {x0 : Nat} {x1 : Int32} {x2 : Int32} {r : Int32 ⊕ String} {h' : jw_H} (hq : f_X11_heldAt  h x0 x1 x2 = some (r, h')) : jw_E 8 uX11_heldAt hi 0 [some (.ref x0), some (.int x1), some (.int x2), none] [] h (jw_res r) h' := by
  unfold f_X11_heldAt at hq
  refine jw_aload_n dX11_heldAt_0 (o := (some x0)) rfl ?_
  obtain ⟨v1, ev1, hq⟩ := Option.bind_eq_some_iff.mp hq
  refine jw_getR (o := (some x0)) dX11_heldAt_1 ev1 fl_X11_45 rfl ?_
  obtain ⟨v2, ev2, hq⟩ := Option.bind_eq_some_iff.mp hq
  refine jw_getR (o := v1) dX11_heldAt_4 ev2 fl_X11_206 rfl ?_
  refine jw_iload_n dX11_heldAt_7 rfl ?_
  refine jw_iload_n dX11_heldAt_8 rfl ?_
  obtain ⟨a3, ea3, hq⟩ := Option.bind_eq_some_iff.mp hq
  obtain ⟨eoa3, eta3⟩ := jw_rc_spec ea3
  obtain ⟨w5, h4, ew5, hq⟩ := jw_b2_spec hq
  refine jw_callV (As := [.int x1, .int x2]) (S := []) (a := a3) (v := some (.int w5)) dX11_heldAt_9 mt_X7_signAt in_X7_signAt se_X7_signAt lk_X11_177 (c_X7_signAt ew5) eta3 (by decide) rfl rfl (by decide) (Nat.le_of_ble_eq_true rfl) (by cases eoa3; rfl) ?_
  refine jw_istore_n (L' := [some (.ref x0), some (.int x1), some (.int x2), some (.int w5)]) dX11_heldAt_12 (Nat.le_of_ble_eq_true rfl) rfl ?_
  refine jw_iload_n dX11_heldAt_13 rfl ?_
  refine jw_iconst dX11_heldAt_14 (v := (-1 : Int32)) (by decide) ?_
  rcases jw_if hq with ⟨c6, hq⟩ | ⟨c6, hq⟩
  · refine jw_icmp_ne_f (tgt := 28) dX11_heldAt_15 (by decide) c6 ?_
    cases hq
    exact jw_throw th_X11_heldAt_18 (Nat.le_of_ble_eq_true rfl) (Nat.le_of_ble_eq_true rfl)
  · refine jw_icmp_ne_t (tgt := 28) dX11_heldAt_15 (by decide) c6 ?_
    refine jw_iload_n dX11_heldAt_28 rfl ?_
    cases hq
    exact jw_iret (ty := .int) dX11_heldAt_29 rfl rfl

theorem c_X11_heldAt {h : jw_H} {x0 : Nat} {x1 : Int32} {x2 : Int32} {r : Int32 ⊕ String} {h' : jw_H} (hq : f_X11_heldAt h x0 x1 x2 = some (r, h')) : jw_Con (Cond.code yX11_heldAt cX11_heldAt 4 (some .int)) yX11_heldAt 8 [.ref x0, .int x1, .int x2] h (jw_res r) h' :=
  jw_con false (plainFor_of_name (by decide +kernel)) (fun z => nomatch z) (by simp [jw_ent, jw_sl0_nil, jw_sl0_int, jw_sl0_long, jw_sl0_ref, jw_sl0_rf, jw_sl0_scr, List.replicate]) (by simp [jw_sl0_nil, jw_sl0_int, jw_sl0_long, jw_sl0_ref, jw_sl0_rf, jw_sl0_scr]) (l_X11_heldAt hq)


/-! X11_outs -/
noncomputable def f_X11_outs (h : jw_H) (x0 : Nat) : Option (Int32 × jw_H) :=
 (jw_gR h 11 (some x0) 7).bind fun v1 =>
 (jw_gR h 8 v1 1).bind fun v2 =>
 (jw_gI h 7 v2 2).bind fun v3 =>
 some (v3, h)

set_option maxRecDepth 100000 in
set_option maxHeartbeats 4000000 in
theorem l_X11_outs {hi : jw_H} {h : jw_H} {x0 : Nat} {r : Int32} {h' : jw_H} (hq : f_X11_outs  h x0 = some (r, h')) : jw_E 0 uX11_outs hi 0 [some (.ref x0)] [] h (.inl (some (.int r))) h' := by
  unfold f_X11_outs at hq
  refine jw_aload_n dX11_outs_0 (o := (some x0)) rfl ?_
  obtain ⟨v1, ev1, hq⟩ := Option.bind_eq_some_iff.mp hq
  refine jw_getR (o := (some x0)) dX11_outs_1 ev1 fl_X11_45 rfl ?_
  obtain ⟨v2, ev2, hq⟩ := Option.bind_eq_some_iff.mp hq
  refine jw_getR (o := v1) dX11_outs_4 ev2 fl_X11_213 rfl ?_
  obtain ⟨v3, ev3, hq⟩ := Option.bind_eq_some_iff.mp hq
  refine jw_getI (o := v2) dX11_outs_7 ev3 fl_X11_164 rfl ?_
  cases hq
  exact jw_iret (ty := .int) dX11_outs_10 rfl rfl

theorem c_X11_outs {h : jw_H} {x0 : Nat} {r : Int32} {h' : jw_H} (hq : f_X11_outs h x0 = some (r, h')) : jw_Con (Cond.code yX11_outs cX11_outs 1 (some .int)) yX11_outs 0 [.ref x0] h (.inl (some (.int r))) h' :=
  jw_con false (plainFor_of_name (by decide +kernel)) (fun z => nomatch z) (by simp [jw_ent, jw_sl0_nil, jw_sl0_int, jw_sl0_long, jw_sl0_ref, jw_sl0_rf, jw_sl0_scr, List.replicate]) (by simp [jw_sl0_nil, jw_sl0_int, jw_sl0_long, jw_sl0_ref, jw_sl0_rf, jw_sl0_scr]) (l_X11_outs hq)


/-! X11_outLength -/
noncomputable def f_X11_outLength (h : jw_H) (x0 : Nat) (x1 : Int32) : Option ((Int32 ⊕ String) × jw_H) :=
 (jw_gR h 11 (some x0) 7).bind fun v1 =>
 (jw_gR h 8 v1 1).bind fun v2 =>
 (jw_rc h 7 v2).bind fun a3 =>
 jw_b2 (f_X7_has h a3 x1) fun w5 h4 =>
 if w5 = 0 then (some (Sum.inr "java/lang/IndexOutOfBoundsException", jw_thw h4))
 else ((jw_gR h4 11 (some x0) 7).bind fun v7 =>
 (jw_gR h4 8 v7 1).bind fun v8 =>
 (jw_rc h4 7 v8).bind fun a9 =>
 jw_b2 (f_X7_lengthOf h4 a9 x1) fun w11 h10 =>
 some (Sum.inl w11, h10))

set_option maxRecDepth 100000 in
set_option maxHeartbeats 4000000 in
theorem l_X11_outLength {hi : jw_H} {h : jw_H} {x0 : Nat} {x1 : Int32} {r : Int32 ⊕ String} {h' : jw_H} (hq : f_X11_outLength  h x0 x1 = some (r, h')) : jw_E 8 uX11_outLength hi 0 [some (.ref x0), some (.int x1)] [] h (jw_res r) h' := by
  unfold f_X11_outLength at hq
  refine jw_aload_n dX11_outLength_0 (o := (some x0)) rfl ?_
  obtain ⟨v1, ev1, hq⟩ := Option.bind_eq_some_iff.mp hq
  refine jw_getR (o := (some x0)) dX11_outLength_1 ev1 fl_X11_45 rfl ?_
  obtain ⟨v2, ev2, hq⟩ := Option.bind_eq_some_iff.mp hq
  refine jw_getR (o := v1) dX11_outLength_4 ev2 fl_X11_213 rfl ?_
  refine jw_iload_n dX11_outLength_7 rfl ?_
  obtain ⟨a3, ea3, hq⟩ := Option.bind_eq_some_iff.mp hq
  obtain ⟨eoa3, eta3⟩ := jw_rc_spec ea3
  obtain ⟨w5, h4, ew5, hq⟩ := jw_b2_spec hq
  refine jw_callV (As := [.int x1]) (S := []) (a := a3) (v := some (.int w5)) dX11_outLength_8 mt_X7_has in_X7_has se_X7_has lk_X11_169 (c_X7_has ew5) eta3 (by decide) rfl rfl (by decide) (Nat.le_of_ble_eq_true rfl) (by cases eoa3; rfl) ?_
  rcases jw_if hq with ⟨c6, hq⟩ | ⟨c6, hq⟩
  · refine jw_if_ne_f (tgt := 24) dX11_outLength_11 (by decide) c6 ?_
    cases hq
    exact jw_throw th_X11_outLength_14 (Nat.le_of_ble_eq_true rfl) (Nat.le_of_ble_eq_true rfl)
  · refine jw_if_ne_t (tgt := 24) dX11_outLength_11 (by decide) c6 ?_
    refine jw_aload_n dX11_outLength_24 (o := (some x0)) rfl ?_
    obtain ⟨v7, ev7, hq⟩ := Option.bind_eq_some_iff.mp hq
    refine jw_getR (o := (some x0)) dX11_outLength_25 ev7 fl_X11_45 rfl ?_
    obtain ⟨v8, ev8, hq⟩ := Option.bind_eq_some_iff.mp hq
    refine jw_getR (o := v7) dX11_outLength_28 ev8 fl_X11_213 rfl ?_
    refine jw_iload_n dX11_outLength_31 rfl ?_
    obtain ⟨a9, ea9, hq⟩ := Option.bind_eq_some_iff.mp hq
    obtain ⟨eoa9, eta9⟩ := jw_rc_spec ea9
    obtain ⟨w11, h10, ew11, hq⟩ := jw_b2_spec hq
    refine jw_callV (As := [.int x1]) (S := []) (a := a9) (v := some (.int w11)) dX11_outLength_32 mt_X7_lengthOf in_X7_lengthOf se_X7_lengthOf lk_X11_174 (c_X7_lengthOf ew11) eta9 (by decide) rfl rfl (by decide) (Nat.le_of_ble_eq_true rfl) (by cases eoa9; rfl) ?_
    cases hq
    exact jw_iret (ty := .int) dX11_outLength_35 rfl rfl

theorem c_X11_outLength {h : jw_H} {x0 : Nat} {x1 : Int32} {r : Int32 ⊕ String} {h' : jw_H} (hq : f_X11_outLength h x0 x1 = some (r, h')) : jw_Con (Cond.code yX11_outLength cX11_outLength 2 (some .int)) yX11_outLength 8 [.ref x0, .int x1] h (jw_res r) h' :=
  jw_con false (plainFor_of_name (by decide +kernel)) (fun z => nomatch z) (by simp [jw_ent, jw_sl0_nil, jw_sl0_int, jw_sl0_long, jw_sl0_ref, jw_sl0_rf, jw_sl0_scr, List.replicate]) (by simp [jw_sl0_nil, jw_sl0_int, jw_sl0_long, jw_sl0_ref, jw_sl0_rf, jw_sl0_scr]) (l_X11_outLength hq)


/-! X11_outAt -/
noncomputable def f_X11_outAt (h : jw_H) (x0 : Nat) (x1 : Int32) (x2 : Int32) : Option ((Int32 ⊕ String) × jw_H) :=
 (jw_gR h 11 (some x0) 7).bind fun v1 =>
 (jw_gR h 8 v1 1).bind fun v2 =>
 (jw_rc h 7 v2).bind fun a3 =>
 jw_b2 (f_X7_signAt h a3 x1 x2) fun w5 h4 =>
 if w5 = (-1 : Int32) then (some (Sum.inr "java/lang/IndexOutOfBoundsException", jw_thw h4))
 else (some (Sum.inl w5, h4))

set_option maxRecDepth 100000 in
set_option maxHeartbeats 4000000 in
theorem l_X11_outAt {hi : jw_H} {h : jw_H} {x0 : Nat} {x1 : Int32} {x2 : Int32} {r : Int32 ⊕ String} {h' : jw_H} (hq : f_X11_outAt  h x0 x1 x2 = some (r, h')) : jw_E 8 uX11_outAt hi 0 [some (.ref x0), some (.int x1), some (.int x2), none] [] h (jw_res r) h' := by
  unfold f_X11_outAt at hq
  refine jw_aload_n dX11_outAt_0 (o := (some x0)) rfl ?_
  obtain ⟨v1, ev1, hq⟩ := Option.bind_eq_some_iff.mp hq
  refine jw_getR (o := (some x0)) dX11_outAt_1 ev1 fl_X11_45 rfl ?_
  obtain ⟨v2, ev2, hq⟩ := Option.bind_eq_some_iff.mp hq
  refine jw_getR (o := v1) dX11_outAt_4 ev2 fl_X11_213 rfl ?_
  refine jw_iload_n dX11_outAt_7 rfl ?_
  refine jw_iload_n dX11_outAt_8 rfl ?_
  obtain ⟨a3, ea3, hq⟩ := Option.bind_eq_some_iff.mp hq
  obtain ⟨eoa3, eta3⟩ := jw_rc_spec ea3
  obtain ⟨w5, h4, ew5, hq⟩ := jw_b2_spec hq
  refine jw_callV (As := [.int x1, .int x2]) (S := []) (a := a3) (v := some (.int w5)) dX11_outAt_9 mt_X7_signAt in_X7_signAt se_X7_signAt lk_X11_177 (c_X7_signAt ew5) eta3 (by decide) rfl rfl (by decide) (Nat.le_of_ble_eq_true rfl) (by cases eoa3; rfl) ?_
  refine jw_istore_n (L' := [some (.ref x0), some (.int x1), some (.int x2), some (.int w5)]) dX11_outAt_12 (Nat.le_of_ble_eq_true rfl) rfl ?_
  refine jw_iload_n dX11_outAt_13 rfl ?_
  refine jw_iconst dX11_outAt_14 (v := (-1 : Int32)) (by decide) ?_
  rcases jw_if hq with ⟨c6, hq⟩ | ⟨c6, hq⟩
  · refine jw_icmp_ne_f (tgt := 28) dX11_outAt_15 (by decide) c6 ?_
    cases hq
    exact jw_throw th_X11_outAt_18 (Nat.le_of_ble_eq_true rfl) (Nat.le_of_ble_eq_true rfl)
  · refine jw_icmp_ne_t (tgt := 28) dX11_outAt_15 (by decide) c6 ?_
    refine jw_iload_n dX11_outAt_28 rfl ?_
    cases hq
    exact jw_iret (ty := .int) dX11_outAt_29 rfl rfl

theorem c_X11_outAt {h : jw_H} {x0 : Nat} {x1 : Int32} {x2 : Int32} {r : Int32 ⊕ String} {h' : jw_H} (hq : f_X11_outAt h x0 x1 x2 = some (r, h')) : jw_Con (Cond.code yX11_outAt cX11_outAt 4 (some .int)) yX11_outAt 8 [.ref x0, .int x1, .int x2] h (jw_res r) h' :=
  jw_con false (plainFor_of_name (by decide +kernel)) (fun z => nomatch z) (by simp [jw_ent, jw_sl0_nil, jw_sl0_int, jw_sl0_long, jw_sl0_ref, jw_sl0_rf, jw_sl0_scr, List.replicate]) (by simp [jw_sl0_nil, jw_sl0_int, jw_sl0_long, jw_sl0_ref, jw_sl0_rf, jw_sl0_scr]) (l_X11_outAt hq)


/-! X11_clearOut -/
noncomputable def f_X11_clearOut (h : jw_H) (x0 : Nat) : Option (Int32 × jw_H) :=
 (jw_gR h 11 (some x0) 7).bind fun v1 =>
 (jw_gR h 8 v1 1).bind fun v2 =>
 (jw_gI h 7 v2 2).bind fun v3 =>
 (jw_gR h 11 (some x0) 7).bind fun v4 =>
 (jw_gR h 8 v4 1).bind fun v5 =>
 (jw_rc h 7 v5).bind fun a6 =>
 jw_b2 (f_X7_shrink h a6 (0 : Int32)) fun w8 h7 =>
 some (v3, h7)

set_option maxRecDepth 100000 in
set_option maxHeartbeats 4000000 in
theorem l_X11_clearOut {hi : jw_H} {h : jw_H} {x0 : Nat} {r : Int32} {h' : jw_H} (hq : f_X11_clearOut  h x0 = some (r, h')) : jw_E 1 uX11_clearOut hi 0 [some (.ref x0), none] [] h (.inl (some (.int r))) h' := by
  unfold f_X11_clearOut at hq
  refine jw_aload_n dX11_clearOut_0 (o := (some x0)) rfl ?_
  obtain ⟨v1, ev1, hq⟩ := Option.bind_eq_some_iff.mp hq
  refine jw_getR (o := (some x0)) dX11_clearOut_1 ev1 fl_X11_45 rfl ?_
  obtain ⟨v2, ev2, hq⟩ := Option.bind_eq_some_iff.mp hq
  refine jw_getR (o := v1) dX11_clearOut_4 ev2 fl_X11_213 rfl ?_
  obtain ⟨v3, ev3, hq⟩ := Option.bind_eq_some_iff.mp hq
  refine jw_getI (o := v2) dX11_clearOut_7 ev3 fl_X11_164 rfl ?_
  refine jw_istore_n (L' := [some (.ref x0), some (.int v3)]) dX11_clearOut_10 (Nat.le_of_ble_eq_true rfl) rfl ?_
  refine jw_aload_n dX11_clearOut_11 (o := (some x0)) rfl ?_
  obtain ⟨v4, ev4, hq⟩ := Option.bind_eq_some_iff.mp hq
  refine jw_getR (o := (some x0)) dX11_clearOut_12 ev4 fl_X11_45 rfl ?_
  obtain ⟨v5, ev5, hq⟩ := Option.bind_eq_some_iff.mp hq
  refine jw_getR (o := v4) dX11_clearOut_15 ev5 fl_X11_213 rfl ?_
  refine jw_iconst dX11_clearOut_18 (v := (0 : Int32)) (by decide) ?_
  obtain ⟨a6, ea6, hq⟩ := Option.bind_eq_some_iff.mp hq
  obtain ⟨eoa6, eta6⟩ := jw_rc_spec ea6
  obtain ⟨w8, h7, ew8, hq⟩ := jw_b2_spec hq
  refine jw_callV (As := [.int (0 : Int32)]) (S := []) (a := a6) (v := none) dX11_clearOut_19 mt_X7_shrink in_X7_shrink se_X7_shrink lk_X11_218 (c_X7_shrink ew8) eta6 (by decide) rfl rfl (by decide) (Nat.le_of_ble_eq_true rfl) (by cases eoa6; rfl) ?_
  refine jw_iload_n dX11_clearOut_22 rfl ?_
  cases hq
  exact jw_iret (ty := .int) dX11_clearOut_23 rfl rfl

theorem c_X11_clearOut {h : jw_H} {x0 : Nat} {r : Int32} {h' : jw_H} (hq : f_X11_clearOut h x0 = some (r, h')) : jw_Con (Cond.code yX11_clearOut cX11_clearOut 2 (some .int)) yX11_clearOut 1 [.ref x0] h (.inl (some (.int r))) h' :=
  jw_con false (plainFor_of_name (by decide +kernel)) (fun z => nomatch z) (by simp [jw_ent, jw_sl0_nil, jw_sl0_int, jw_sl0_long, jw_sl0_ref, jw_sl0_rf, jw_sl0_scr, List.replicate]) (by simp [jw_sl0_nil, jw_sl0_int, jw_sl0_long, jw_sl0_ref, jw_sl0_rf, jw_sl0_scr]) (l_X11_clearOut hq)


/-! X11_fileRows -/
noncomputable def f_X11_fileRows (h : jw_H) (x0 : Nat) (x1 : Int32) : Option ((Int32 ⊕ String) × jw_H) :=
 (jw_gR h 11 (some x0) 7).bind fun v1 =>
 (jw_rc h 8 v1).bind fun a2 =>
 jw_b2 (f_X8_file h a2 x1) fun w4 h3 =>
 if w4 = none then (some (Sum.inr "java/lang/IndexOutOfBoundsException", jw_thw h3))
 else ((jw_gI h3 7 w4 2).bind fun v6 =>
 some (Sum.inl v6, h3))

set_option maxRecDepth 100000 in
set_option maxHeartbeats 4000000 in
theorem l_X11_fileRows {hi : jw_H} {h : jw_H} {x0 : Nat} {x1 : Int32} {r : Int32 ⊕ String} {h' : jw_H} (hq : f_X11_fileRows  h x0 x1 = some (r, h')) : jw_E 8 uX11_fileRows hi 0 [some (.ref x0), some (.int x1), none] [] h (jw_res r) h' := by
  unfold f_X11_fileRows at hq
  refine jw_aload_n dX11_fileRows_0 (o := (some x0)) rfl ?_
  obtain ⟨v1, ev1, hq⟩ := Option.bind_eq_some_iff.mp hq
  refine jw_getR (o := (some x0)) dX11_fileRows_1 ev1 fl_X11_45 rfl ?_
  refine jw_iload_n dX11_fileRows_4 rfl ?_
  obtain ⟨a2, ea2, hq⟩ := Option.bind_eq_some_iff.mp hq
  obtain ⟨eoa2, eta2⟩ := jw_rc_spec ea2
  obtain ⟨w4, h3, ew4, hq⟩ := jw_b2_spec hq
  refine jw_callV (As := [.int x1]) (S := []) (a := a2) (v := some (va_rf w4)) dX11_fileRows_5 mt_X8_file in_X8_file se_X8_file lk_X11_221 (c_X8_file ew4) eta2 (by decide) rfl rfl (by decide) (Nat.le_of_ble_eq_true rfl) (by cases eoa2; rfl) ?_
  refine jw_astore_n (o := w4) (L' := [some (.ref x0), some (.int x1), some (va_rf w4)]) dX11_fileRows_8 (Nat.le_of_ble_eq_true rfl) rfl ?_
  refine jw_aload_n dX11_fileRows_9 (o := w4) rfl ?_
  rcases jw_if hq with ⟨c5, hq⟩ | ⟨c5, hq⟩
  · refine jw_ifnonnull_f (o := w4) dX11_fileRows_10 c5 ?_
    cases hq
    exact jw_throw th_X11_fileRows_13 (Nat.le_of_ble_eq_true rfl) (Nat.le_of_ble_eq_true rfl)
  · refine jw_ifnonnull_t (o := w4) (tgt := 23) dX11_fileRows_10 (by decide) c5 ?_
    refine jw_aload_n dX11_fileRows_23 (o := w4) rfl ?_
    obtain ⟨v6, ev6, hq⟩ := Option.bind_eq_some_iff.mp hq
    refine jw_getI (o := w4) dX11_fileRows_24 ev6 fl_X11_164 rfl ?_
    cases hq
    exact jw_iret (ty := .int) dX11_fileRows_27 rfl rfl

theorem c_X11_fileRows {h : jw_H} {x0 : Nat} {x1 : Int32} {r : Int32 ⊕ String} {h' : jw_H} (hq : f_X11_fileRows h x0 x1 = some (r, h')) : jw_Con (Cond.code yX11_fileRows cX11_fileRows 3 (some .int)) yX11_fileRows 8 [.ref x0, .int x1] h (jw_res r) h' :=
  jw_con false (plainFor_of_name (by decide +kernel)) (fun z => nomatch z) (by simp [jw_ent, jw_sl0_nil, jw_sl0_int, jw_sl0_long, jw_sl0_ref, jw_sl0_rf, jw_sl0_scr, List.replicate]) (by simp [jw_sl0_nil, jw_sl0_int, jw_sl0_long, jw_sl0_ref, jw_sl0_rf, jw_sl0_scr]) (l_X11_fileRows hq)


/-! X11_fileLength -/
noncomputable def g_X11_fileLength_b21 (h : jw_H)  : Option ((Int32 ⊕ String) × jw_H) :=
 some (Sum.inr "java/lang/IndexOutOfBoundsException", jw_thw h)

noncomputable def f_X11_fileLength (h : jw_H) (x0 : Nat) (x1 : Int32) (x2 : Int32) : Option ((Int32 ⊕ String) × jw_H) :=
 (jw_gR h 11 (some x0) 7).bind fun v1 =>
 (jw_rc h 8 v1).bind fun a2 =>
 jw_b2 (f_X8_file h a2 x1) fun w4 h3 =>
 if w4 = none then (g_X11_fileLength_b21  h3 )
 else ((jw_rc h3 7 w4).bind fun a6 =>
 jw_b2 (f_X7_has h3 a6 x2) fun w8 h7 =>
 if w8 = 0 then (g_X11_fileLength_b21  h7 )
 else ((jw_rc h7 7 w4).bind fun a10 =>
 jw_b2 (f_X7_lengthOf h7 a10 x2) fun w12 h11 =>
 some (Sum.inl w12, h11)))

set_option maxRecDepth 100000 in
set_option maxHeartbeats 4000000 in
theorem l_X11_fileLength_b21 {hi : jw_H} {h : jw_H}  {r : Int32 ⊕ String} {h' : jw_H} (hq : g_X11_fileLength_b21  h  = some (r, h')) : jw_E 8 uX11_fileLength hi 21 [none, none, none, none] [] h (jw_res r) h' := by
  unfold g_X11_fileLength_b21 at hq
  cases hq
  exact jw_throw th_X11_fileLength_21 (Nat.le_of_ble_eq_true rfl) (Nat.le_of_ble_eq_true rfl)

set_option maxRecDepth 100000 in
set_option maxHeartbeats 4000000 in
theorem l_X11_fileLength {hi : jw_H} {h : jw_H} {x0 : Nat} {x1 : Int32} {x2 : Int32} {r : Int32 ⊕ String} {h' : jw_H} (hq : f_X11_fileLength  h x0 x1 x2 = some (r, h')) : jw_E 8 uX11_fileLength hi 0 [some (.ref x0), some (.int x1), some (.int x2), none] [] h (jw_res r) h' := by
  unfold f_X11_fileLength at hq
  refine jw_aload_n dX11_fileLength_0 (o := (some x0)) rfl ?_
  obtain ⟨v1, ev1, hq⟩ := Option.bind_eq_some_iff.mp hq
  refine jw_getR (o := (some x0)) dX11_fileLength_1 ev1 fl_X11_45 rfl ?_
  refine jw_iload_n dX11_fileLength_4 rfl ?_
  obtain ⟨a2, ea2, hq⟩ := Option.bind_eq_some_iff.mp hq
  obtain ⟨eoa2, eta2⟩ := jw_rc_spec ea2
  obtain ⟨w4, h3, ew4, hq⟩ := jw_b2_spec hq
  refine jw_callV (As := [.int x1]) (S := []) (a := a2) (v := some (va_rf w4)) dX11_fileLength_5 mt_X8_file in_X8_file se_X8_file lk_X11_221 (c_X8_file ew4) eta2 (by decide) rfl rfl (by decide) (Nat.le_of_ble_eq_true rfl) (by cases eoa2; rfl) ?_
  refine jw_astore_n (o := w4) (L' := [some (.ref x0), some (.int x1), some (.int x2), some (va_rf w4)]) dX11_fileLength_8 (Nat.le_of_ble_eq_true rfl) rfl ?_
  refine jw_aload_n dX11_fileLength_9 (o := w4) rfl ?_
  rcases jw_if hq with ⟨c5, hq⟩ | ⟨c5, hq⟩
  · refine jw_ifnull_t (o := w4) (tgt := 21) dX11_fileLength_10 (by decide) c5 ?_
    refine jw_forget [false, false, false, false] (L' := [none, none, none, none]) rfl ?_
    exact l_X11_fileLength_b21  hq
  · refine jw_ifnull_f (o := w4) dX11_fileLength_10 c5 ?_
    refine jw_aload_n dX11_fileLength_13 (o := w4) rfl ?_
    refine jw_iload_n dX11_fileLength_14 rfl ?_
    obtain ⟨a6, ea6, hq⟩ := Option.bind_eq_some_iff.mp hq
    obtain ⟨eoa6, eta6⟩ := jw_rc_spec ea6
    obtain ⟨w8, h7, ew8, hq⟩ := jw_b2_spec hq
    refine jw_callV (As := [.int x2]) (S := []) (a := a6) (v := some (.int w8)) dX11_fileLength_15 mt_X7_has in_X7_has se_X7_has lk_X11_169 (c_X7_has ew8) eta6 (by decide) rfl rfl (by decide) (Nat.le_of_ble_eq_true rfl) (by cases eoa6; rfl) ?_
    rcases jw_if hq with ⟨c9, hq⟩ | ⟨c9, hq⟩
    · refine jw_if_ne_f (tgt := 31) dX11_fileLength_18 (by decide) c9 ?_
      refine jw_forget [false, false, false, false] (L' := [none, none, none, none]) rfl ?_
      exact l_X11_fileLength_b21  hq
    · refine jw_if_ne_t (tgt := 31) dX11_fileLength_18 (by decide) c9 ?_
      refine jw_aload_n dX11_fileLength_31 (o := w4) rfl ?_
      refine jw_iload_n dX11_fileLength_32 rfl ?_
      obtain ⟨a10, ea10, hq⟩ := Option.bind_eq_some_iff.mp hq
      obtain ⟨eoa10, eta10⟩ := jw_rc_spec ea10
      obtain ⟨w12, h11, ew12, hq⟩ := jw_b2_spec hq
      refine jw_callV (As := [.int x2]) (S := []) (a := a10) (v := some (.int w12)) dX11_fileLength_33 mt_X7_lengthOf in_X7_lengthOf se_X7_lengthOf lk_X11_174 (c_X7_lengthOf ew12) eta10 (by decide) rfl rfl (by decide) (Nat.le_of_ble_eq_true rfl) (by cases eoa10; rfl) ?_
      cases hq
      exact jw_iret (ty := .int) dX11_fileLength_36 rfl rfl

theorem c_X11_fileLength {h : jw_H} {x0 : Nat} {x1 : Int32} {x2 : Int32} {r : Int32 ⊕ String} {h' : jw_H} (hq : f_X11_fileLength h x0 x1 x2 = some (r, h')) : jw_Con (Cond.code yX11_fileLength cX11_fileLength 4 (some .int)) yX11_fileLength 8 [.ref x0, .int x1, .int x2] h (jw_res r) h' :=
  jw_con false (plainFor_of_name (by decide +kernel)) (fun z => nomatch z) (by simp [jw_ent, jw_sl0_nil, jw_sl0_int, jw_sl0_long, jw_sl0_ref, jw_sl0_rf, jw_sl0_scr, List.replicate]) (by simp [jw_sl0_nil, jw_sl0_int, jw_sl0_long, jw_sl0_ref, jw_sl0_rf, jw_sl0_scr]) (l_X11_fileLength hq)


/-! X11_fileAt -/
noncomputable def g_X11_fileAt_b26 (h : jw_H)  : Option ((Int32 ⊕ String) × jw_H) :=
 some (Sum.inr "java/lang/IndexOutOfBoundsException", jw_thw h)

noncomputable def f_X11_fileAt (h : jw_H) (x0 : Nat) (x1 : Int32) (x2 : Int32) (x3 : Int32) : Option ((Int32 ⊕ String) × jw_H) :=
 (jw_gR h 11 (some x0) 7).bind fun v1 =>
 (jw_rc h 8 v1).bind fun a2 =>
 jw_b2 (f_X8_file h a2 x1) fun w4 h3 =>
 if w4 = none then (g_X11_fileAt_b26  h3 )
 else ((jw_rc h3 7 w4).bind fun a6 =>
 jw_b2 (f_X7_signAt h3 a6 x2 x3) fun w8 h7 =>
 if w8 = (-1 : Int32) then (g_X11_fileAt_b26  h7 )
 else ((jw_rc h7 7 w4).bind fun a10 =>
 jw_b2 (f_X7_signAt h7 a10 x2 x3) fun w12 h11 =>
 some (Sum.inl w12, h11)))

set_option maxRecDepth 100000 in
set_option maxHeartbeats 4000000 in
theorem l_X11_fileAt_b26 {hi : jw_H} {h : jw_H}  {r : Int32 ⊕ String} {h' : jw_H} (hq : g_X11_fileAt_b26  h  = some (r, h')) : jw_E 8 uX11_fileAt hi 26 [none, none, none, none, none] [] h (jw_res r) h' := by
  unfold g_X11_fileAt_b26 at hq
  cases hq
  exact jw_throw th_X11_fileAt_26 (Nat.le_of_ble_eq_true rfl) (Nat.le_of_ble_eq_true rfl)

set_option maxRecDepth 100000 in
set_option maxHeartbeats 4000000 in
theorem l_X11_fileAt {hi : jw_H} {h : jw_H} {x0 : Nat} {x1 : Int32} {x2 : Int32} {x3 : Int32} {r : Int32 ⊕ String} {h' : jw_H} (hq : f_X11_fileAt  h x0 x1 x2 x3 = some (r, h')) : jw_E 8 uX11_fileAt hi 0 [some (.ref x0), some (.int x1), some (.int x2), some (.int x3), none] [] h (jw_res r) h' := by
  unfold f_X11_fileAt at hq
  refine jw_aload_n dX11_fileAt_0 (o := (some x0)) rfl ?_
  obtain ⟨v1, ev1, hq⟩ := Option.bind_eq_some_iff.mp hq
  refine jw_getR (o := (some x0)) dX11_fileAt_1 ev1 fl_X11_45 rfl ?_
  refine jw_iload_n dX11_fileAt_4 rfl ?_
  obtain ⟨a2, ea2, hq⟩ := Option.bind_eq_some_iff.mp hq
  obtain ⟨eoa2, eta2⟩ := jw_rc_spec ea2
  obtain ⟨w4, h3, ew4, hq⟩ := jw_b2_spec hq
  refine jw_callV (As := [.int x1]) (S := []) (a := a2) (v := some (va_rf w4)) dX11_fileAt_5 mt_X8_file in_X8_file se_X8_file lk_X11_221 (c_X8_file ew4) eta2 (by decide) rfl rfl (by decide) (Nat.le_of_ble_eq_true rfl) (by cases eoa2; rfl) ?_
  refine jw_astore (o := w4) (L' := [some (.ref x0), some (.int x1), some (.int x2), some (.int x3), some (va_rf w4)]) dX11_fileAt_8 (Nat.le_of_ble_eq_true rfl) rfl ?_
  refine jw_aload dX11_fileAt_10 (o := w4) rfl ?_
  rcases jw_if hq with ⟨c5, hq⟩ | ⟨c5, hq⟩
  · refine jw_ifnull_t (o := w4) (tgt := 26) dX11_fileAt_12 (by decide) c5 ?_
    refine jw_forget [false, false, false, false, false] (L' := [none, none, none, none, none]) rfl ?_
    exact l_X11_fileAt_b26  hq
  · refine jw_ifnull_f (o := w4) dX11_fileAt_12 c5 ?_
    refine jw_aload dX11_fileAt_15 (o := w4) rfl ?_
    refine jw_iload_n dX11_fileAt_17 rfl ?_
    refine jw_iload_n dX11_fileAt_18 rfl ?_
    obtain ⟨a6, ea6, hq⟩ := Option.bind_eq_some_iff.mp hq
    obtain ⟨eoa6, eta6⟩ := jw_rc_spec ea6
    obtain ⟨w8, h7, ew8, hq⟩ := jw_b2_spec hq
    refine jw_callV (As := [.int x2, .int x3]) (S := []) (a := a6) (v := some (.int w8)) dX11_fileAt_19 mt_X7_signAt in_X7_signAt se_X7_signAt lk_X11_177 (c_X7_signAt ew8) eta6 (by decide) rfl rfl (by decide) (Nat.le_of_ble_eq_true rfl) (by cases eoa6; rfl) ?_
    refine jw_iconst dX11_fileAt_22 (v := (-1 : Int32)) (by decide) ?_
    rcases jw_if hq with ⟨c9, hq⟩ | ⟨c9, hq⟩
    · refine jw_icmp_ne_f (tgt := 36) dX11_fileAt_23 (by decide) c9 ?_
      refine jw_forget [false, false, false, false, false] (L' := [none, none, none, none, none]) rfl ?_
      exact l_X11_fileAt_b26  hq
    · refine jw_icmp_ne_t (tgt := 36) dX11_fileAt_23 (by decide) c9 ?_
      refine jw_aload dX11_fileAt_36 (o := w4) rfl ?_
      refine jw_iload_n dX11_fileAt_38 rfl ?_
      refine jw_iload_n dX11_fileAt_39 rfl ?_
      obtain ⟨a10, ea10, hq⟩ := Option.bind_eq_some_iff.mp hq
      obtain ⟨eoa10, eta10⟩ := jw_rc_spec ea10
      obtain ⟨w12, h11, ew12, hq⟩ := jw_b2_spec hq
      refine jw_callV (As := [.int x2, .int x3]) (S := []) (a := a10) (v := some (.int w12)) dX11_fileAt_40 mt_X7_signAt in_X7_signAt se_X7_signAt lk_X11_177 (c_X7_signAt ew12) eta10 (by decide) rfl rfl (by decide) (Nat.le_of_ble_eq_true rfl) (by cases eoa10; rfl) ?_
      cases hq
      exact jw_iret (ty := .int) dX11_fileAt_43 rfl rfl

theorem c_X11_fileAt {h : jw_H} {x0 : Nat} {x1 : Int32} {x2 : Int32} {x3 : Int32} {r : Int32 ⊕ String} {h' : jw_H} (hq : f_X11_fileAt h x0 x1 x2 x3 = some (r, h')) : jw_Con (Cond.code yX11_fileAt cX11_fileAt 5 (some .int)) yX11_fileAt 8 [.ref x0, .int x1, .int x2, .int x3] h (jw_res r) h' :=
  jw_con false (plainFor_of_name (by decide +kernel)) (fun z => nomatch z) (by simp [jw_ent, jw_sl0_nil, jw_sl0_int, jw_sl0_long, jw_sl0_ref, jw_sl0_rf, jw_sl0_scr, List.replicate]) (by simp [jw_sl0_nil, jw_sl0_int, jw_sl0_long, jw_sl0_ref, jw_sl0_rf, jw_sl0_scr]) (l_X11_fileAt hq)


/-! X11_find -/
noncomputable def f_X11_find (h : jw_H) (x0 : Nat) (x1 : Int32) : Option ((Int32 ⊕ String) × jw_H) :=
 (jw_gR h 11 (some x0) 5).bind fun v1 =>
 (jw_gR h 11 (some x0) 0).bind fun v2 =>
 (jw_gI h 11 (some x0) 12).bind fun v3 =>
 (jw_rc h 6 v1).bind fun a4 =>
 jw_b2 (f_X6_readTapePattern h a4 v2 v3) fun w6 h5 =>
 if w6 = (-1 : Int32) then ((jw_gR h5 11 (some x0) 8).bind fun v8 =>
 (jw_gR h5 11 (some x0) 6).bind fun v9 =>
 (jw_rc h5 4 v8).bind fun a10 =>
 jw_b2 (f_X4_lineWith h5 a10 v9 (0 : Int32) x1) fun w12 h11 =>
 some (Sum.inl w12, h11))
 else (some (Sum.inr "java/lang/IllegalStateException", jw_thw h5))

set_option maxRecDepth 100000 in
set_option maxHeartbeats 4000000 in
theorem l_X11_find {hi : jw_H} {h : jw_H} {x0 : Nat} {x1 : Int32} {r : Int32 ⊕ String} {h' : jw_H} (hq : f_X11_find  h x0 x1 = some (r, h')) : jw_E 9 uX11_find hi 0 [some (.ref x0), some (.int x1)] [] h (jw_res r) h' := by
  unfold f_X11_find at hq
  refine jw_aload_n dX11_find_0 (o := (some x0)) rfl ?_
  obtain ⟨v1, ev1, hq⟩ := Option.bind_eq_some_iff.mp hq
  refine jw_getR (o := (some x0)) dX11_find_1 ev1 fl_X11_31 rfl ?_
  refine jw_aload_n dX11_find_4 (o := (some x0)) rfl ?_
  obtain ⟨v2, ev2, hq⟩ := Option.bind_eq_some_iff.mp hq
  refine jw_getR (o := (some x0)) dX11_find_5 ev2 fl_X11_9 rfl ?_
  refine jw_aload_n dX11_find_8 (o := (some x0)) rfl ?_
  obtain ⟨v3, ev3, hq⟩ := Option.bind_eq_some_iff.mp hq
  refine jw_getI (o := (some x0)) dX11_find_9 ev3 fl_X11_95 rfl ?_
  obtain ⟨a4, ea4, hq⟩ := Option.bind_eq_some_iff.mp hq
  obtain ⟨eoa4, eta4⟩ := jw_rc_spec ea4
  obtain ⟨w6, h5, ew6, hq⟩ := jw_b2_spec hq
  refine jw_callV (As := [va_rf v2, .int v3]) (S := []) (a := a4) (v := some (.int w6)) dX11_find_12 mt_X6_readTapePattern in_X6_readTapePattern se_X6_readTapePattern lk_X11_108 (c_X6_readTapePattern ew6) eta4 (by decide) rfl rfl (by decide) (Nat.le_of_ble_eq_true rfl) (by cases eoa4; rfl) ?_
  refine jw_iconst dX11_find_15 (v := (-1 : Int32)) (by decide) ?_
  rcases jw_if hq with ⟨c7, hq⟩ | ⟨c7, hq⟩
  · refine jw_icmp_eq_t (tgt := 29) dX11_find_16 (by decide) c7 ?_
    refine jw_aload_n dX11_find_29 (o := (some x0)) rfl ?_
    obtain ⟨v8, ev8, hq⟩ := Option.bind_eq_some_iff.mp hq
    refine jw_getR (o := (some x0)) dX11_find_30 ev8 fl_X11_61 rfl ?_
    refine jw_aload_n dX11_find_33 (o := (some x0)) rfl ?_
    obtain ⟨v9, ev9, hq⟩ := Option.bind_eq_some_iff.mp hq
    refine jw_getR (o := (some x0)) dX11_find_34 ev9 fl_X11_38 rfl ?_
    refine jw_iconst dX11_find_37 (v := (0 : Int32)) (by decide) ?_
    refine jw_iload_n dX11_find_38 rfl ?_
    obtain ⟨a10, ea10, hq⟩ := Option.bind_eq_some_iff.mp hq
    obtain ⟨eoa10, eta10⟩ := jw_rc_spec ea10
    obtain ⟨w12, h11, ew12, hq⟩ := jw_b2_spec hq
    refine jw_callV (As := [va_rf v9, .int (0 : Int32), .int x1]) (S := []) (a := a10) (v := some (.int w12)) dX11_find_39 mt_X4_lineWith in_X4_lineWith se_X4_lineWith lk_X11_231 (c_X4_lineWith ew12) eta10 (by decide) rfl rfl (by decide) (Nat.le_of_ble_eq_true rfl) (by cases eoa10; rfl) ?_
    cases hq
    exact jw_iret (ty := .int) dX11_find_42 rfl rfl
  · refine jw_icmp_eq_f (tgt := 29) dX11_find_16 (by decide) c7 ?_
    cases hq
    exact jw_throw th_X11_find_19 (Nat.le_of_ble_eq_true rfl) (Nat.le_of_ble_eq_true rfl)

theorem c_X11_find {h : jw_H} {x0 : Nat} {x1 : Int32} {r : Int32 ⊕ String} {h' : jw_H} (hq : f_X11_find h x0 x1 = some (r, h')) : jw_Con (Cond.code yX11_find cX11_find 2 (some .int)) yX11_find 9 [.ref x0, .int x1] h (jw_res r) h' :=
  jw_con false (plainFor_of_name (by decide +kernel)) (fun z => nomatch z) (by simp [jw_ent, jw_sl0_nil, jw_sl0_int, jw_sl0_long, jw_sl0_ref, jw_sl0_rf, jw_sl0_scr, List.replicate]) (by simp [jw_sl0_nil, jw_sl0_int, jw_sl0_long, jw_sl0_ref, jw_sl0_rf, jw_sl0_scr]) (l_X11_find hq)


/-! X11_findStart -/
noncomputable def g_X11_findStart_b83 (h : jw_H) (t0 : Int32) : Option ((Int32 ⊕ String) × jw_H) :=
 some (Sum.inl t0, h)

noncomputable def f_X11_findStart (h : jw_H) (x0 : Nat) (x1 : Int32) : Option ((Int32 ⊕ String) × jw_H) :=
 (jw_gR h 11 (some x0) 6).bind fun v1 =>
 (jw_gR h 9 v1 0).bind fun v2 =>
 (jw_rc h 7 v2).bind fun a3 =>
 jw_b2 (f_X7_has h a3 x1) fun w5 h4 =>
 if w5 = 0 then (some (Sum.inr "java/lang/IndexOutOfBoundsException", jw_thw h4))
 else ((jw_gR h4 11 (some x0) 5).bind fun v7 =>
 (jw_gR h4 11 (some x0) 0).bind fun v8 =>
 (jw_gI h4 11 (some x0) 12).bind fun v9 =>
 (jw_rc h4 6 v7).bind fun a10 =>
 jw_b2 (f_X6_readTapePattern h4 a10 v8 v9) fun w12 h11 =>
 if w12 = (-1 : Int32) then ((jw_gR h11 11 (some x0) 8).bind fun v14 =>
 (jw_gR h11 11 (some x0) 6).bind fun v15 =>
 (jw_gR h11 9 v15 0).bind fun v16 =>
 (jw_rc h11 4 v14).bind fun a17 =>
 jw_b2 (f_X4_holds h11 a17 v16 x1 (0 : Int32)) fun w19 h18 =>
 if w19 = 0 then (g_X11_findStart_b83  h18 (-1 : Int32))
 else ((jw_gR h18 11 (some x0) 8).bind fun v21 =>
 (jw_gI h18 4 v21 6).bind fun v22 =>
 g_X11_findStart_b83  h18 v22))
 else (some (Sum.inr "java/lang/IllegalStateException", jw_thw h11)))

set_option maxRecDepth 100000 in
set_option maxHeartbeats 4000000 in
theorem l_X11_findStart_b83 {hi : jw_H} {h : jw_H} {t0 : Int32} {r : Int32 ⊕ String} {h' : jw_H} (hq : g_X11_findStart_b83  h t0 = some (r, h')) : jw_E 9 uX11_findStart hi 83 [none, none] [.int t0] h (jw_res r) h' := by
  unfold g_X11_findStart_b83 at hq
  cases hq
  exact jw_iret (ty := .int) dX11_findStart_83 rfl rfl

set_option maxRecDepth 100000 in
set_option maxHeartbeats 4000000 in
theorem l_X11_findStart {hi : jw_H} {h : jw_H} {x0 : Nat} {x1 : Int32} {r : Int32 ⊕ String} {h' : jw_H} (hq : f_X11_findStart  h x0 x1 = some (r, h')) : jw_E 9 uX11_findStart hi 0 [some (.ref x0), some (.int x1)] [] h (jw_res r) h' := by
  unfold f_X11_findStart at hq
  refine jw_aload_n dX11_findStart_0 (o := (some x0)) rfl ?_
  obtain ⟨v1, ev1, hq⟩ := Option.bind_eq_some_iff.mp hq
  refine jw_getR (o := (some x0)) dX11_findStart_1 ev1 fl_X11_38 rfl ?_
  obtain ⟨v2, ev2, hq⟩ := Option.bind_eq_some_iff.mp hq
  refine jw_getR (o := v1) dX11_findStart_4 ev2 fl_X11_160 rfl ?_
  refine jw_iload_n dX11_findStart_7 rfl ?_
  obtain ⟨a3, ea3, hq⟩ := Option.bind_eq_some_iff.mp hq
  obtain ⟨eoa3, eta3⟩ := jw_rc_spec ea3
  obtain ⟨w5, h4, ew5, hq⟩ := jw_b2_spec hq
  refine jw_callV (As := [.int x1]) (S := []) (a := a3) (v := some (.int w5)) dX11_findStart_8 mt_X7_has in_X7_has se_X7_has lk_X11_169 (c_X7_has ew5) eta3 (by decide) rfl rfl (by decide) (Nat.le_of_ble_eq_true rfl) (by cases eoa3; rfl) ?_
  rcases jw_if hq with ⟨c6, hq⟩ | ⟨c6, hq⟩
  · refine jw_if_ne_f (tgt := 24) dX11_findStart_11 (by decide) c6 ?_
    cases hq
    exact jw_throw th_X11_findStart_14 (Nat.le_of_ble_eq_true rfl) (Nat.le_of_ble_eq_true rfl)
  · refine jw_if_ne_t (tgt := 24) dX11_findStart_11 (by decide) c6 ?_
    refine jw_aload_n dX11_findStart_24 (o := (some x0)) rfl ?_
    obtain ⟨v7, ev7, hq⟩ := Option.bind_eq_some_iff.mp hq
    refine jw_getR (o := (some x0)) dX11_findStart_25 ev7 fl_X11_31 rfl ?_
    refine jw_aload_n dX11_findStart_28 (o := (some x0)) rfl ?_
    obtain ⟨v8, ev8, hq⟩ := Option.bind_eq_some_iff.mp hq
    refine jw_getR (o := (some x0)) dX11_findStart_29 ev8 fl_X11_9 rfl ?_
    refine jw_aload_n dX11_findStart_32 (o := (some x0)) rfl ?_
    obtain ⟨v9, ev9, hq⟩ := Option.bind_eq_some_iff.mp hq
    refine jw_getI (o := (some x0)) dX11_findStart_33 ev9 fl_X11_95 rfl ?_
    obtain ⟨a10, ea10, hq⟩ := Option.bind_eq_some_iff.mp hq
    obtain ⟨eoa10, eta10⟩ := jw_rc_spec ea10
    obtain ⟨w12, h11, ew12, hq⟩ := jw_b2_spec hq
    refine jw_callV (As := [va_rf v8, .int v9]) (S := []) (a := a10) (v := some (.int w12)) dX11_findStart_36 mt_X6_readTapePattern in_X6_readTapePattern se_X6_readTapePattern lk_X11_108 (c_X6_readTapePattern ew12) eta10 (by decide) rfl rfl (by decide) (Nat.le_of_ble_eq_true rfl) (by cases eoa10; rfl) ?_
    refine jw_iconst dX11_findStart_39 (v := (-1 : Int32)) (by decide) ?_
    rcases jw_if hq with ⟨c13, hq⟩ | ⟨c13, hq⟩
    · refine jw_icmp_eq_t (tgt := 53) dX11_findStart_40 (by decide) c13 ?_
      refine jw_aload_n dX11_findStart_53 (o := (some x0)) rfl ?_
      obtain ⟨v14, ev14, hq⟩ := Option.bind_eq_some_iff.mp hq
      refine jw_getR (o := (some x0)) dX11_findStart_54 ev14 fl_X11_61 rfl ?_
      refine jw_aload_n dX11_findStart_57 (o := (some x0)) rfl ?_
      obtain ⟨v15, ev15, hq⟩ := Option.bind_eq_some_iff.mp hq
      refine jw_getR (o := (some x0)) dX11_findStart_58 ev15 fl_X11_38 rfl ?_
      obtain ⟨v16, ev16, hq⟩ := Option.bind_eq_some_iff.mp hq
      refine jw_getR (o := v15) dX11_findStart_61 ev16 fl_X11_160 rfl ?_
      refine jw_iload_n dX11_findStart_64 rfl ?_
      refine jw_iconst dX11_findStart_65 (v := (0 : Int32)) (by decide) ?_
      obtain ⟨a17, ea17, hq⟩ := Option.bind_eq_some_iff.mp hq
      obtain ⟨eoa17, eta17⟩ := jw_rc_spec ea17
      obtain ⟨w19, h18, ew19, hq⟩ := jw_b2_spec hq
      refine jw_callV (As := [va_rf v16, .int x1, .int (0 : Int32)]) (S := []) (a := a17) (v := some (.int w19)) dX11_findStart_66 mt_X4_holds in_X4_holds se_X4_holds lk_X11_235 (c_X4_holds ew19) eta17 (by decide) rfl rfl (by decide) (Nat.le_of_ble_eq_true rfl) (by cases eoa17; rfl) ?_
      rcases jw_if hq with ⟨c20, hq⟩ | ⟨c20, hq⟩
      · refine jw_if_eq_t (tgt := 82) dX11_findStart_69 (by decide) c20 ?_
        refine jw_iconst dX11_findStart_82 (v := (-1 : Int32)) (by decide) ?_
        refine jw_forget [false, false] (L' := [none, none]) rfl ?_
        exact l_X11_findStart_b83  hq
      · refine jw_if_eq_f (tgt := 82) dX11_findStart_69 (by decide) c20 ?_
        refine jw_aload_n dX11_findStart_72 (o := (some x0)) rfl ?_
        obtain ⟨v21, ev21, hq⟩ := Option.bind_eq_some_iff.mp hq
        refine jw_getR (o := (some x0)) dX11_findStart_73 ev21 fl_X11_61 rfl ?_
        obtain ⟨v22, ev22, hq⟩ := Option.bind_eq_some_iff.mp hq
        refine jw_getI (o := v21) dX11_findStart_76 ev22 fl_X11_239 rfl ?_
        refine jw_goto (tgt := 83) dX11_findStart_79 (by decide) ?_
        refine jw_forget [false, false] (L' := [none, none]) rfl ?_
        exact l_X11_findStart_b83  hq
    · refine jw_icmp_eq_f (tgt := 53) dX11_findStart_40 (by decide) c13 ?_
      cases hq
      exact jw_throw th_X11_findStart_43 (Nat.le_of_ble_eq_true rfl) (Nat.le_of_ble_eq_true rfl)

theorem c_X11_findStart {h : jw_H} {x0 : Nat} {x1 : Int32} {r : Int32 ⊕ String} {h' : jw_H} (hq : f_X11_findStart h x0 x1 = some (r, h')) : jw_Con (Cond.code yX11_findStart cX11_findStart 2 (some .int)) yX11_findStart 9 [.ref x0, .int x1] h (jw_res r) h' :=
  jw_con false (plainFor_of_name (by decide +kernel)) (fun z => nomatch z) (by simp [jw_ent, jw_sl0_nil, jw_sl0_int, jw_sl0_long, jw_sl0_ref, jw_sl0_rf, jw_sl0_scr, List.replicate]) (by simp [jw_sl0_nil, jw_sl0_int, jw_sl0_long, jw_sl0_ref, jw_sl0_rf, jw_sl0_scr]) (l_X11_findStart hq)


/-! X11_findEnd -/
noncomputable def g_X11_findEnd_b83 (h : jw_H) (t0 : Int32) : Option ((Int32 ⊕ String) × jw_H) :=
 some (Sum.inl t0, h)

noncomputable def f_X11_findEnd (h : jw_H) (x0 : Nat) (x1 : Int32) : Option ((Int32 ⊕ String) × jw_H) :=
 (jw_gR h 11 (some x0) 6).bind fun v1 =>
 (jw_gR h 9 v1 0).bind fun v2 =>
 (jw_rc h 7 v2).bind fun a3 =>
 jw_b2 (f_X7_has h a3 x1) fun w5 h4 =>
 if w5 = 0 then (some (Sum.inr "java/lang/IndexOutOfBoundsException", jw_thw h4))
 else ((jw_gR h4 11 (some x0) 5).bind fun v7 =>
 (jw_gR h4 11 (some x0) 0).bind fun v8 =>
 (jw_gI h4 11 (some x0) 12).bind fun v9 =>
 (jw_rc h4 6 v7).bind fun a10 =>
 jw_b2 (f_X6_readTapePattern h4 a10 v8 v9) fun w12 h11 =>
 if w12 = (-1 : Int32) then ((jw_gR h11 11 (some x0) 8).bind fun v14 =>
 (jw_gR h11 11 (some x0) 6).bind fun v15 =>
 (jw_gR h11 9 v15 0).bind fun v16 =>
 (jw_rc h11 4 v14).bind fun a17 =>
 jw_b2 (f_X4_holds h11 a17 v16 x1 (0 : Int32)) fun w19 h18 =>
 if w19 = 0 then (g_X11_findEnd_b83  h18 (-1 : Int32))
 else ((jw_gR h18 11 (some x0) 8).bind fun v21 =>
 (jw_gI h18 4 v21 7).bind fun v22 =>
 g_X11_findEnd_b83  h18 v22))
 else (some (Sum.inr "java/lang/IllegalStateException", jw_thw h11)))

set_option maxRecDepth 100000 in
set_option maxHeartbeats 4000000 in
theorem l_X11_findEnd_b83 {hi : jw_H} {h : jw_H} {t0 : Int32} {r : Int32 ⊕ String} {h' : jw_H} (hq : g_X11_findEnd_b83  h t0 = some (r, h')) : jw_E 9 uX11_findEnd hi 83 [none, none] [.int t0] h (jw_res r) h' := by
  unfold g_X11_findEnd_b83 at hq
  cases hq
  exact jw_iret (ty := .int) dX11_findEnd_83 rfl rfl

set_option maxRecDepth 100000 in
set_option maxHeartbeats 4000000 in
theorem l_X11_findEnd {hi : jw_H} {h : jw_H} {x0 : Nat} {x1 : Int32} {r : Int32 ⊕ String} {h' : jw_H} (hq : f_X11_findEnd  h x0 x1 = some (r, h')) : jw_E 9 uX11_findEnd hi 0 [some (.ref x0), some (.int x1)] [] h (jw_res r) h' := by
  unfold f_X11_findEnd at hq
  refine jw_aload_n dX11_findEnd_0 (o := (some x0)) rfl ?_
  obtain ⟨v1, ev1, hq⟩ := Option.bind_eq_some_iff.mp hq
  refine jw_getR (o := (some x0)) dX11_findEnd_1 ev1 fl_X11_38 rfl ?_
  obtain ⟨v2, ev2, hq⟩ := Option.bind_eq_some_iff.mp hq
  refine jw_getR (o := v1) dX11_findEnd_4 ev2 fl_X11_160 rfl ?_
  refine jw_iload_n dX11_findEnd_7 rfl ?_
  obtain ⟨a3, ea3, hq⟩ := Option.bind_eq_some_iff.mp hq
  obtain ⟨eoa3, eta3⟩ := jw_rc_spec ea3
  obtain ⟨w5, h4, ew5, hq⟩ := jw_b2_spec hq
  refine jw_callV (As := [.int x1]) (S := []) (a := a3) (v := some (.int w5)) dX11_findEnd_8 mt_X7_has in_X7_has se_X7_has lk_X11_169 (c_X7_has ew5) eta3 (by decide) rfl rfl (by decide) (Nat.le_of_ble_eq_true rfl) (by cases eoa3; rfl) ?_
  rcases jw_if hq with ⟨c6, hq⟩ | ⟨c6, hq⟩
  · refine jw_if_ne_f (tgt := 24) dX11_findEnd_11 (by decide) c6 ?_
    cases hq
    exact jw_throw th_X11_findEnd_14 (Nat.le_of_ble_eq_true rfl) (Nat.le_of_ble_eq_true rfl)
  · refine jw_if_ne_t (tgt := 24) dX11_findEnd_11 (by decide) c6 ?_
    refine jw_aload_n dX11_findEnd_24 (o := (some x0)) rfl ?_
    obtain ⟨v7, ev7, hq⟩ := Option.bind_eq_some_iff.mp hq
    refine jw_getR (o := (some x0)) dX11_findEnd_25 ev7 fl_X11_31 rfl ?_
    refine jw_aload_n dX11_findEnd_28 (o := (some x0)) rfl ?_
    obtain ⟨v8, ev8, hq⟩ := Option.bind_eq_some_iff.mp hq
    refine jw_getR (o := (some x0)) dX11_findEnd_29 ev8 fl_X11_9 rfl ?_
    refine jw_aload_n dX11_findEnd_32 (o := (some x0)) rfl ?_
    obtain ⟨v9, ev9, hq⟩ := Option.bind_eq_some_iff.mp hq
    refine jw_getI (o := (some x0)) dX11_findEnd_33 ev9 fl_X11_95 rfl ?_
    obtain ⟨a10, ea10, hq⟩ := Option.bind_eq_some_iff.mp hq
    obtain ⟨eoa10, eta10⟩ := jw_rc_spec ea10
    obtain ⟨w12, h11, ew12, hq⟩ := jw_b2_spec hq
    refine jw_callV (As := [va_rf v8, .int v9]) (S := []) (a := a10) (v := some (.int w12)) dX11_findEnd_36 mt_X6_readTapePattern in_X6_readTapePattern se_X6_readTapePattern lk_X11_108 (c_X6_readTapePattern ew12) eta10 (by decide) rfl rfl (by decide) (Nat.le_of_ble_eq_true rfl) (by cases eoa10; rfl) ?_
    refine jw_iconst dX11_findEnd_39 (v := (-1 : Int32)) (by decide) ?_
    rcases jw_if hq with ⟨c13, hq⟩ | ⟨c13, hq⟩
    · refine jw_icmp_eq_t (tgt := 53) dX11_findEnd_40 (by decide) c13 ?_
      refine jw_aload_n dX11_findEnd_53 (o := (some x0)) rfl ?_
      obtain ⟨v14, ev14, hq⟩ := Option.bind_eq_some_iff.mp hq
      refine jw_getR (o := (some x0)) dX11_findEnd_54 ev14 fl_X11_61 rfl ?_
      refine jw_aload_n dX11_findEnd_57 (o := (some x0)) rfl ?_
      obtain ⟨v15, ev15, hq⟩ := Option.bind_eq_some_iff.mp hq
      refine jw_getR (o := (some x0)) dX11_findEnd_58 ev15 fl_X11_38 rfl ?_
      obtain ⟨v16, ev16, hq⟩ := Option.bind_eq_some_iff.mp hq
      refine jw_getR (o := v15) dX11_findEnd_61 ev16 fl_X11_160 rfl ?_
      refine jw_iload_n dX11_findEnd_64 rfl ?_
      refine jw_iconst dX11_findEnd_65 (v := (0 : Int32)) (by decide) ?_
      obtain ⟨a17, ea17, hq⟩ := Option.bind_eq_some_iff.mp hq
      obtain ⟨eoa17, eta17⟩ := jw_rc_spec ea17
      obtain ⟨w19, h18, ew19, hq⟩ := jw_b2_spec hq
      refine jw_callV (As := [va_rf v16, .int x1, .int (0 : Int32)]) (S := []) (a := a17) (v := some (.int w19)) dX11_findEnd_66 mt_X4_holds in_X4_holds se_X4_holds lk_X11_235 (c_X4_holds ew19) eta17 (by decide) rfl rfl (by decide) (Nat.le_of_ble_eq_true rfl) (by cases eoa17; rfl) ?_
      rcases jw_if hq with ⟨c20, hq⟩ | ⟨c20, hq⟩
      · refine jw_if_eq_t (tgt := 82) dX11_findEnd_69 (by decide) c20 ?_
        refine jw_iconst dX11_findEnd_82 (v := (-1 : Int32)) (by decide) ?_
        refine jw_forget [false, false] (L' := [none, none]) rfl ?_
        exact l_X11_findEnd_b83  hq
      · refine jw_if_eq_f (tgt := 82) dX11_findEnd_69 (by decide) c20 ?_
        refine jw_aload_n dX11_findEnd_72 (o := (some x0)) rfl ?_
        obtain ⟨v21, ev21, hq⟩ := Option.bind_eq_some_iff.mp hq
        refine jw_getR (o := (some x0)) dX11_findEnd_73 ev21 fl_X11_61 rfl ?_
        obtain ⟨v22, ev22, hq⟩ := Option.bind_eq_some_iff.mp hq
        refine jw_getI (o := v21) dX11_findEnd_76 ev22 fl_X11_242 rfl ?_
        refine jw_goto (tgt := 83) dX11_findEnd_79 (by decide) ?_
        refine jw_forget [false, false] (L' := [none, none]) rfl ?_
        exact l_X11_findEnd_b83  hq
    · refine jw_icmp_eq_f (tgt := 53) dX11_findEnd_40 (by decide) c13 ?_
      cases hq
      exact jw_throw th_X11_findEnd_43 (Nat.le_of_ble_eq_true rfl) (Nat.le_of_ble_eq_true rfl)

theorem c_X11_findEnd {h : jw_H} {x0 : Nat} {x1 : Int32} {r : Int32 ⊕ String} {h' : jw_H} (hq : f_X11_findEnd h x0 x1 = some (r, h')) : jw_Con (Cond.code yX11_findEnd cX11_findEnd 2 (some .int)) yX11_findEnd 9 [.ref x0, .int x1] h (jw_res r) h' :=
  jw_con false (plainFor_of_name (by decide +kernel)) (fun z => nomatch z) (by simp [jw_ent, jw_sl0_nil, jw_sl0_int, jw_sl0_long, jw_sl0_ref, jw_sl0_rf, jw_sl0_scr, List.replicate]) (by simp [jw_sl0_nil, jw_sl0_int, jw_sl0_long, jw_sl0_ref, jw_sl0_rf, jw_sl0_scr]) (l_X11_findEnd hq)


/-! X11_commonFrom -/
noncomputable def g_X11_commonFrom_b34 (h : jw_H) (t0 : Int32) : Option (Int32 × jw_H) :=
 some (t0, h)

noncomputable def g_X11_commonFrom_b33 (h : jw_H)  : Option (Int32 × jw_H) :=
 g_X11_commonFrom_b34  h (0 : Int32)

noncomputable def f_X11_commonFrom (h : jw_H) (x0 : Nat) (x1 : Int32) (x2 : Int32) : Option (Int32 × jw_H) :=
 if ((((x1 - (1 : Int32)) * (41 : Int32)) + x2) - (1 : Int32)) < 0 then (g_X11_commonFrom_b33  h )
 else ((jw_gR h 11 (some x0) 3).bind fun v2 =>
 (jw_ln h v2).bind fun v3 =>
 if v3 ≤ ((((x1 - (1 : Int32)) * (41 : Int32)) + x2) - (1 : Int32)) then (g_X11_commonFrom_b33  h )
 else ((jw_gR h 11 (some x0) 3).bind fun v5 =>
 (jw_ai h 20 v5 ((((x1 - (1 : Int32)) * (41 : Int32)) + x2) - (1 : Int32))).bind fun v6 =>
 g_X11_commonFrom_b34  h v6))

set_option maxRecDepth 100000 in
set_option maxHeartbeats 4000000 in
theorem l_X11_commonFrom_b34 {hi : jw_H} {h : jw_H} {t0 : Int32} {r : Int32} {h' : jw_H} (hq : g_X11_commonFrom_b34  h t0 = some (r, h')) : jw_E 0 uX11_commonFrom hi 34 [none, none, none, none] [.int t0] h (.inl (some (.int r))) h' := by
  unfold g_X11_commonFrom_b34 at hq
  cases hq
  exact jw_iret (ty := .int) dX11_commonFrom_34 rfl rfl

set_option maxRecDepth 100000 in
set_option maxHeartbeats 4000000 in
theorem l_X11_commonFrom_b33 {hi : jw_H} {h : jw_H}  {r : Int32} {h' : jw_H} (hq : g_X11_commonFrom_b33  h  = some (r, h')) : jw_E 0 uX11_commonFrom hi 33 [none, none, none, none] [] h (.inl (some (.int r))) h' := by
  unfold g_X11_commonFrom_b33 at hq
  refine jw_iconst dX11_commonFrom_33 (v := (0 : Int32)) (by decide) ?_
  exact l_X11_commonFrom_b34  hq

set_option maxRecDepth 100000 in
set_option maxHeartbeats 4000000 in
theorem l_X11_commonFrom {hi : jw_H} {h : jw_H} {x0 : Nat} {x1 : Int32} {x2 : Int32} {r : Int32} {h' : jw_H} (hq : f_X11_commonFrom  h x0 x1 x2 = some (r, h')) : jw_E 0 uX11_commonFrom hi 0 [some (.ref x0), some (.int x1), some (.int x2), none] [] h (.inl (some (.int r))) h' := by
  unfold f_X11_commonFrom at hq
  refine jw_iload_n dX11_commonFrom_0 rfl ?_
  refine jw_iconst dX11_commonFrom_1 (v := (1 : Int32)) (by decide) ?_
  refine jw_isub dX11_commonFrom_2 ?_
  refine jw_bipush dX11_commonFrom_3 (v := (41 : Int32)) (by decide) ?_
  refine jw_imul dX11_commonFrom_5 ?_
  refine jw_iload_n dX11_commonFrom_6 rfl ?_
  refine jw_iadd dX11_commonFrom_7 ?_
  refine jw_iconst dX11_commonFrom_8 (v := (1 : Int32)) (by decide) ?_
  refine jw_isub dX11_commonFrom_9 ?_
  refine jw_istore_n (L' := [some (.ref x0), some (.int x1), some (.int x2), some (.int ((((x1 - (1 : Int32)) * (41 : Int32)) + x2) - (1 : Int32)))]) dX11_commonFrom_10 (Nat.le_of_ble_eq_true rfl) rfl ?_
  refine jw_iload_n dX11_commonFrom_11 rfl ?_
  rcases jw_if hq with ⟨c1, hq⟩ | ⟨c1, hq⟩
  · refine jw_if_lt_t (tgt := 33) dX11_commonFrom_12 (by decide) c1 ?_
    refine jw_forget [false, false, false, false] (L' := [none, none, none, none]) rfl ?_
    exact l_X11_commonFrom_b33  hq
  · refine jw_if_lt_f (tgt := 33) dX11_commonFrom_12 (by decide) c1 ?_
    refine jw_iload_n dX11_commonFrom_15 rfl ?_
    refine jw_aload_n dX11_commonFrom_16 (o := (some x0)) rfl ?_
    obtain ⟨v2, ev2, hq⟩ := Option.bind_eq_some_iff.mp hq
    refine jw_getR (o := (some x0)) dX11_commonFrom_17 ev2 fl_X11_22 rfl ?_
    obtain ⟨v3, ev3, hq⟩ := Option.bind_eq_some_iff.mp hq
    refine jw_alen (o := v2) dX11_commonFrom_20 ev3 ?_
    rcases jw_if hq with ⟨c4, hq⟩ | ⟨c4, hq⟩
    · refine jw_icmp_ge_t (tgt := 33) dX11_commonFrom_21 (by decide) c4 ?_
      refine jw_forget [false, false, false, false] (L' := [none, none, none, none]) rfl ?_
      exact l_X11_commonFrom_b33  hq
    · refine jw_icmp_ge_f (tgt := 33) dX11_commonFrom_21 (by decide) c4 ?_
      refine jw_aload_n dX11_commonFrom_24 (o := (some x0)) rfl ?_
      obtain ⟨v5, ev5, hq⟩ := Option.bind_eq_some_iff.mp hq
      refine jw_getR (o := (some x0)) dX11_commonFrom_25 ev5 fl_X11_22 rfl ?_
      refine jw_iload_n dX11_commonFrom_28 rfl ?_
      obtain ⟨v6, ev6, hq⟩ := Option.bind_eq_some_iff.mp hq
      refine jw_iald (o := v5) dX11_commonFrom_29 ev6 ?_
      refine jw_goto (tgt := 34) dX11_commonFrom_30 (by decide) ?_
      refine jw_forget [false, false, false, false] (L' := [none, none, none, none]) rfl ?_
      exact l_X11_commonFrom_b34  hq

theorem c_X11_commonFrom {h : jw_H} {x0 : Nat} {x1 : Int32} {x2 : Int32} {r : Int32} {h' : jw_H} (hq : f_X11_commonFrom h x0 x1 x2 = some (r, h')) : jw_Con (Cond.code yX11_commonFrom cX11_commonFrom 4 (some .int)) yX11_commonFrom 0 [.ref x0, .int x1, .int x2] h (.inl (some (.int r))) h' :=
  jw_con false (plainFor_of_name (by decide +kernel)) (fun z => nomatch z) (by simp [jw_ent, jw_sl0_nil, jw_sl0_int, jw_sl0_long, jw_sl0_ref, jw_sl0_rf, jw_sl0_scr, List.replicate]) (by simp [jw_sl0_nil, jw_sl0_int, jw_sl0_long, jw_sl0_ref, jw_sl0_rf, jw_sl0_scr]) (l_X11_commonFrom hq)


/-! X11_measureCommon -/
noncomputable def g_X11_measureCommon_b138 (k45 : jw_H → Nat → Option Nat → Int32 → Int32 → Option (Unit × jw_H)) (h : jw_H) (x0 : Nat) (x1 : Option Nat) (x2 : Int32) (x3 : Int32) : Option (Unit × jw_H) :=
 k45 h x0 x1 x2 (x3 + (-1 : Int32))

noncomputable def g_X11_measureCommon_b100 (k45 : jw_H → Nat → Option Nat → Int32 → Int32 → Option (Unit × jw_H)) (h : jw_H) (x0 : Nat) (x1 : Option Nat) (x2 : Int32) (x3 : Int32) (t0 : Int32) : Option (Unit × jw_H) :=
 if ((((x2 - (1 : Int32)) * (41 : Int32)) + x3) - (1 : Int32)) < 0 then (g_X11_measureCommon_b138 k45 h x0 x1 x2 x3)
 else ((jw_gR h 11 (some x0) 3).bind fun v2 =>
 (jw_ln h v2).bind fun v3 =>
 if v3 ≤ ((((x2 - (1 : Int32)) * (41 : Int32)) + x3) - (1 : Int32)) then (g_X11_measureCommon_b138 k45 h x0 x1 x2 x3)
 else ((jw_gR h 11 (some x0) 3).bind fun v5 =>
 (jw_si h 20 v5 ((((x2 - (1 : Int32)) * (41 : Int32)) + x3) - (1 : Int32)) t0).bind fun h6 =>
 g_X11_measureCommon_b138 k45 h6 x0 x1 x2 x3))

noncomputable def g_X11_measureCommon_b45 (k35 : jw_H → Nat → Option Nat → Int32 → Option (Unit × jw_H)) (k45 : jw_H → Nat → Option Nat → Int32 → Int32 → Option (Unit × jw_H)) (h : jw_H) (x0 : Nat) (x1 : Option Nat) (x2 : Int32) (x3 : Int32) : Option (Unit × jw_H) :=
 if x3 < (1 : Int32) then (k35 h x0 x1 (x2 + (-1 : Int32)))
 else ((jw_gR h 11 (some x0) 6).bind fun v2 =>
 (jw_gR h 9 v2 0).bind fun v3 =>
 (jw_rc h 7 v3).bind fun a4 =>
 jw_b2 (f_X7_same h a4 x2 x1 x3) fun w6 h5 =>
 if w6 = 0 then ((jw_rc h5 11 (some x0)).bind fun a8 =>
 jw_b2 (f_X11_commonFrom h5 a8 (x2 + (1 : Int32)) x3) fun w10 h9 =>
 (jw_rc h9 11 (some x0)).bind fun a11 =>
 jw_b2 (f_X11_commonFrom h9 a11 x2 (x3 + (1 : Int32))) fun w13 h12 =>
 jw_b2 (f_J9_max_7cf53 h12 w10 w13) fun w15 h14 =>
 g_X11_measureCommon_b100 k45 h14 x0 x1 x2 x3 w15)
 else ((jw_rc h5 11 (some x0)).bind fun a16 =>
 jw_b2 (f_X11_commonFrom h5 a16 (x2 + (1 : Int32)) (x3 + (1 : Int32))) fun w18 h17 =>
 g_X11_measureCommon_b100 k45 h17 x0 x1 x2 x3 (w18 + (1 : Int32))))

noncomputable def f_X11_measureCommon_b45 (k35 : jw_H → Nat → Option Nat → Int32 → Option (Unit × jw_H)) (n : Nat) : jw_H → Nat → Option Nat → Int32 → Int32 → Option (Unit × jw_H) :=
 Nat.rec (fun _ _ _ _ _ => none) (fun _ k45 => g_X11_measureCommon_b45 k35 k45) n

noncomputable def g_X11_measureCommon_b35 (k35 : jw_H → Nat → Option Nat → Int32 → Option (Unit × jw_H)) (h : jw_H) (x0 : Nat) (x1 : Option Nat) (x2 : Int32) : Option (Unit × jw_H) :=
 if x2 < (1 : Int32) then (some ((), h))
 else ((jw_gI h 7 x1 2).bind fun v2 =>
 f_X11_measureCommon_b45 k35 jw_FU h x0 x1 x2 v2)

noncomputable def f_X11_measureCommon_b35 (n : Nat) : jw_H → Nat → Option Nat → Int32 → Option (Unit × jw_H) :=
 Nat.rec (fun _ _ _ _ => none) (fun _ k35 => g_X11_measureCommon_b35 k35) n

noncomputable def g_X11_measureCommon_b2 (k2 : jw_H → Nat → Option Nat → Int32 → Option (Unit × jw_H)) (h : jw_H) (x0 : Nat) (x1 : Option Nat) (x2 : Int32) : Option (Unit × jw_H) :=
 (jw_gR h 11 (some x0) 3).bind fun v1 =>
 (jw_ln h v1).bind fun v2 =>
 if v2 ≤ x2 then ((jw_gR h 11 (some x0) 6).bind fun v4 =>
 (jw_gR h 9 v4 0).bind fun v5 =>
 (jw_gI h 7 v5 2).bind fun v6 =>
 f_X11_measureCommon_b35  jw_FU h x0 x1 v6)
 else ((jw_gR h 11 (some x0) 3).bind fun v7 =>
 (jw_si h 20 v7 x2 (0 : Int32)).bind fun h8 =>
 k2 h8 x0 x1 (x2 + (1 : Int32)))

noncomputable def f_X11_measureCommon_b2 (n : Nat) : jw_H → Nat → Option Nat → Int32 → Option (Unit × jw_H) :=
 Nat.rec (fun _ _ _ _ => none) (fun _ k2 => g_X11_measureCommon_b2 k2) n

noncomputable def f_X11_measureCommon (h : jw_H) (x0 : Nat) (x1 : Option Nat) : Option (Unit × jw_H) :=
 f_X11_measureCommon_b2  jw_FU h x0 x1 (0 : Int32)

set_option maxRecDepth 100000 in
set_option maxHeartbeats 4000000 in
theorem l_X11_measureCommon_b138 {hi : jw_H} {k45 : jw_H → Nat → Option Nat → Int32 → Int32 → Option (Unit × jw_H)} (hk45 : ∀ (h : jw_H) (x0 : Nat) (x1 : Option Nat) (x2 : Int32) (x3 : Int32) (r : Unit) (h' : jw_H), k45 h x0 x1 x2 x3 = some (r, h') → jw_E 2 uX11_measureCommon hi 45 [some (.ref x0), some (va_rf x1), some (.int x2), some (.int x3), none, none] [] h (.inl none) h') {h : jw_H} {x0 : Nat} {x1 : Option Nat} {x2 : Int32} {x3 : Int32} {r : Unit} {h' : jw_H} (hq : g_X11_measureCommon_b138 k45 h x0 x1 x2 x3 = some (r, h')) : jw_E 2 uX11_measureCommon hi 138 [some (.ref x0), some (va_rf x1), some (.int x2), some (.int x3), none, none] [] h (.inl none) h' := by
  unfold g_X11_measureCommon_b138 at hq
  refine jw_iinc (L' := [some (.ref x0), some (va_rf x1), some (.int x2), some (.int (x3 + (-1 : Int32))), none, none]) dX11_measureCommon_138 rfl (v := (-1 : Int32)) (by decide) (Nat.le_of_ble_eq_true rfl) rfl ?_
  refine jw_goto (tgt := 45) dX11_measureCommon_141 (by decide) ?_
  exact hk45 _ _ _ _ _ _ _ hq

set_option maxRecDepth 100000 in
set_option maxHeartbeats 4000000 in
theorem l_X11_measureCommon_b100 {hi : jw_H} {k45 : jw_H → Nat → Option Nat → Int32 → Int32 → Option (Unit × jw_H)} (hk45 : ∀ (h : jw_H) (x0 : Nat) (x1 : Option Nat) (x2 : Int32) (x3 : Int32) (r : Unit) (h' : jw_H), k45 h x0 x1 x2 x3 = some (r, h') → jw_E 2 uX11_measureCommon hi 45 [some (.ref x0), some (va_rf x1), some (.int x2), some (.int x3), none, none] [] h (.inl none) h') {h : jw_H} {x0 : Nat} {x1 : Option Nat} {x2 : Int32} {x3 : Int32} {t0 : Int32} {r : Unit} {h' : jw_H} (hq : g_X11_measureCommon_b100 k45 h x0 x1 x2 x3 t0 = some (r, h')) : jw_E 2 uX11_measureCommon hi 100 [some (.ref x0), some (va_rf x1), some (.int x2), some (.int x3), none, none] [.int t0] h (.inl none) h' := by
  unfold g_X11_measureCommon_b100 at hq
  refine jw_istore (L' := [some (.ref x0), some (va_rf x1), some (.int x2), some (.int x3), some (.int t0), none]) dX11_measureCommon_100 (Nat.le_of_ble_eq_true rfl) rfl ?_
  refine jw_iload_n dX11_measureCommon_102 rfl ?_
  refine jw_iconst dX11_measureCommon_103 (v := (1 : Int32)) (by decide) ?_
  refine jw_isub dX11_measureCommon_104 ?_
  refine jw_bipush dX11_measureCommon_105 (v := (41 : Int32)) (by decide) ?_
  refine jw_imul dX11_measureCommon_107 ?_
  refine jw_iload_n dX11_measureCommon_108 rfl ?_
  refine jw_iadd dX11_measureCommon_109 ?_
  refine jw_iconst dX11_measureCommon_110 (v := (1 : Int32)) (by decide) ?_
  refine jw_isub dX11_measureCommon_111 ?_
  refine jw_istore (L' := [some (.ref x0), some (va_rf x1), some (.int x2), some (.int x3), some (.int t0), some (.int ((((x2 - (1 : Int32)) * (41 : Int32)) + x3) - (1 : Int32)))]) dX11_measureCommon_112 (Nat.le_of_ble_eq_true rfl) rfl ?_
  refine jw_iload dX11_measureCommon_114 rfl ?_
  rcases jw_if hq with ⟨c1, hq⟩ | ⟨c1, hq⟩
  · refine jw_if_lt_t (tgt := 138) dX11_measureCommon_116 (by decide) c1 ?_
    refine jw_forget [true, true, true, true, false, false] (L' := [some (.ref x0), some (va_rf x1), some (.int x2), some (.int x3), none, none]) rfl ?_
    exact l_X11_measureCommon_b138 hk45 hq
  · refine jw_if_lt_f (tgt := 138) dX11_measureCommon_116 (by decide) c1 ?_
    refine jw_iload dX11_measureCommon_119 rfl ?_
    refine jw_aload_n dX11_measureCommon_121 (o := (some x0)) rfl ?_
    obtain ⟨v2, ev2, hq⟩ := Option.bind_eq_some_iff.mp hq
    refine jw_getR (o := (some x0)) dX11_measureCommon_122 ev2 fl_X11_22 rfl ?_
    obtain ⟨v3, ev3, hq⟩ := Option.bind_eq_some_iff.mp hq
    refine jw_alen (o := v2) dX11_measureCommon_125 ev3 ?_
    rcases jw_if hq with ⟨c4, hq⟩ | ⟨c4, hq⟩
    · refine jw_icmp_ge_t (tgt := 138) dX11_measureCommon_126 (by decide) c4 ?_
      refine jw_forget [true, true, true, true, false, false] (L' := [some (.ref x0), some (va_rf x1), some (.int x2), some (.int x3), none, none]) rfl ?_
      exact l_X11_measureCommon_b138 hk45 hq
    · refine jw_icmp_ge_f (tgt := 138) dX11_measureCommon_126 (by decide) c4 ?_
      refine jw_aload_n dX11_measureCommon_129 (o := (some x0)) rfl ?_
      obtain ⟨v5, ev5, hq⟩ := Option.bind_eq_some_iff.mp hq
      refine jw_getR (o := (some x0)) dX11_measureCommon_130 ev5 fl_X11_22 rfl ?_
      refine jw_iload dX11_measureCommon_133 rfl ?_
      refine jw_iload dX11_measureCommon_135 rfl ?_
      obtain ⟨h6, eh6, hq⟩ := Option.bind_eq_some_iff.mp hq
      refine jw_iast (o := v5) dX11_measureCommon_137 eh6 ?_
      refine jw_forget [true, true, true, true, false, false] (L' := [some (.ref x0), some (va_rf x1), some (.int x2), some (.int x3), none, none]) rfl ?_
      exact l_X11_measureCommon_b138 hk45 hq

set_option maxRecDepth 100000 in
set_option maxHeartbeats 4000000 in
theorem l_X11_measureCommon_b45g {hi : jw_H} {k35 : jw_H → Nat → Option Nat → Int32 → Option (Unit × jw_H)} (hk35 : ∀ (h : jw_H) (x0 : Nat) (x1 : Option Nat) (x2 : Int32) (r : Unit) (h' : jw_H), k35 h x0 x1 x2 = some (r, h') → jw_E 2 uX11_measureCommon hi 35 [some (.ref x0), some (va_rf x1), some (.int x2), none, none, none] [] h (.inl none) h') {k45 : jw_H → Nat → Option Nat → Int32 → Int32 → Option (Unit × jw_H)} (hk45 : ∀ (h : jw_H) (x0 : Nat) (x1 : Option Nat) (x2 : Int32) (x3 : Int32) (r : Unit) (h' : jw_H), k45 h x0 x1 x2 x3 = some (r, h') → jw_E 2 uX11_measureCommon hi 45 [some (.ref x0), some (va_rf x1), some (.int x2), some (.int x3), none, none] [] h (.inl none) h') {h : jw_H} {x0 : Nat} {x1 : Option Nat} {x2 : Int32} {x3 : Int32} {r : Unit} {h' : jw_H} (hq : g_X11_measureCommon_b45 k35 k45 h x0 x1 x2 x3 = some (r, h')) : jw_E 2 uX11_measureCommon hi 45 [some (.ref x0), some (va_rf x1), some (.int x2), some (.int x3), none, none] [] h (.inl none) h' := by
  unfold g_X11_measureCommon_b45 at hq
  refine jw_iload_n dX11_measureCommon_45 rfl ?_
  refine jw_iconst dX11_measureCommon_46 (v := (1 : Int32)) (by decide) ?_
  rcases jw_if hq with ⟨c1, hq⟩ | ⟨c1, hq⟩
  · refine jw_icmp_lt_t (tgt := 144) dX11_measureCommon_47 (by decide) c1 ?_
    refine jw_iinc (L' := [some (.ref x0), some (va_rf x1), some (.int (x2 + (-1 : Int32))), some (.int x3), none, none]) dX11_measureCommon_144 rfl (v := (-1 : Int32)) (by decide) (Nat.le_of_ble_eq_true rfl) ((jw_st1_of (j := 1) jw_long_rf).trans rfl) ?_
    refine jw_goto (tgt := 35) dX11_measureCommon_147 (by decide) ?_
    refine jw_forget [true, true, true, false, true, true] (L' := [some (.ref x0), some (va_rf x1), some (.int (x2 + (-1 : Int32))), none, none, none]) rfl ?_
    exact hk35 _ _ _ _ _ _ hq
  · refine jw_icmp_lt_f (tgt := 144) dX11_measureCommon_47 (by decide) c1 ?_
    refine jw_aload_n dX11_measureCommon_50 (o := (some x0)) rfl ?_
    obtain ⟨v2, ev2, hq⟩ := Option.bind_eq_some_iff.mp hq
    refine jw_getR (o := (some x0)) dX11_measureCommon_51 ev2 fl_X11_38 rfl ?_
    obtain ⟨v3, ev3, hq⟩ := Option.bind_eq_some_iff.mp hq
    refine jw_getR (o := v2) dX11_measureCommon_54 ev3 fl_X11_160 rfl ?_
    refine jw_iload_n dX11_measureCommon_57 rfl ?_
    refine jw_aload_n dX11_measureCommon_58 (o := x1) rfl ?_
    refine jw_iload_n dX11_measureCommon_59 rfl ?_
    obtain ⟨a4, ea4, hq⟩ := Option.bind_eq_some_iff.mp hq
    obtain ⟨eoa4, eta4⟩ := jw_rc_spec ea4
    obtain ⟨w6, h5, ew6, hq⟩ := jw_b2_spec hq
    refine jw_callV (As := [.int x2, va_rf x1, .int x3]) (S := []) (a := a4) (v := some (.int w6)) dX11_measureCommon_60 mt_X7_same in_X7_same se_X7_same lk_X11_260 (c_X7_same ew6) eta4 (by decide) rfl rfl (by decide) (Nat.le_of_ble_eq_true rfl) (by cases eoa4; rfl) ?_
    rcases jw_if hq with ⟨c7, hq⟩ | ⟨c7, hq⟩
    · refine jw_if_eq_t (tgt := 81) dX11_measureCommon_63 (by decide) c7 ?_
      refine jw_aload_n dX11_measureCommon_81 (o := (some x0)) rfl ?_
      refine jw_iload_n dX11_measureCommon_82 rfl ?_
      refine jw_iconst dX11_measureCommon_83 (v := (1 : Int32)) (by decide) ?_
      refine jw_iadd dX11_measureCommon_84 ?_
      refine jw_iload_n dX11_measureCommon_85 rfl ?_
      obtain ⟨a8, ea8, hq⟩ := Option.bind_eq_some_iff.mp hq
      obtain ⟨eoa8, eta8⟩ := jw_rc_spec ea8
      obtain ⟨w10, h9, ew10, hq⟩ := jw_b2_spec hq
      refine jw_callV (As := [.int (x2 + (1 : Int32)), .int x3]) (S := []) (a := a8) (v := some (.int w10)) dX11_measureCommon_86 mt_X11_commonFrom in_X11_commonFrom se_X11_commonFrom lk_X11_264 (c_X11_commonFrom ew10) eta8 (by decide) rfl rfl (by decide) (Nat.le_of_ble_eq_true rfl) (by cases eoa8; rfl) ?_
      refine jw_aload_n dX11_measureCommon_89 (o := (some x0)) rfl ?_
      refine jw_iload_n dX11_measureCommon_90 rfl ?_
      refine jw_iload_n dX11_measureCommon_91 rfl ?_
      refine jw_iconst dX11_measureCommon_92 (v := (1 : Int32)) (by decide) ?_
      refine jw_iadd dX11_measureCommon_93 ?_
      obtain ⟨a11, ea11, hq⟩ := Option.bind_eq_some_iff.mp hq
      obtain ⟨eoa11, eta11⟩ := jw_rc_spec ea11
      obtain ⟨w13, h12, ew13, hq⟩ := jw_b2_spec hq
      refine jw_callV (As := [.int x2, .int (x3 + (1 : Int32))]) (S := [.int w10]) (a := a11) (v := some (.int w13)) dX11_measureCommon_94 mt_X11_commonFrom in_X11_commonFrom se_X11_commonFrom lk_X11_264 (c_X11_commonFrom ew13) eta11 (by decide) rfl rfl (by decide) (Nat.le_of_ble_eq_true rfl) (by cases eoa11; rfl) ?_
      obtain ⟨w15, h14, ew15, hq⟩ := jw_b2_spec hq
      refine jw_callS (As := [.int w10, .int w13]) (S := []) (v := some (.int w15)) dX11_measureCommon_97 mt_J9_max_7cf53 st_J9_max_7cf53 lk_X11_267 (c_J9_max_7cf53 ew15) rfl (by decide) (Nat.le_of_ble_eq_true rfl) rfl ?_
      exact l_X11_measureCommon_b100 hk45 hq
    · refine jw_if_eq_f (tgt := 81) dX11_measureCommon_63 (by decide) c7 ?_
      refine jw_aload_n dX11_measureCommon_66 (o := (some x0)) rfl ?_
      refine jw_iload_n dX11_measureCommon_67 rfl ?_
      refine jw_iconst dX11_measureCommon_68 (v := (1 : Int32)) (by decide) ?_
      refine jw_iadd dX11_measureCommon_69 ?_
      refine jw_iload_n dX11_measureCommon_70 rfl ?_
      refine jw_iconst dX11_measureCommon_71 (v := (1 : Int32)) (by decide) ?_
      refine jw_iadd dX11_measureCommon_72 ?_
      obtain ⟨a16, ea16, hq⟩ := Option.bind_eq_some_iff.mp hq
      obtain ⟨eoa16, eta16⟩ := jw_rc_spec ea16
      obtain ⟨w18, h17, ew18, hq⟩ := jw_b2_spec hq
      refine jw_callV (As := [.int (x2 + (1 : Int32)), .int (x3 + (1 : Int32))]) (S := []) (a := a16) (v := some (.int w18)) dX11_measureCommon_73 mt_X11_commonFrom in_X11_commonFrom se_X11_commonFrom lk_X11_264 (c_X11_commonFrom ew18) eta16 (by decide) rfl rfl (by decide) (Nat.le_of_ble_eq_true rfl) (by cases eoa16; rfl) ?_
      refine jw_iconst dX11_measureCommon_76 (v := (1 : Int32)) (by decide) ?_
      refine jw_iadd dX11_measureCommon_77 ?_
      refine jw_goto (tgt := 100) dX11_measureCommon_78 (by decide) ?_
      exact l_X11_measureCommon_b100 hk45 hq

theorem l_X11_measureCommon_b45 {hi : jw_H} {k35 : jw_H → Nat → Option Nat → Int32 → Option (Unit × jw_H)} (hk35 : ∀ (h : jw_H) (x0 : Nat) (x1 : Option Nat) (x2 : Int32) (r : Unit) (h' : jw_H), k35 h x0 x1 x2 = some (r, h') → jw_E 2 uX11_measureCommon hi 35 [some (.ref x0), some (va_rf x1), some (.int x2), none, none, none] [] h (.inl none) h') : ∀ (n : Nat) (h : jw_H) (x0 : Nat) (x1 : Option Nat) (x2 : Int32) (x3 : Int32) (r : Unit) (h' : jw_H), f_X11_measureCommon_b45 k35 n h x0 x1 x2 x3 = some (r, h') → jw_E 2 uX11_measureCommon hi 45 [some (.ref x0), some (va_rf x1), some (.int x2), some (.int x3), none, none] [] h (.inl none) h' := by
  intro n
  induction n with
  | zero => intro h x0 x1 x2 x3 r h' hq; exact nomatch hq
  | succ n ih => intro h x0 x1 x2 x3 r h' hq; exact l_X11_measureCommon_b45g hk35 ih hq

set_option maxRecDepth 100000 in
set_option maxHeartbeats 4000000 in
theorem l_X11_measureCommon_b35g {hi : jw_H} {k35 : jw_H → Nat → Option Nat → Int32 → Option (Unit × jw_H)} (hk35 : ∀ (h : jw_H) (x0 : Nat) (x1 : Option Nat) (x2 : Int32) (r : Unit) (h' : jw_H), k35 h x0 x1 x2 = some (r, h') → jw_E 2 uX11_measureCommon hi 35 [some (.ref x0), some (va_rf x1), some (.int x2), none, none, none] [] h (.inl none) h') {h : jw_H} {x0 : Nat} {x1 : Option Nat} {x2 : Int32} {r : Unit} {h' : jw_H} (hq : g_X11_measureCommon_b35 k35 h x0 x1 x2 = some (r, h')) : jw_E 2 uX11_measureCommon hi 35 [some (.ref x0), some (va_rf x1), some (.int x2), none, none, none] [] h (.inl none) h' := by
  unfold g_X11_measureCommon_b35 at hq
  refine jw_iload_n dX11_measureCommon_35 rfl ?_
  refine jw_iconst dX11_measureCommon_36 (v := (1 : Int32)) (by decide) ?_
  rcases jw_if hq with ⟨c1, hq⟩ | ⟨c1, hq⟩
  · refine jw_icmp_lt_t (tgt := 150) dX11_measureCommon_37 (by decide) c1 ?_
    cases hq
    exact jw_vret dX11_measureCommon_150 rfl
  · refine jw_icmp_lt_f (tgt := 150) dX11_measureCommon_37 (by decide) c1 ?_
    refine jw_aload_n dX11_measureCommon_40 (o := x1) rfl ?_
    obtain ⟨v2, ev2, hq⟩ := Option.bind_eq_some_iff.mp hq
    refine jw_getI (o := x1) dX11_measureCommon_41 ev2 fl_X11_164 rfl ?_
    refine jw_istore_n (L' := [some (.ref x0), some (va_rf x1), some (.int x2), some (.int v2), none, none]) dX11_measureCommon_44 (Nat.le_of_ble_eq_true rfl) rfl ?_
    exact l_X11_measureCommon_b45 hk35 jw_FU _ _ _ _ _ _ _ hq

theorem l_X11_measureCommon_b35 {hi : jw_H} : ∀ (n : Nat) (h : jw_H) (x0 : Nat) (x1 : Option Nat) (x2 : Int32) (r : Unit) (h' : jw_H), f_X11_measureCommon_b35  n h x0 x1 x2 = some (r, h') → jw_E 2 uX11_measureCommon hi 35 [some (.ref x0), some (va_rf x1), some (.int x2), none, none, none] [] h (.inl none) h' := by
  intro n
  induction n with
  | zero => intro h x0 x1 x2 r h' hq; exact nomatch hq
  | succ n ih => intro h x0 x1 x2 r h' hq; exact l_X11_measureCommon_b35g ih hq

set_option maxRecDepth 100000 in
set_option maxHeartbeats 4000000 in
theorem l_X11_measureCommon_b2g {hi : jw_H} {k2 : jw_H → Nat → Option Nat → Int32 → Option (Unit × jw_H)} (hk2 : ∀ (h : jw_H) (x0 : Nat) (x1 : Option Nat) (x2 : Int32) (r : Unit) (h' : jw_H), k2 h x0 x1 x2 = some (r, h') → jw_E 2 uX11_measureCommon hi 2 [some (.ref x0), some (va_rf x1), some (.int x2), none, none, none] [] h (.inl none) h') {h : jw_H} {x0 : Nat} {x1 : Option Nat} {x2 : Int32} {r : Unit} {h' : jw_H} (hq : g_X11_measureCommon_b2 k2 h x0 x1 x2 = some (r, h')) : jw_E 2 uX11_measureCommon hi 2 [some (.ref x0), some (va_rf x1), some (.int x2), none, none, none] [] h (.inl none) h' := by
  unfold g_X11_measureCommon_b2 at hq
  refine jw_iload_n dX11_measureCommon_2 rfl ?_
  refine jw_aload_n dX11_measureCommon_3 (o := (some x0)) rfl ?_
  obtain ⟨v1, ev1, hq⟩ := Option.bind_eq_some_iff.mp hq
  refine jw_getR (o := (some x0)) dX11_measureCommon_4 ev1 fl_X11_22 rfl ?_
  obtain ⟨v2, ev2, hq⟩ := Option.bind_eq_some_iff.mp hq
  refine jw_alen (o := v1) dX11_measureCommon_7 ev2 ?_
  rcases jw_if hq with ⟨c3, hq⟩ | ⟨c3, hq⟩
  · refine jw_icmp_ge_t (tgt := 24) dX11_measureCommon_8 (by decide) c3 ?_
    refine jw_aload_n dX11_measureCommon_24 (o := (some x0)) rfl ?_
    obtain ⟨v4, ev4, hq⟩ := Option.bind_eq_some_iff.mp hq
    refine jw_getR (o := (some x0)) dX11_measureCommon_25 ev4 fl_X11_38 rfl ?_
    obtain ⟨v5, ev5, hq⟩ := Option.bind_eq_some_iff.mp hq
    refine jw_getR (o := v4) dX11_measureCommon_28 ev5 fl_X11_160 rfl ?_
    obtain ⟨v6, ev6, hq⟩ := Option.bind_eq_some_iff.mp hq
    refine jw_getI (o := v5) dX11_measureCommon_31 ev6 fl_X11_164 rfl ?_
    refine jw_istore_n (L' := [some (.ref x0), some (va_rf x1), some (.int v6), none, none, none]) dX11_measureCommon_34 (Nat.le_of_ble_eq_true rfl) ((jw_st1_of (j := 1) jw_long_rf).trans rfl) ?_
    exact l_X11_measureCommon_b35  jw_FU _ _ _ _ _ _ hq
  · refine jw_icmp_ge_f (tgt := 24) dX11_measureCommon_8 (by decide) c3 ?_
    refine jw_aload_n dX11_measureCommon_11 (o := (some x0)) rfl ?_
    obtain ⟨v7, ev7, hq⟩ := Option.bind_eq_some_iff.mp hq
    refine jw_getR (o := (some x0)) dX11_measureCommon_12 ev7 fl_X11_22 rfl ?_
    refine jw_iload_n dX11_measureCommon_15 rfl ?_
    refine jw_iconst dX11_measureCommon_16 (v := (0 : Int32)) (by decide) ?_
    obtain ⟨h8, eh8, hq⟩ := Option.bind_eq_some_iff.mp hq
    refine jw_iast (o := v7) dX11_measureCommon_17 eh8 ?_
    refine jw_iinc (L' := [some (.ref x0), some (va_rf x1), some (.int (x2 + (1 : Int32))), none, none, none]) dX11_measureCommon_18 rfl (v := (1 : Int32)) (by decide) (Nat.le_of_ble_eq_true rfl) ((jw_st1_of (j := 1) jw_long_rf).trans rfl) ?_
    refine jw_goto (tgt := 2) dX11_measureCommon_21 (by decide) ?_
    exact hk2 _ _ _ _ _ _ hq

theorem l_X11_measureCommon_b2 {hi : jw_H} : ∀ (n : Nat) (h : jw_H) (x0 : Nat) (x1 : Option Nat) (x2 : Int32) (r : Unit) (h' : jw_H), f_X11_measureCommon_b2  n h x0 x1 x2 = some (r, h') → jw_E 2 uX11_measureCommon hi 2 [some (.ref x0), some (va_rf x1), some (.int x2), none, none, none] [] h (.inl none) h' := by
  intro n
  induction n with
  | zero => intro h x0 x1 x2 r h' hq; exact nomatch hq
  | succ n ih => intro h x0 x1 x2 r h' hq; exact l_X11_measureCommon_b2g ih hq

set_option maxRecDepth 100000 in
set_option maxHeartbeats 4000000 in
theorem l_X11_measureCommon {hi : jw_H} {h : jw_H} {x0 : Nat} {x1 : Option Nat} {r : Unit} {h' : jw_H} (hq : f_X11_measureCommon  h x0 x1 = some (r, h')) : jw_E 2 uX11_measureCommon hi 0 [some (.ref x0), some (va_rf x1), none, none, none, none] [] h (.inl none) h' := by
  unfold f_X11_measureCommon at hq
  refine jw_iconst dX11_measureCommon_0 (v := (0 : Int32)) (by decide) ?_
  refine jw_istore_n (L' := [some (.ref x0), some (va_rf x1), some (.int (0 : Int32)), none, none, none]) dX11_measureCommon_1 (Nat.le_of_ble_eq_true rfl) ((jw_st1_of (j := 1) jw_long_rf).trans rfl) ?_
  exact l_X11_measureCommon_b2  jw_FU _ _ _ _ _ _ hq

theorem c_X11_measureCommon {h : jw_H} {x0 : Nat} {x1 : Option Nat} {r : Unit} {h' : jw_H} (hq : f_X11_measureCommon h x0 x1 = some (r, h')) : jw_Con (Cond.code yX11_measureCommon cX11_measureCommon 6 none) yX11_measureCommon 2 [.ref x0, va_rf x1] h (.inl none) h' :=
  jw_con false (plainFor_of_name (by decide +kernel)) (fun z => nomatch z) (by simp [jw_ent, jw_sl0_nil, jw_sl0_int, jw_sl0_long, jw_sl0_ref, jw_sl0_rf, jw_sl0_scr, List.replicate]) (by simp [jw_sl0_nil, jw_sl0_int, jw_sl0_long, jw_sl0_ref, jw_sl0_rf, jw_sl0_scr]) (l_X11_measureCommon hq)


/-! X11_pairUp -/
noncomputable def g_X11_pairUp_b147 (k39 : jw_H → Nat → Option Nat → Int32 → Int32 → Int32 → Int32 → Option (Int32 × jw_H)) (h : jw_H) (x0 : Nat) (x1 : Option Nat) (x2 : Int32) (x3 : Int32) (x4 : Int32) (x5 : Int32) : Option (Int32 × jw_H) :=
 k39 h x0 x1 x2 x3 x4 (x5 + (1 : Int32))

noncomputable def g_X11_pairUp_b105 (k39 : jw_H → Nat → Option Nat → Int32 → Int32 → Int32 → Int32 → Option (Int32 × jw_H)) (h : jw_H) (x0 : Nat) (x1 : Option Nat) (x2 : Int32) (x3 : Int32) (x4 : Int32) (x5 : Int32) : Option (Int32 × jw_H) :=
 g_X11_pairUp_b147 k39 h x0 x1 (x2 + (1 : Int32)) (x3 + (1 : Int32)) (x4 + (1 : Int32)) x5

noncomputable def g_X11_pairUp_b39 (k39 : jw_H → Nat → Option Nat → Int32 → Int32 → Int32 → Int32 → Option (Int32 × jw_H)) (h : jw_H) (x0 : Nat) (x1 : Option Nat) (x2 : Int32) (x3 : Int32) (x4 : Int32) (x5 : Int32) : Option (Int32 × jw_H) :=
 if (80 : Int32) ≤ x5 then (some (x2, h))
 else ((jw_gR h 11 (some x0) 6).bind fun v2 =>
 (jw_gR h 9 v2 0).bind fun v3 =>
 (jw_rc h 7 v3).bind fun a4 =>
 jw_b2 (f_X7_has h a4 x3) fun w6 h5 =>
 if w6 = 0 then (some (x2, h5))
 else ((jw_rc h5 7 x1).bind fun a8 =>
 jw_b2 (f_X7_has h5 a8 x4) fun w10 h9 =>
 if w10 = 0 then (some (x2, h9))
 else ((jw_gR h9 11 (some x0) 6).bind fun v12 =>
 (jw_gR h9 9 v12 0).bind fun v13 =>
 (jw_rc h9 7 v13).bind fun a14 =>
 jw_b2 (f_X7_same h9 a14 x3 x1 x4) fun w16 h15 =>
 if w16 = 0 then ((jw_rc h15 11 (some x0)).bind fun a18 =>
 jw_b2 (f_X11_commonFrom h15 a18 (x3 + (1 : Int32)) x4) fun w20 h19 =>
 (jw_rc h19 11 (some x0)).bind fun a21 =>
 jw_b2 (f_X11_commonFrom h19 a21 x3 (x4 + (1 : Int32))) fun w23 h22 =>
 if w20 < w23 then (g_X11_pairUp_b147 k39 h22 x0 x1 x2 x3 (x4 + (1 : Int32)) x5)
 else (g_X11_pairUp_b147 k39 h22 x0 x1 x2 (x3 + (1 : Int32)) x4 x5))
 else ((jw_gR h15 11 (some x0) 4).bind fun v25 =>
 (jw_ln h15 v25).bind fun v26 =>
 if v26 < x3 then (g_X11_pairUp_b105 k39 h15 x0 x1 x2 x3 x4 x5)
 else ((jw_gR h15 11 (some x0) 4).bind fun v28 =>
 (jw_si h15 20 v28 (x3 - (1 : Int32)) x4).bind fun h29 =>
 g_X11_pairUp_b105 k39 h29 x0 x1 x2 x3 x4 x5)))))

noncomputable def f_X11_pairUp_b39 (n : Nat) : jw_H → Nat → Option Nat → Int32 → Int32 → Int32 → Int32 → Option (Int32 × jw_H) :=
 Nat.rec (fun _ _ _ _ _ _ _ => none) (fun _ k39 => g_X11_pairUp_b39 k39) n

noncomputable def g_X11_pairUp_b7 (k7 : jw_H → Nat → Option Nat → Int32 → Option (Int32 × jw_H)) (h : jw_H) (x0 : Nat) (x1 : Option Nat) (x2 : Int32) : Option (Int32 × jw_H) :=
 (jw_gR h 11 (some x0) 4).bind fun v1 =>
 (jw_ln h v1).bind fun v2 =>
 if v2 ≤ x2 then (f_X11_pairUp_b39  jw_FU h x0 x1 (0 : Int32) (1 : Int32) (1 : Int32) (0 : Int32))
 else ((jw_gR h 11 (some x0) 4).bind fun v4 =>
 (jw_si h 20 v4 x2 (-1 : Int32)).bind fun h5 =>
 k7 h5 x0 x1 (x2 + (1 : Int32)))

noncomputable def f_X11_pairUp_b7 (n : Nat) : jw_H → Nat → Option Nat → Int32 → Option (Int32 × jw_H) :=
 Nat.rec (fun _ _ _ _ => none) (fun _ k7 => g_X11_pairUp_b7 k7) n

noncomputable def f_X11_pairUp (h : jw_H) (x0 : Nat) (x1 : Option Nat) : Option (Int32 × jw_H) :=
 (jw_rc h 11 (some x0)).bind fun a1 =>
 jw_b2 (f_X11_measureCommon h a1 x1) fun w3 h2 =>
 f_X11_pairUp_b7  jw_FU h2 x0 x1 (0 : Int32)

set_option maxRecDepth 100000 in
set_option maxHeartbeats 4000000 in
theorem l_X11_pairUp_b147 {hi : jw_H} {k39 : jw_H → Nat → Option Nat → Int32 → Int32 → Int32 → Int32 → Option (Int32 × jw_H)} (hk39 : ∀ (h : jw_H) (x0 : Nat) (x1 : Option Nat) (x2 : Int32) (x3 : Int32) (x4 : Int32) (x5 : Int32) (r : Int32) (h' : jw_H), k39 h x0 x1 x2 x3 x4 x5 = some (r, h') → jw_E 3 uX11_pairUp hi 39 [some (.ref x0), some (va_rf x1), some (.int x2), some (.int x3), some (.int x4), some (.int x5)] [] h (.inl (some (.int r))) h') {h : jw_H} {x0 : Nat} {x1 : Option Nat} {x2 : Int32} {x3 : Int32} {x4 : Int32} {x5 : Int32} {r : Int32} {h' : jw_H} (hq : g_X11_pairUp_b147 k39 h x0 x1 x2 x3 x4 x5 = some (r, h')) : jw_E 3 uX11_pairUp hi 147 [some (.ref x0), some (va_rf x1), some (.int x2), some (.int x3), some (.int x4), some (.int x5)] [] h (.inl (some (.int r))) h' := by
  unfold g_X11_pairUp_b147 at hq
  refine jw_iinc (L' := [some (.ref x0), some (va_rf x1), some (.int x2), some (.int x3), some (.int x4), some (.int (x5 + (1 : Int32)))]) dX11_pairUp_147 rfl (v := (1 : Int32)) (by decide) (Nat.le_of_ble_eq_true rfl) rfl ?_
  refine jw_goto (tgt := 39) dX11_pairUp_150 (by decide) ?_
  exact hk39 _ _ _ _ _ _ _ _ _ hq

set_option maxRecDepth 100000 in
set_option maxHeartbeats 4000000 in
theorem l_X11_pairUp_b105 {hi : jw_H} {k39 : jw_H → Nat → Option Nat → Int32 → Int32 → Int32 → Int32 → Option (Int32 × jw_H)} (hk39 : ∀ (h : jw_H) (x0 : Nat) (x1 : Option Nat) (x2 : Int32) (x3 : Int32) (x4 : Int32) (x5 : Int32) (r : Int32) (h' : jw_H), k39 h x0 x1 x2 x3 x4 x5 = some (r, h') → jw_E 3 uX11_pairUp hi 39 [some (.ref x0), some (va_rf x1), some (.int x2), some (.int x3), some (.int x4), some (.int x5)] [] h (.inl (some (.int r))) h') {h : jw_H} {x0 : Nat} {x1 : Option Nat} {x2 : Int32} {x3 : Int32} {x4 : Int32} {x5 : Int32} {r : Int32} {h' : jw_H} (hq : g_X11_pairUp_b105 k39 h x0 x1 x2 x3 x4 x5 = some (r, h')) : jw_E 3 uX11_pairUp hi 105 [some (.ref x0), some (va_rf x1), some (.int x2), some (.int x3), some (.int x4), some (.int x5)] [] h (.inl (some (.int r))) h' := by
  unfold g_X11_pairUp_b105 at hq
  refine jw_iinc (L' := [some (.ref x0), some (va_rf x1), some (.int (x2 + (1 : Int32))), some (.int x3), some (.int x4), some (.int x5)]) dX11_pairUp_105 rfl (v := (1 : Int32)) (by decide) (Nat.le_of_ble_eq_true rfl) ((jw_st1_of (j := 1) jw_long_rf).trans rfl) ?_
  refine jw_iinc (L' := [some (.ref x0), some (va_rf x1), some (.int (x2 + (1 : Int32))), some (.int (x3 + (1 : Int32))), some (.int x4), some (.int x5)]) dX11_pairUp_108 rfl (v := (1 : Int32)) (by decide) (Nat.le_of_ble_eq_true rfl) rfl ?_
  refine jw_iinc (L' := [some (.ref x0), some (va_rf x1), some (.int (x2 + (1 : Int32))), some (.int (x3 + (1 : Int32))), some (.int (x4 + (1 : Int32))), some (.int x5)]) dX11_pairUp_111 rfl (v := (1 : Int32)) (by decide) (Nat.le_of_ble_eq_true rfl) rfl ?_
  refine jw_goto (tgt := 147) dX11_pairUp_114 (by decide) ?_
  exact l_X11_pairUp_b147 hk39 hq

set_option maxRecDepth 100000 in
set_option maxHeartbeats 4000000 in
theorem l_X11_pairUp_b39g {hi : jw_H} {k39 : jw_H → Nat → Option Nat → Int32 → Int32 → Int32 → Int32 → Option (Int32 × jw_H)} (hk39 : ∀ (h : jw_H) (x0 : Nat) (x1 : Option Nat) (x2 : Int32) (x3 : Int32) (x4 : Int32) (x5 : Int32) (r : Int32) (h' : jw_H), k39 h x0 x1 x2 x3 x4 x5 = some (r, h') → jw_E 3 uX11_pairUp hi 39 [some (.ref x0), some (va_rf x1), some (.int x2), some (.int x3), some (.int x4), some (.int x5)] [] h (.inl (some (.int r))) h') {h : jw_H} {x0 : Nat} {x1 : Option Nat} {x2 : Int32} {x3 : Int32} {x4 : Int32} {x5 : Int32} {r : Int32} {h' : jw_H} (hq : g_X11_pairUp_b39 k39 h x0 x1 x2 x3 x4 x5 = some (r, h')) : jw_E 3 uX11_pairUp hi 39 [some (.ref x0), some (va_rf x1), some (.int x2), some (.int x3), some (.int x4), some (.int x5)] [] h (.inl (some (.int r))) h' := by
  unfold g_X11_pairUp_b39 at hq
  refine jw_iload dX11_pairUp_39 rfl ?_
  refine jw_bipush dX11_pairUp_41 (v := (80 : Int32)) (by decide) ?_
  rcases jw_if hq with ⟨c1, hq⟩ | ⟨c1, hq⟩
  · refine jw_icmp_ge_t (tgt := 153) dX11_pairUp_43 (by decide) c1 ?_
    refine jw_iload_n dX11_pairUp_153 rfl ?_
    cases hq
    exact jw_iret (ty := .int) dX11_pairUp_154 rfl rfl
  · refine jw_icmp_ge_f (tgt := 153) dX11_pairUp_43 (by decide) c1 ?_
    refine jw_aload_n dX11_pairUp_46 (o := (some x0)) rfl ?_
    obtain ⟨v2, ev2, hq⟩ := Option.bind_eq_some_iff.mp hq
    refine jw_getR (o := (some x0)) dX11_pairUp_47 ev2 fl_X11_38 rfl ?_
    obtain ⟨v3, ev3, hq⟩ := Option.bind_eq_some_iff.mp hq
    refine jw_getR (o := v2) dX11_pairUp_50 ev3 fl_X11_160 rfl ?_
    refine jw_iload_n dX11_pairUp_53 rfl ?_
    obtain ⟨a4, ea4, hq⟩ := Option.bind_eq_some_iff.mp hq
    obtain ⟨eoa4, eta4⟩ := jw_rc_spec ea4
    obtain ⟨w6, h5, ew6, hq⟩ := jw_b2_spec hq
    refine jw_callV (As := [.int x3]) (S := []) (a := a4) (v := some (.int w6)) dX11_pairUp_54 mt_X7_has in_X7_has se_X7_has lk_X11_169 (c_X7_has ew6) eta4 (by decide) rfl rfl (by decide) (Nat.le_of_ble_eq_true rfl) (by cases eoa4; rfl) ?_
    rcases jw_if hq with ⟨c7, hq⟩ | ⟨c7, hq⟩
    · refine jw_if_eq_t (tgt := 153) dX11_pairUp_57 (by decide) c7 ?_
      refine jw_iload_n dX11_pairUp_153 rfl ?_
      cases hq
      exact jw_iret (ty := .int) dX11_pairUp_154 rfl rfl
    · refine jw_if_eq_f (tgt := 153) dX11_pairUp_57 (by decide) c7 ?_
      refine jw_aload_n dX11_pairUp_60 (o := x1) rfl ?_
      refine jw_iload dX11_pairUp_61 rfl ?_
      obtain ⟨a8, ea8, hq⟩ := Option.bind_eq_some_iff.mp hq
      obtain ⟨eoa8, eta8⟩ := jw_rc_spec ea8
      obtain ⟨w10, h9, ew10, hq⟩ := jw_b2_spec hq
      refine jw_callV (As := [.int x4]) (S := []) (a := a8) (v := some (.int w10)) dX11_pairUp_63 mt_X7_has in_X7_has se_X7_has lk_X11_169 (c_X7_has ew10) eta8 (by decide) rfl rfl (by decide) (Nat.le_of_ble_eq_true rfl) (by cases eoa8; rfl) ?_
      rcases jw_if hq with ⟨c11, hq⟩ | ⟨c11, hq⟩
      · refine jw_if_eq_t (tgt := 153) dX11_pairUp_66 (by decide) c11 ?_
        refine jw_iload_n dX11_pairUp_153 rfl ?_
        cases hq
        exact jw_iret (ty := .int) dX11_pairUp_154 rfl rfl
      · refine jw_if_eq_f (tgt := 153) dX11_pairUp_66 (by decide) c11 ?_
        refine jw_aload_n dX11_pairUp_69 (o := (some x0)) rfl ?_
        obtain ⟨v12, ev12, hq⟩ := Option.bind_eq_some_iff.mp hq
        refine jw_getR (o := (some x0)) dX11_pairUp_70 ev12 fl_X11_38 rfl ?_
        obtain ⟨v13, ev13, hq⟩ := Option.bind_eq_some_iff.mp hq
        refine jw_getR (o := v12) dX11_pairUp_73 ev13 fl_X11_160 rfl ?_
        refine jw_iload_n dX11_pairUp_76 rfl ?_
        refine jw_aload_n dX11_pairUp_77 (o := x1) rfl ?_
        refine jw_iload dX11_pairUp_78 rfl ?_
        obtain ⟨a14, ea14, hq⟩ := Option.bind_eq_some_iff.mp hq
        obtain ⟨eoa14, eta14⟩ := jw_rc_spec ea14
        obtain ⟨w16, h15, ew16, hq⟩ := jw_b2_spec hq
        refine jw_callV (As := [.int x3, va_rf x1, .int x4]) (S := []) (a := a14) (v := some (.int w16)) dX11_pairUp_80 mt_X7_same in_X7_same se_X7_same lk_X11_260 (c_X7_same ew16) eta14 (by decide) rfl rfl (by decide) (Nat.le_of_ble_eq_true rfl) (by cases eoa14; rfl) ?_
        rcases jw_if hq with ⟨c17, hq⟩ | ⟨c17, hq⟩
        · refine jw_if_eq_t (tgt := 117) dX11_pairUp_83 (by decide) c17 ?_
          refine jw_aload_n dX11_pairUp_117 (o := (some x0)) rfl ?_
          refine jw_iload_n dX11_pairUp_118 rfl ?_
          refine jw_iconst dX11_pairUp_119 (v := (1 : Int32)) (by decide) ?_
          refine jw_iadd dX11_pairUp_120 ?_
          refine jw_iload dX11_pairUp_121 rfl ?_
          obtain ⟨a18, ea18, hq⟩ := Option.bind_eq_some_iff.mp hq
          obtain ⟨eoa18, eta18⟩ := jw_rc_spec ea18
          obtain ⟨w20, h19, ew20, hq⟩ := jw_b2_spec hq
          refine jw_callV (As := [.int (x3 + (1 : Int32)), .int x4]) (S := []) (a := a18) (v := some (.int w20)) dX11_pairUp_123 mt_X11_commonFrom in_X11_commonFrom se_X11_commonFrom lk_X11_264 (c_X11_commonFrom ew20) eta18 (by decide) rfl rfl (by decide) (Nat.le_of_ble_eq_true rfl) (by cases eoa18; rfl) ?_
          refine jw_aload_n dX11_pairUp_126 (o := (some x0)) rfl ?_
          refine jw_iload_n dX11_pairUp_127 rfl ?_
          refine jw_iload dX11_pairUp_128 rfl ?_
          refine jw_iconst dX11_pairUp_130 (v := (1 : Int32)) (by decide) ?_
          refine jw_iadd dX11_pairUp_131 ?_
          obtain ⟨a21, ea21, hq⟩ := Option.bind_eq_some_iff.mp hq
          obtain ⟨eoa21, eta21⟩ := jw_rc_spec ea21
          obtain ⟨w23, h22, ew23, hq⟩ := jw_b2_spec hq
          refine jw_callV (As := [.int x3, .int (x4 + (1 : Int32))]) (S := [.int w20]) (a := a21) (v := some (.int w23)) dX11_pairUp_132 mt_X11_commonFrom in_X11_commonFrom se_X11_commonFrom lk_X11_264 (c_X11_commonFrom ew23) eta21 (by decide) rfl rfl (by decide) (Nat.le_of_ble_eq_true rfl) (by cases eoa21; rfl) ?_
          rcases jw_if hq with ⟨c24, hq⟩ | ⟨c24, hq⟩
          · refine jw_icmp_lt_t (tgt := 144) dX11_pairUp_135 (by decide) c24 ?_
            refine jw_iinc (L' := [some (.ref x0), some (va_rf x1), some (.int x2), some (.int x3), some (.int (x4 + (1 : Int32))), some (.int x5)]) dX11_pairUp_144 rfl (v := (1 : Int32)) (by decide) (Nat.le_of_ble_eq_true rfl) rfl ?_
            exact l_X11_pairUp_b147 hk39 hq
          · refine jw_icmp_lt_f (tgt := 144) dX11_pairUp_135 (by decide) c24 ?_
            refine jw_iinc (L' := [some (.ref x0), some (va_rf x1), some (.int x2), some (.int (x3 + (1 : Int32))), some (.int x4), some (.int x5)]) dX11_pairUp_138 rfl (v := (1 : Int32)) (by decide) (Nat.le_of_ble_eq_true rfl) rfl ?_
            refine jw_goto (tgt := 147) dX11_pairUp_141 (by decide) ?_
            exact l_X11_pairUp_b147 hk39 hq
        · refine jw_if_eq_f (tgt := 117) dX11_pairUp_83 (by decide) c17 ?_
          refine jw_iload_n dX11_pairUp_86 rfl ?_
          refine jw_aload_n dX11_pairUp_87 (o := (some x0)) rfl ?_
          obtain ⟨v25, ev25, hq⟩ := Option.bind_eq_some_iff.mp hq
          refine jw_getR (o := (some x0)) dX11_pairUp_88 ev25 fl_X11_25 rfl ?_
          obtain ⟨v26, ev26, hq⟩ := Option.bind_eq_some_iff.mp hq
          refine jw_alen (o := v25) dX11_pairUp_91 ev26 ?_
          rcases jw_if hq with ⟨c27, hq⟩ | ⟨c27, hq⟩
          · refine jw_icmp_gt_t (tgt := 105) dX11_pairUp_92 (by decide) c27 ?_
            exact l_X11_pairUp_b105 hk39 hq
          · refine jw_icmp_gt_f (tgt := 105) dX11_pairUp_92 (by decide) c27 ?_
            refine jw_aload_n dX11_pairUp_95 (o := (some x0)) rfl ?_
            obtain ⟨v28, ev28, hq⟩ := Option.bind_eq_some_iff.mp hq
            refine jw_getR (o := (some x0)) dX11_pairUp_96 ev28 fl_X11_25 rfl ?_
            refine jw_iload_n dX11_pairUp_99 rfl ?_
            refine jw_iconst dX11_pairUp_100 (v := (1 : Int32)) (by decide) ?_
            refine jw_isub dX11_pairUp_101 ?_
            refine jw_iload dX11_pairUp_102 rfl ?_
            obtain ⟨h29, eh29, hq⟩ := Option.bind_eq_some_iff.mp hq
            refine jw_iast (o := v28) dX11_pairUp_104 eh29 ?_
            exact l_X11_pairUp_b105 hk39 hq

theorem l_X11_pairUp_b39 {hi : jw_H} : ∀ (n : Nat) (h : jw_H) (x0 : Nat) (x1 : Option Nat) (x2 : Int32) (x3 : Int32) (x4 : Int32) (x5 : Int32) (r : Int32) (h' : jw_H), f_X11_pairUp_b39  n h x0 x1 x2 x3 x4 x5 = some (r, h') → jw_E 3 uX11_pairUp hi 39 [some (.ref x0), some (va_rf x1), some (.int x2), some (.int x3), some (.int x4), some (.int x5)] [] h (.inl (some (.int r))) h' := by
  intro n
  induction n with
  | zero => intro h x0 x1 x2 x3 x4 x5 r h' hq; exact nomatch hq
  | succ n ih => intro h x0 x1 x2 x3 x4 x5 r h' hq; exact l_X11_pairUp_b39g ih hq

set_option maxRecDepth 100000 in
set_option maxHeartbeats 4000000 in
theorem l_X11_pairUp_b7g {hi : jw_H} {k7 : jw_H → Nat → Option Nat → Int32 → Option (Int32 × jw_H)} (hk7 : ∀ (h : jw_H) (x0 : Nat) (x1 : Option Nat) (x2 : Int32) (r : Int32) (h' : jw_H), k7 h x0 x1 x2 = some (r, h') → jw_E 3 uX11_pairUp hi 7 [some (.ref x0), some (va_rf x1), some (.int x2), none, none, none] [] h (.inl (some (.int r))) h') {h : jw_H} {x0 : Nat} {x1 : Option Nat} {x2 : Int32} {r : Int32} {h' : jw_H} (hq : g_X11_pairUp_b7 k7 h x0 x1 x2 = some (r, h')) : jw_E 3 uX11_pairUp hi 7 [some (.ref x0), some (va_rf x1), some (.int x2), none, none, none] [] h (.inl (some (.int r))) h' := by
  unfold g_X11_pairUp_b7 at hq
  refine jw_iload_n dX11_pairUp_7 rfl ?_
  refine jw_aload_n dX11_pairUp_8 (o := (some x0)) rfl ?_
  obtain ⟨v1, ev1, hq⟩ := Option.bind_eq_some_iff.mp hq
  refine jw_getR (o := (some x0)) dX11_pairUp_9 ev1 fl_X11_25 rfl ?_
  obtain ⟨v2, ev2, hq⟩ := Option.bind_eq_some_iff.mp hq
  refine jw_alen (o := v1) dX11_pairUp_12 ev2 ?_
  rcases jw_if hq with ⟨c3, hq⟩ | ⟨c3, hq⟩
  · refine jw_icmp_ge_t (tgt := 29) dX11_pairUp_13 (by decide) c3 ?_
    refine jw_iconst dX11_pairUp_29 (v := (0 : Int32)) (by decide) ?_
    refine jw_istore_n (L' := [some (.ref x0), some (va_rf x1), some (.int (0 : Int32)), none, none, none]) dX11_pairUp_30 (Nat.le_of_ble_eq_true rfl) ((jw_st1_of (j := 1) jw_long_rf).trans rfl) ?_
    refine jw_iconst dX11_pairUp_31 (v := (1 : Int32)) (by decide) ?_
    refine jw_istore_n (L' := [some (.ref x0), some (va_rf x1), some (.int (0 : Int32)), some (.int (1 : Int32)), none, none]) dX11_pairUp_32 (Nat.le_of_ble_eq_true rfl) rfl ?_
    refine jw_iconst dX11_pairUp_33 (v := (1 : Int32)) (by decide) ?_
    refine jw_istore (L' := [some (.ref x0), some (va_rf x1), some (.int (0 : Int32)), some (.int (1 : Int32)), some (.int (1 : Int32)), none]) dX11_pairUp_34 (Nat.le_of_ble_eq_true rfl) rfl ?_
    refine jw_iconst dX11_pairUp_36 (v := (0 : Int32)) (by decide) ?_
    refine jw_istore (L' := [some (.ref x0), some (va_rf x1), some (.int (0 : Int32)), some (.int (1 : Int32)), some (.int (1 : Int32)), some (.int (0 : Int32))]) dX11_pairUp_37 (Nat.le_of_ble_eq_true rfl) rfl ?_
    exact l_X11_pairUp_b39  jw_FU _ _ _ _ _ _ _ _ _ hq
  · refine jw_icmp_ge_f (tgt := 29) dX11_pairUp_13 (by decide) c3 ?_
    refine jw_aload_n dX11_pairUp_16 (o := (some x0)) rfl ?_
    obtain ⟨v4, ev4, hq⟩ := Option.bind_eq_some_iff.mp hq
    refine jw_getR (o := (some x0)) dX11_pairUp_17 ev4 fl_X11_25 rfl ?_
    refine jw_iload_n dX11_pairUp_20 rfl ?_
    refine jw_iconst dX11_pairUp_21 (v := (-1 : Int32)) (by decide) ?_
    obtain ⟨h5, eh5, hq⟩ := Option.bind_eq_some_iff.mp hq
    refine jw_iast (o := v4) dX11_pairUp_22 eh5 ?_
    refine jw_iinc (L' := [some (.ref x0), some (va_rf x1), some (.int (x2 + (1 : Int32))), none, none, none]) dX11_pairUp_23 rfl (v := (1 : Int32)) (by decide) (Nat.le_of_ble_eq_true rfl) ((jw_st1_of (j := 1) jw_long_rf).trans rfl) ?_
    refine jw_goto (tgt := 7) dX11_pairUp_26 (by decide) ?_
    exact hk7 _ _ _ _ _ _ hq

theorem l_X11_pairUp_b7 {hi : jw_H} : ∀ (n : Nat) (h : jw_H) (x0 : Nat) (x1 : Option Nat) (x2 : Int32) (r : Int32) (h' : jw_H), f_X11_pairUp_b7  n h x0 x1 x2 = some (r, h') → jw_E 3 uX11_pairUp hi 7 [some (.ref x0), some (va_rf x1), some (.int x2), none, none, none] [] h (.inl (some (.int r))) h' := by
  intro n
  induction n with
  | zero => intro h x0 x1 x2 r h' hq; exact nomatch hq
  | succ n ih => intro h x0 x1 x2 r h' hq; exact l_X11_pairUp_b7g ih hq

set_option maxRecDepth 100000 in
set_option maxHeartbeats 4000000 in
theorem l_X11_pairUp {hi : jw_H} {h : jw_H} {x0 : Nat} {x1 : Option Nat} {r : Int32} {h' : jw_H} (hq : f_X11_pairUp  h x0 x1 = some (r, h')) : jw_E 3 uX11_pairUp hi 0 [some (.ref x0), some (va_rf x1), none, none, none, none] [] h (.inl (some (.int r))) h' := by
  unfold f_X11_pairUp at hq
  refine jw_aload_n dX11_pairUp_0 (o := (some x0)) rfl ?_
  refine jw_aload_n dX11_pairUp_1 (o := x1) rfl ?_
  obtain ⟨a1, ea1, hq⟩ := Option.bind_eq_some_iff.mp hq
  obtain ⟨eoa1, eta1⟩ := jw_rc_spec ea1
  obtain ⟨w3, h2, ew3, hq⟩ := jw_b2_spec hq
  refine jw_callV (As := [va_rf x1]) (S := []) (a := a1) (v := none) dX11_pairUp_2 mt_X11_measureCommon in_X11_measureCommon se_X11_measureCommon lk_X11_256 (c_X11_measureCommon ew3) eta1 (by decide) rfl rfl (by decide) (Nat.le_of_ble_eq_true rfl) (by cases eoa1; rfl) ?_
  refine jw_iconst dX11_pairUp_5 (v := (0 : Int32)) (by decide) ?_
  refine jw_istore_n (L' := [some (.ref x0), some (va_rf x1), some (.int (0 : Int32)), none, none, none]) dX11_pairUp_6 (Nat.le_of_ble_eq_true rfl) ((jw_st1_of (j := 1) jw_long_rf).trans rfl) ?_
  exact l_X11_pairUp_b7  jw_FU _ _ _ _ _ _ hq

theorem c_X11_pairUp {h : jw_H} {x0 : Nat} {x1 : Option Nat} {r : Int32} {h' : jw_H} (hq : f_X11_pairUp h x0 x1 = some (r, h')) : jw_Con (Cond.code yX11_pairUp cX11_pairUp 6 (some .int)) yX11_pairUp 3 [.ref x0, va_rf x1] h (.inl (some (.int r))) h' :=
  jw_con false (plainFor_of_name (by decide +kernel)) (fun z => nomatch z) (by simp [jw_ent, jw_sl0_nil, jw_sl0_int, jw_sl0_long, jw_sl0_ref, jw_sl0_rf, jw_sl0_scr, List.replicate]) (by simp [jw_sl0_nil, jw_sl0_int, jw_sl0_long, jw_sl0_ref, jw_sl0_rf, jw_sl0_scr]) (l_X11_pairUp hq)


/-! X11_differ -/
noncomputable def f_X11_differ (h : jw_H) (x0 : Nat) (x1 : Int32) : Option ((Int32 ⊕ String) × jw_H) :=
 (jw_gR h 11 (some x0) 7).bind fun v1 =>
 (jw_rc h 8 v1).bind fun a2 =>
 jw_b2 (f_X8_file h a2 x1) fun w4 h3 =>
 if w4 = none then (some (Sum.inr "java/lang/IndexOutOfBoundsException", jw_thw h3))
 else ((jw_gR h3 11 (some x0) 6).bind fun v6 =>
 (jw_gR h3 9 v6 0).bind fun v7 =>
 (jw_gI h3 7 v7 2).bind fun v8 =>
 (jw_gI h3 7 w4 2).bind fun v9 =>
 (jw_rc h3 11 (some x0)).bind fun a10 =>
 jw_b2 (f_X11_pairUp h3 a10 w4) fun w12 h11 =>
 some (Sum.inl ((v8 + v9) - ((2 : Int32) * w12)), h11))

set_option maxRecDepth 100000 in
set_option maxHeartbeats 4000000 in
theorem l_X11_differ {hi : jw_H} {h : jw_H} {x0 : Nat} {x1 : Int32} {r : Int32 ⊕ String} {h' : jw_H} (hq : f_X11_differ  h x0 x1 = some (r, h')) : jw_E 8 uX11_differ hi 0 [some (.ref x0), some (.int x1), none] [] h (jw_res r) h' := by
  unfold f_X11_differ at hq
  refine jw_aload_n dX11_differ_0 (o := (some x0)) rfl ?_
  obtain ⟨v1, ev1, hq⟩ := Option.bind_eq_some_iff.mp hq
  refine jw_getR (o := (some x0)) dX11_differ_1 ev1 fl_X11_45 rfl ?_
  refine jw_iload_n dX11_differ_4 rfl ?_
  obtain ⟨a2, ea2, hq⟩ := Option.bind_eq_some_iff.mp hq
  obtain ⟨eoa2, eta2⟩ := jw_rc_spec ea2
  obtain ⟨w4, h3, ew4, hq⟩ := jw_b2_spec hq
  refine jw_callV (As := [.int x1]) (S := []) (a := a2) (v := some (va_rf w4)) dX11_differ_5 mt_X8_file in_X8_file se_X8_file lk_X11_221 (c_X8_file ew4) eta2 (by decide) rfl rfl (by decide) (Nat.le_of_ble_eq_true rfl) (by cases eoa2; rfl) ?_
  refine jw_astore_n (o := w4) (L' := [some (.ref x0), some (.int x1), some (va_rf w4)]) dX11_differ_8 (Nat.le_of_ble_eq_true rfl) rfl ?_
  refine jw_aload_n dX11_differ_9 (o := w4) rfl ?_
  rcases jw_if hq with ⟨c5, hq⟩ | ⟨c5, hq⟩
  · refine jw_ifnonnull_f (o := w4) dX11_differ_10 c5 ?_
    cases hq
    exact jw_throw th_X11_differ_13 (Nat.le_of_ble_eq_true rfl) (Nat.le_of_ble_eq_true rfl)
  · refine jw_ifnonnull_t (o := w4) (tgt := 23) dX11_differ_10 (by decide) c5 ?_
    refine jw_aload_n dX11_differ_23 (o := (some x0)) rfl ?_
    obtain ⟨v6, ev6, hq⟩ := Option.bind_eq_some_iff.mp hq
    refine jw_getR (o := (some x0)) dX11_differ_24 ev6 fl_X11_38 rfl ?_
    obtain ⟨v7, ev7, hq⟩ := Option.bind_eq_some_iff.mp hq
    refine jw_getR (o := v6) dX11_differ_27 ev7 fl_X11_160 rfl ?_
    obtain ⟨v8, ev8, hq⟩ := Option.bind_eq_some_iff.mp hq
    refine jw_getI (o := v7) dX11_differ_30 ev8 fl_X11_164 rfl ?_
    refine jw_aload_n dX11_differ_33 (o := w4) rfl ?_
    obtain ⟨v9, ev9, hq⟩ := Option.bind_eq_some_iff.mp hq
    refine jw_getI (o := w4) dX11_differ_34 ev9 fl_X11_164 rfl ?_
    refine jw_iadd dX11_differ_37 ?_
    refine jw_iconst dX11_differ_38 (v := (2 : Int32)) (by decide) ?_
    refine jw_aload_n dX11_differ_39 (o := (some x0)) rfl ?_
    refine jw_aload_n dX11_differ_40 (o := w4) rfl ?_
    obtain ⟨a10, ea10, hq⟩ := Option.bind_eq_some_iff.mp hq
    obtain ⟨eoa10, eta10⟩ := jw_rc_spec ea10
    obtain ⟨w12, h11, ew12, hq⟩ := jw_b2_spec hq
    refine jw_callV (As := [va_rf w4]) (S := [.int (2 : Int32), .int (v8 + v9)]) (a := a10) (v := some (.int w12)) dX11_differ_41 mt_X11_pairUp in_X11_pairUp se_X11_pairUp lk_X11_245 (c_X11_pairUp ew12) eta10 (by decide) rfl rfl (by decide) (Nat.le_of_ble_eq_true rfl) (by cases eoa10; rfl) ?_
    refine jw_imul dX11_differ_44 ?_
    refine jw_isub dX11_differ_45 ?_
    cases hq
    exact jw_iret (ty := .int) dX11_differ_46 rfl rfl

theorem c_X11_differ {h : jw_H} {x0 : Nat} {x1 : Int32} {r : Int32 ⊕ String} {h' : jw_H} (hq : f_X11_differ h x0 x1 = some (r, h')) : jw_Con (Cond.code yX11_differ cX11_differ 3 (some .int)) yX11_differ 8 [.ref x0, .int x1] h (jw_res r) h' :=
  jw_con false (plainFor_of_name (by decide +kernel)) (fun z => nomatch z) (by simp [jw_ent, jw_sl0_nil, jw_sl0_int, jw_sl0_long, jw_sl0_ref, jw_sl0_rf, jw_sl0_scr, List.replicate]) (by simp [jw_sl0_nil, jw_sl0_int, jw_sl0_long, jw_sl0_ref, jw_sl0_rf, jw_sl0_scr]) (l_X11_differ hq)


/-! X11_pairOf -/
noncomputable def g_X11_pairOf_b27 (h : jw_H)  : Option ((Int32 ⊕ String) × jw_H) :=
 some (Sum.inr "java/lang/IndexOutOfBoundsException", jw_thw h)

noncomputable def g_X11_pairOf_b69 (h : jw_H) (t0 : Int32) : Option ((Int32 ⊕ String) × jw_H) :=
 some (Sum.inl t0, h)

noncomputable def g_X11_pairOf_b68 (h : jw_H)  : Option ((Int32 ⊕ String) × jw_H) :=
 g_X11_pairOf_b69  h (-1 : Int32)

noncomputable def f_X11_pairOf (h : jw_H) (x0 : Nat) (x1 : Int32) (x2 : Int32) : Option ((Int32 ⊕ String) × jw_H) :=
 (jw_gR h 11 (some x0) 7).bind fun v1 =>
 (jw_rc h 8 v1).bind fun a2 =>
 jw_b2 (f_X8_file h a2 x1) fun w4 h3 =>
 if w4 = none then (g_X11_pairOf_b27  h3 )
 else ((jw_gR h3 11 (some x0) 6).bind fun v6 =>
 (jw_gR h3 9 v6 0).bind fun v7 =>
 (jw_rc h3 7 v7).bind fun a8 =>
 jw_b2 (f_X7_has h3 a8 x2) fun w10 h9 =>
 if w10 = 0 then (g_X11_pairOf_b27  h9 )
 else ((jw_rc h9 11 (some x0)).bind fun a12 =>
 jw_b2 (f_X11_pairUp h9 a12 w4) fun w14 h13 =>
 if x2 < (1 : Int32) then (g_X11_pairOf_b68  h13 )
 else ((jw_gR h13 11 (some x0) 4).bind fun v16 =>
 (jw_ln h13 v16).bind fun v17 =>
 if v17 < x2 then (g_X11_pairOf_b68  h13 )
 else ((jw_gR h13 11 (some x0) 4).bind fun v19 =>
 (jw_ai h13 20 v19 (x2 - (1 : Int32))).bind fun v20 =>
 g_X11_pairOf_b69  h13 v20))))

set_option maxRecDepth 100000 in
set_option maxHeartbeats 4000000 in
theorem l_X11_pairOf_b27 {hi : jw_H} {h : jw_H}  {r : Int32 ⊕ String} {h' : jw_H} (hq : g_X11_pairOf_b27  h  = some (r, h')) : jw_E 8 uX11_pairOf hi 27 [none, none, none, none] [] h (jw_res r) h' := by
  unfold g_X11_pairOf_b27 at hq
  cases hq
  exact jw_throw th_X11_pairOf_27 (Nat.le_of_ble_eq_true rfl) (Nat.le_of_ble_eq_true rfl)

set_option maxRecDepth 100000 in
set_option maxHeartbeats 4000000 in
theorem l_X11_pairOf_b69 {hi : jw_H} {h : jw_H} {t0 : Int32} {r : Int32 ⊕ String} {h' : jw_H} (hq : g_X11_pairOf_b69  h t0 = some (r, h')) : jw_E 8 uX11_pairOf hi 69 [none, none, none, none] [.int t0] h (jw_res r) h' := by
  unfold g_X11_pairOf_b69 at hq
  cases hq
  exact jw_iret (ty := .int) dX11_pairOf_69 rfl rfl

set_option maxRecDepth 100000 in
set_option maxHeartbeats 4000000 in
theorem l_X11_pairOf_b68 {hi : jw_H} {h : jw_H}  {r : Int32 ⊕ String} {h' : jw_H} (hq : g_X11_pairOf_b68  h  = some (r, h')) : jw_E 8 uX11_pairOf hi 68 [none, none, none, none] [] h (jw_res r) h' := by
  unfold g_X11_pairOf_b68 at hq
  refine jw_iconst dX11_pairOf_68 (v := (-1 : Int32)) (by decide) ?_
  exact l_X11_pairOf_b69  hq

set_option maxRecDepth 100000 in
set_option maxHeartbeats 4000000 in
theorem l_X11_pairOf {hi : jw_H} {h : jw_H} {x0 : Nat} {x1 : Int32} {x2 : Int32} {r : Int32 ⊕ String} {h' : jw_H} (hq : f_X11_pairOf  h x0 x1 x2 = some (r, h')) : jw_E 8 uX11_pairOf hi 0 [some (.ref x0), some (.int x1), some (.int x2), none] [] h (jw_res r) h' := by
  unfold f_X11_pairOf at hq
  refine jw_aload_n dX11_pairOf_0 (o := (some x0)) rfl ?_
  obtain ⟨v1, ev1, hq⟩ := Option.bind_eq_some_iff.mp hq
  refine jw_getR (o := (some x0)) dX11_pairOf_1 ev1 fl_X11_45 rfl ?_
  refine jw_iload_n dX11_pairOf_4 rfl ?_
  obtain ⟨a2, ea2, hq⟩ := Option.bind_eq_some_iff.mp hq
  obtain ⟨eoa2, eta2⟩ := jw_rc_spec ea2
  obtain ⟨w4, h3, ew4, hq⟩ := jw_b2_spec hq
  refine jw_callV (As := [.int x1]) (S := []) (a := a2) (v := some (va_rf w4)) dX11_pairOf_5 mt_X8_file in_X8_file se_X8_file lk_X11_221 (c_X8_file ew4) eta2 (by decide) rfl rfl (by decide) (Nat.le_of_ble_eq_true rfl) (by cases eoa2; rfl) ?_
  refine jw_astore_n (o := w4) (L' := [some (.ref x0), some (.int x1), some (.int x2), some (va_rf w4)]) dX11_pairOf_8 (Nat.le_of_ble_eq_true rfl) rfl ?_
  refine jw_aload_n dX11_pairOf_9 (o := w4) rfl ?_
  rcases jw_if hq with ⟨c5, hq⟩ | ⟨c5, hq⟩
  · refine jw_ifnull_t (o := w4) (tgt := 27) dX11_pairOf_10 (by decide) c5 ?_
    refine jw_forget [false, false, false, false] (L' := [none, none, none, none]) rfl ?_
    exact l_X11_pairOf_b27  hq
  · refine jw_ifnull_f (o := w4) dX11_pairOf_10 c5 ?_
    refine jw_aload_n dX11_pairOf_13 (o := (some x0)) rfl ?_
    obtain ⟨v6, ev6, hq⟩ := Option.bind_eq_some_iff.mp hq
    refine jw_getR (o := (some x0)) dX11_pairOf_14 ev6 fl_X11_38 rfl ?_
    obtain ⟨v7, ev7, hq⟩ := Option.bind_eq_some_iff.mp hq
    refine jw_getR (o := v6) dX11_pairOf_17 ev7 fl_X11_160 rfl ?_
    refine jw_iload_n dX11_pairOf_20 rfl ?_
    obtain ⟨a8, ea8, hq⟩ := Option.bind_eq_some_iff.mp hq
    obtain ⟨eoa8, eta8⟩ := jw_rc_spec ea8
    obtain ⟨w10, h9, ew10, hq⟩ := jw_b2_spec hq
    refine jw_callV (As := [.int x2]) (S := []) (a := a8) (v := some (.int w10)) dX11_pairOf_21 mt_X7_has in_X7_has se_X7_has lk_X11_169 (c_X7_has ew10) eta8 (by decide) rfl rfl (by decide) (Nat.le_of_ble_eq_true rfl) (by cases eoa8; rfl) ?_
    rcases jw_if hq with ⟨c11, hq⟩ | ⟨c11, hq⟩
    · refine jw_if_ne_f (tgt := 37) dX11_pairOf_24 (by decide) c11 ?_
      refine jw_forget [false, false, false, false] (L' := [none, none, none, none]) rfl ?_
      exact l_X11_pairOf_b27  hq
    · refine jw_if_ne_t (tgt := 37) dX11_pairOf_24 (by decide) c11 ?_
      refine jw_aload_n dX11_pairOf_37 (o := (some x0)) rfl ?_
      refine jw_aload_n dX11_pairOf_38 (o := w4) rfl ?_
      obtain ⟨a12, ea12, hq⟩ := Option.bind_eq_some_iff.mp hq
      obtain ⟨eoa12, eta12⟩ := jw_rc_spec ea12
      obtain ⟨w14, h13, ew14, hq⟩ := jw_b2_spec hq
      refine jw_callV (As := [va_rf w4]) (S := []) (a := a12) (v := some (.int w14)) dX11_pairOf_39 mt_X11_pairUp in_X11_pairUp se_X11_pairUp lk_X11_245 (c_X11_pairUp ew14) eta12 (by decide) rfl rfl (by decide) (Nat.le_of_ble_eq_true rfl) (by cases eoa12; rfl) ?_
      refine jw_pop dX11_pairOf_42 rfl ?_
      refine jw_iload_n dX11_pairOf_43 rfl ?_
      refine jw_iconst dX11_pairOf_44 (v := (1 : Int32)) (by decide) ?_
      rcases jw_if hq with ⟨c15, hq⟩ | ⟨c15, hq⟩
      · refine jw_icmp_lt_t (tgt := 68) dX11_pairOf_45 (by decide) c15 ?_
        refine jw_forget [false, false, false, false] (L' := [none, none, none, none]) rfl ?_
        exact l_X11_pairOf_b68  hq
      · refine jw_icmp_lt_f (tgt := 68) dX11_pairOf_45 (by decide) c15 ?_
        refine jw_iload_n dX11_pairOf_48 rfl ?_
        refine jw_aload_n dX11_pairOf_49 (o := (some x0)) rfl ?_
        obtain ⟨v16, ev16, hq⟩ := Option.bind_eq_some_iff.mp hq
        refine jw_getR (o := (some x0)) dX11_pairOf_50 ev16 fl_X11_25 rfl ?_
        obtain ⟨v17, ev17, hq⟩ := Option.bind_eq_some_iff.mp hq
        refine jw_alen (o := v16) dX11_pairOf_53 ev17 ?_
        rcases jw_if hq with ⟨c18, hq⟩ | ⟨c18, hq⟩
        · refine jw_icmp_gt_t (tgt := 68) dX11_pairOf_54 (by decide) c18 ?_
          refine jw_forget [false, false, false, false] (L' := [none, none, none, none]) rfl ?_
          exact l_X11_pairOf_b68  hq
        · refine jw_icmp_gt_f (tgt := 68) dX11_pairOf_54 (by decide) c18 ?_
          refine jw_aload_n dX11_pairOf_57 (o := (some x0)) rfl ?_
          obtain ⟨v19, ev19, hq⟩ := Option.bind_eq_some_iff.mp hq
          refine jw_getR (o := (some x0)) dX11_pairOf_58 ev19 fl_X11_25 rfl ?_
          refine jw_iload_n dX11_pairOf_61 rfl ?_
          refine jw_iconst dX11_pairOf_62 (v := (1 : Int32)) (by decide) ?_
          refine jw_isub dX11_pairOf_63 ?_
          obtain ⟨v20, ev20, hq⟩ := Option.bind_eq_some_iff.mp hq
          refine jw_iald (o := v19) dX11_pairOf_64 ev20 ?_
          refine jw_goto (tgt := 69) dX11_pairOf_65 (by decide) ?_
          refine jw_forget [false, false, false, false] (L' := [none, none, none, none]) rfl ?_
          exact l_X11_pairOf_b69  hq

theorem c_X11_pairOf {h : jw_H} {x0 : Nat} {x1 : Int32} {x2 : Int32} {r : Int32 ⊕ String} {h' : jw_H} (hq : f_X11_pairOf h x0 x1 x2 = some (r, h')) : jw_Con (Cond.code yX11_pairOf cX11_pairOf 4 (some .int)) yX11_pairOf 8 [.ref x0, .int x1, .int x2] h (jw_res r) h' :=
  jw_con false (plainFor_of_name (by decide +kernel)) (fun z => nomatch z) (by simp [jw_ent, jw_sl0_nil, jw_sl0_int, jw_sl0_long, jw_sl0_ref, jw_sl0_rf, jw_sl0_scr, List.replicate]) (by simp [jw_sl0_nil, jw_sl0_int, jw_sl0_long, jw_sl0_ref, jw_sl0_rf, jw_sl0_scr]) (l_X11_pairOf hq)


/-! X11_isSound -/
noncomputable def g_X11_isSound_b25 (h : jw_H) (t0 : Int32) : Option (Int32 × jw_H) :=
 (jw_rb t0).bind fun v1 =>
 some (t0, h)

noncomputable def g_X11_isSound_b24 (h : jw_H)  : Option (Int32 × jw_H) :=
 g_X11_isSound_b25  h (0 : Int32)

noncomputable def f_X11_isSound (h : jw_H) (x0 : Nat) : Option (Int32 × jw_H) :=
 (jw_gR h 11 (some x0) 6).bind fun v1 =>
 (jw_rc h 9 v1).bind fun a2 =>
 jw_b2 (f_X9_isWell h a2) fun w4 h3 =>
 if w4 = 0 then (g_X11_isSound_b24  h3 )
 else ((jw_gR h3 11 (some x0) 7).bind fun v6 =>
 (jw_rc h3 8 v6).bind fun a7 =>
 jw_b2 (f_X8_isWell h3 a7) fun w9 h8 =>
 if w9 = 0 then (g_X11_isSound_b24  h8 )
 else (g_X11_isSound_b25  h8 (1 : Int32)))

set_option maxRecDepth 100000 in
set_option maxHeartbeats 4000000 in
theorem l_X11_isSound_b25 {hi : jw_H} {h : jw_H} {t0 : Int32} {r : Int32} {h' : jw_H} (hq : g_X11_isSound_b25  h t0 = some (r, h')) : jw_E 3 uX11_isSound hi 25 [none] [.int t0] h (.inl (some (.int r))) h' := by
  unfold g_X11_isSound_b25 at hq
  obtain ⟨v1, ev1, hq⟩ := Option.bind_eq_some_iff.mp hq
  cases hq
  exact jw_iret (ty := .boolean) dX11_isSound_25 rfl (jw_rb_spec ev1)

set_option maxRecDepth 100000 in
set_option maxHeartbeats 4000000 in
theorem l_X11_isSound_b24 {hi : jw_H} {h : jw_H}  {r : Int32} {h' : jw_H} (hq : g_X11_isSound_b24  h  = some (r, h')) : jw_E 3 uX11_isSound hi 24 [none] [] h (.inl (some (.int r))) h' := by
  unfold g_X11_isSound_b24 at hq
  refine jw_iconst dX11_isSound_24 (v := (0 : Int32)) (by decide) ?_
  exact l_X11_isSound_b25  hq

set_option maxRecDepth 100000 in
set_option maxHeartbeats 4000000 in
theorem l_X11_isSound {hi : jw_H} {h : jw_H} {x0 : Nat} {r : Int32} {h' : jw_H} (hq : f_X11_isSound  h x0 = some (r, h')) : jw_E 3 uX11_isSound hi 0 [some (.ref x0)] [] h (.inl (some (.int r))) h' := by
  unfold f_X11_isSound at hq
  refine jw_aload_n dX11_isSound_0 (o := (some x0)) rfl ?_
  obtain ⟨v1, ev1, hq⟩ := Option.bind_eq_some_iff.mp hq
  refine jw_getR (o := (some x0)) dX11_isSound_1 ev1 fl_X11_38 rfl ?_
  obtain ⟨a2, ea2, hq⟩ := Option.bind_eq_some_iff.mp hq
  obtain ⟨eoa2, eta2⟩ := jw_rc_spec ea2
  obtain ⟨w4, h3, ew4, hq⟩ := jw_b2_spec hq
  refine jw_callV (As := []) (S := []) (a := a2) (v := some (.int w4)) dX11_isSound_4 mt_X9_isWell in_X9_isWell se_X9_isWell lk_X11_251 (c_X9_isWell ew4) eta2 (by decide) rfl rfl (by decide) (Nat.le_of_ble_eq_true rfl) (by cases eoa2; rfl) ?_
  rcases jw_if hq with ⟨c5, hq⟩ | ⟨c5, hq⟩
  · refine jw_if_eq_t (tgt := 24) dX11_isSound_7 (by decide) c5 ?_
    refine jw_forget [false] (L' := [none]) rfl ?_
    exact l_X11_isSound_b24  hq
  · refine jw_if_eq_f (tgt := 24) dX11_isSound_7 (by decide) c5 ?_
    refine jw_aload_n dX11_isSound_10 (o := (some x0)) rfl ?_
    obtain ⟨v6, ev6, hq⟩ := Option.bind_eq_some_iff.mp hq
    refine jw_getR (o := (some x0)) dX11_isSound_11 ev6 fl_X11_45 rfl ?_
    obtain ⟨a7, ea7, hq⟩ := Option.bind_eq_some_iff.mp hq
    obtain ⟨eoa7, eta7⟩ := jw_rc_spec ea7
    obtain ⟨w9, h8, ew9, hq⟩ := jw_b2_spec hq
    refine jw_callV (As := []) (S := []) (a := a7) (v := some (.int w9)) dX11_isSound_14 mt_X8_isWell in_X8_isWell se_X8_isWell lk_X11_255 (c_X8_isWell ew9) eta7 (by decide) rfl rfl (by decide) (Nat.le_of_ble_eq_true rfl) (by cases eoa7; rfl) ?_
    rcases jw_if hq with ⟨c10, hq⟩ | ⟨c10, hq⟩
    · refine jw_if_eq_t (tgt := 24) dX11_isSound_17 (by decide) c10 ?_
      refine jw_forget [false] (L' := [none]) rfl ?_
      exact l_X11_isSound_b24  hq
    · refine jw_if_eq_f (tgt := 24) dX11_isSound_17 (by decide) c10 ?_
      refine jw_iconst dX11_isSound_20 (v := (1 : Int32)) (by decide) ?_
      refine jw_goto (tgt := 25) dX11_isSound_21 (by decide) ?_
      refine jw_forget [false] (L' := [none]) rfl ?_
      exact l_X11_isSound_b25  hq

theorem c_X11_isSound {h : jw_H} {x0 : Nat} {r : Int32} {h' : jw_H} (hq : f_X11_isSound h x0 = some (r, h')) : jw_Con (Cond.code yX11_isSound cX11_isSound 1 (some .boolean)) yX11_isSound 3 [.ref x0] h (.inl (some (.int r))) h' :=
  jw_con false (plainFor_of_name (by decide +kernel)) (fun z => nomatch z) (by simp [jw_ent, jw_sl0_nil, jw_sl0_int, jw_sl0_long, jw_sl0_ref, jw_sl0_rf, jw_sl0_scr, List.replicate]) (by simp [jw_sl0_nil, jw_sl0_int, jw_sl0_long, jw_sl0_ref, jw_sl0_rf, jw_sl0_scr]) (l_X11_isSound hq)


/-! X12_init -/
noncomputable def g_X12_init_b251 (k251 : jw_H → Nat → Int32 → Option (Unit × jw_H)) (h : jw_H) (x0 : Nat) (x1 : Int32) : Option (Unit × jw_H) :=
 if (5 : Int32) ≤ x1 then (some ((), h))
 else ((jw_gR h 12 (some x0) 10).bind fun v2 =>
 (jw_si h 20 v2 x1 (-1 : Int32)).bind fun h3 =>
 k251 h3 x0 (x1 + (1 : Int32)))

noncomputable def f_X12_init_b251 (n : Nat) : jw_H → Nat → Int32 → Option (Unit × jw_H) :=
 Nat.rec (fun _ _ _ => none) (fun _ k251 => g_X12_init_b251 k251) n

noncomputable def f_X12_init (h : jw_H) (x0 : Nat) : Option (Unit × jw_H) :=
 (jw_mka h 20 (60 : Int32)).bind fun h1 =>
 (jw_pR h1 12 (some x0) 1 (some (jw_n h))).bind fun h3 =>
 (jw_mka h3 20 (240 : Int32)).bind fun h4 =>
 (jw_pR h4 12 (some x0) 3 (some (jw_n h3))).bind fun h6 =>
 (jw_mka h6 20 (4 : Int32)).bind fun h7 =>
 (jw_pR h7 12 (some x0) 4 (some (jw_n h6))).bind fun h9 =>
 (jw_mka h9 22 (4 : Int32)).bind fun h10 =>
 (jw_pR h10 12 (some x0) 5 (some (jw_n h9))).bind fun h12 =>
 (jw_mka h12 20 (26908 : Int32)).bind fun h13 =>
 (jw_pR h13 12 (some x0) 6 (some (jw_n h12))).bind fun h15 =>
 (jw_mka h15 20 (41 : Int32)).bind fun h16 =>
 (jw_pR h16 12 (some x0) 7 (some (jw_n h15))).bind fun h18 =>
 (jw_mka h18 20 (41 : Int32)).bind fun h19 =>
 (jw_pR h19 12 (some x0) 8 (some (jw_n h18))).bind fun h21 =>
 (jw_mka h21 20 (41 : Int32)).bind fun h22 =>
 (jw_pR h22 12 (some x0) 9 (some (jw_n h21))).bind fun h24 =>
 (jw_mka h24 20 (5 : Int32)).bind fun h25 =>
 (jw_pR h25 12 (some x0) 10 (some (jw_n h24))).bind fun h27 =>
 (jw_mka h27 20 (4 : Int32)).bind fun h28 =>
 (jw_pR h28 12 (some x0) 11 (some (jw_n h27))).bind fun h30 =>
 (jw_mka h30 20 (31 : Int32)).bind fun h31 =>
 (jw_pR h31 12 (some x0) 19 (some (jw_n h30))).bind fun h33 =>
 (jw_mka h33 20 (60 : Int32)).bind fun h34 =>
 (jw_pR h34 12 (some x0) 21 (some (jw_n h33))).bind fun h36 =>
 (jw_mka h36 20 (64 : Int32)).bind fun h37 =>
 (jw_pR h37 12 (some x0) 31 (some (jw_n h36))).bind fun h39 =>
 (jw_mka h39 20 (64 : Int32)).bind fun h40 =>
 (jw_pR h40 12 (some x0) 32 (some (jw_n h39))).bind fun h42 =>
 (jw_mka h42 20 (3 : Int32)).bind fun h43 =>
 (jw_pR h43 12 (some x0) 38 (some (jw_n h42))).bind fun h45 =>
 (jw_mka h45 20 (3 : Int32)).bind fun h46 =>
 (jw_pR h46 12 (some x0) 39 (some (jw_n h45))).bind fun h48 =>
 (jw_mka h48 20 (40 : Int32)).bind fun h49 =>
 (jw_pR h49 12 (some x0) 46 (some (jw_n h48))).bind fun h51 =>
 (jw_mka h51 20 (41 : Int32)).bind fun h52 =>
 (jw_pR h52 12 (some x0) 47 (some (jw_n h51))).bind fun h54 =>
 (jw_mka h54 20 (5 : Int32)).bind fun h55 =>
 (jw_pR h55 12 (some x0) 48 (some (jw_n h54))).bind fun h57 =>
 (jw_mka h57 20 (4 : Int32)).bind fun h58 =>
 (jw_pR h58 12 (some x0) 49 (some (jw_n h57))).bind fun h60 =>
 (jw_mka h60 20 (49600 : Int32)).bind fun h61 =>
 (jw_pR h61 12 (some x0) 55 (some (jw_n h60))).bind fun h63 =>
 (jw_mka h63 20 (1600 : Int32)).bind fun h64 =>
 (jw_pR h64 12 (some x0) 56 (some (jw_n h63))).bind fun h66 =>
 (jw_mka h66 20 (200 : Int32)).bind fun h67 =>
 (jw_pR h67 12 (some x0) 57 (some (jw_n h66))).bind fun h69 =>
 (jw_mka h69 20 (40 : Int32)).bind fun h70 =>
 (jw_pR h70 12 (some x0) 58 (some (jw_n h69))).bind fun h72 =>
 (jw_mka h72 20 (40 : Int32)).bind fun h73 =>
 (jw_pR h73 12 (some x0) 59 (some (jw_n h72))).bind fun h75 =>
 (jw_mka h75 20 (40 : Int32)).bind fun h76 =>
 (jw_pR h76 12 (some x0) 60 (some (jw_n h75))).bind fun h78 =>
 (jw_mka h78 22 (60 : Int32)).bind fun h79 =>
 (jw_pR h79 12 (some x0) 74 (some (jw_n h78))).bind fun h81 =>
 (jw_mka h81 20 (60 : Int32)).bind fun h82 =>
 (jw_pR h82 12 (some x0) 75 (some (jw_n h81))).bind fun h84 =>
 (jw_mka h84 22 (60 : Int32)).bind fun h85 =>
 (jw_pR h85 12 (some x0) 76 (some (jw_n h84))).bind fun h87 =>
 (jw_mka h87 20 (1681 : Int32)).bind fun h88 =>
 (jw_pR h88 12 (some x0) 78 (some (jw_n h87))).bind fun h90 =>
 (jw_mka h90 20 (40 : Int32)).bind fun h91 =>
 (jw_pR h91 12 (some x0) 79 (some (jw_n h90))).bind fun h93 =>
 f_X12_init_b251  jw_FU h93 x0 (0 : Int32)

set_option maxRecDepth 100000 in
set_option maxHeartbeats 4000000 in
theorem l_X12_init_b251g {hi : jw_H} {k251 : jw_H → Nat → Int32 → Option (Unit × jw_H)} (hk251 : ∀ (h : jw_H) (x0 : Nat) (x1 : Int32) (r : Unit) (h' : jw_H), k251 h x0 x1 = some (r, h') → jw_E 1 uX12_init hi 251 [some (.ref x0), some (.int x1)] [] h (.inl none) h') {h : jw_H} {x0 : Nat} {x1 : Int32} {r : Unit} {h' : jw_H} (hq : g_X12_init_b251 k251 h x0 x1 = some (r, h')) : jw_E 1 uX12_init hi 251 [some (.ref x0), some (.int x1)] [] h (.inl none) h' := by
  unfold g_X12_init_b251 at hq
  refine jw_iload_n dX12_init_251 rfl ?_
  refine jw_iconst dX12_init_252 (v := (5 : Int32)) (by decide) ?_
  rcases jw_if hq with ⟨c1, hq⟩ | ⟨c1, hq⟩
  · refine jw_icmp_ge_t (tgt := 269) dX12_init_253 (by decide) c1 ?_
    cases hq
    exact jw_vret dX12_init_269 rfl
  · refine jw_icmp_ge_f (tgt := 269) dX12_init_253 (by decide) c1 ?_
    refine jw_aload_n dX12_init_256 (o := (some x0)) rfl ?_
    obtain ⟨v2, ev2, hq⟩ := Option.bind_eq_some_iff.mp hq
    refine jw_getR (o := (some x0)) dX12_init_257 ev2 fl_X12_35 rfl ?_
    refine jw_iload_n dX12_init_260 rfl ?_
    refine jw_iconst dX12_init_261 (v := (-1 : Int32)) (by decide) ?_
    obtain ⟨h3, eh3, hq⟩ := Option.bind_eq_some_iff.mp hq
    refine jw_iast (o := v2) dX12_init_262 eh3 ?_
    refine jw_iinc (L' := [some (.ref x0), some (.int (x1 + (1 : Int32)))]) dX12_init_263 rfl (v := (1 : Int32)) (by decide) (Nat.le_of_ble_eq_true rfl) rfl ?_
    refine jw_goto (tgt := 251) dX12_init_266 (by decide) ?_
    exact hk251 _ _ _ _ _ hq

theorem l_X12_init_b251 {hi : jw_H} : ∀ (n : Nat) (h : jw_H) (x0 : Nat) (x1 : Int32) (r : Unit) (h' : jw_H), f_X12_init_b251  n h x0 x1 = some (r, h') → jw_E 1 uX12_init hi 251 [some (.ref x0), some (.int x1)] [] h (.inl none) h' := by
  intro n
  induction n with
  | zero => intro h x0 x1 r h' hq; exact nomatch hq
  | succ n ih => intro h x0 x1 r h' hq; exact l_X12_init_b251g ih hq

set_option maxRecDepth 100000 in
set_option maxHeartbeats 4000000 in
theorem l_X12_init {hi : jw_H} {h : jw_H} {x0 : Nat} {r : Unit} {h' : jw_H} (hq : f_X12_init  h x0 = some (r, h')) : jw_E 1 uX12_init hi 0 [some (.ref x0), none] [] h (.inl none) h' := by
  unfold f_X12_init at hq
  refine jw_aload_n dX12_init_0 (o := (some x0)) rfl ?_
  refine jw_obj dX12_init_1 ol_X12_1 oi_0 oc_0 (by decide) (Nat.le_of_ble_eq_true rfl) ?_
  refine jw_aload_n dX12_init_4 (o := (some x0)) rfl ?_
  refine jw_bipush dX12_init_5 (v := (60 : Int32)) (by decide) ?_
  obtain ⟨h1, eh1, hq⟩ := Option.bind_eq_some_iff.mp hq
  obtain ⟨ew2, eh1⟩ := jw_mka_spec eh1
  refine jw_mkI dX12_init_7 ac_int ew2.1 ew2.2 ?_
  rw [eh1]
  obtain ⟨h3, eh3, hq⟩ := Option.bind_eq_some_iff.mp hq
  refine jw_putF (o := (some x0)) (x := (some (jw_n h))) dX12_init_9 eh3 fl_X12_7 fk_X12_7 rfl rfl rfl rfl ?_
  refine jw_aload_n dX12_init_12 (o := (some x0)) rfl ?_
  refine jw_sipush dX12_init_13 (v := (240 : Int32)) (by decide) ?_
  obtain ⟨h4, eh4, hq⟩ := Option.bind_eq_some_iff.mp hq
  obtain ⟨ew5, eh4⟩ := jw_mka_spec eh4
  refine jw_mkI dX12_init_16 ac_int ew5.1 ew5.2 ?_
  rw [eh4]
  obtain ⟨h6, eh6, hq⟩ := Option.bind_eq_some_iff.mp hq
  refine jw_putF (o := (some x0)) (x := (some (jw_n h3))) dX12_init_18 eh6 fl_X12_13 fk_X12_13 rfl rfl rfl rfl ?_
  refine jw_aload_n dX12_init_21 (o := (some x0)) rfl ?_
  refine jw_iconst dX12_init_22 (v := (4 : Int32)) (by decide) ?_
  obtain ⟨h7, eh7, hq⟩ := Option.bind_eq_some_iff.mp hq
  obtain ⟨ew8, eh7⟩ := jw_mka_spec eh7
  refine jw_mkI dX12_init_23 ac_int ew8.1 ew8.2 ?_
  rw [eh7]
  obtain ⟨h9, eh9, hq⟩ := Option.bind_eq_some_iff.mp hq
  refine jw_putF (o := (some x0)) (x := (some (jw_n h6))) dX12_init_25 eh9 fl_X12_16 fk_X12_16 rfl rfl rfl rfl ?_
  refine jw_aload_n dX12_init_28 (o := (some x0)) rfl ?_
  refine jw_iconst dX12_init_29 (v := (4 : Int32)) (by decide) ?_
  obtain ⟨h10, eh10, hq⟩ := Option.bind_eq_some_iff.mp hq
  obtain ⟨ew11, eh10⟩ := jw_mka_spec eh10
  refine jw_mkZ dX12_init_30 ac_boolean ew11.1 ew11.2 ?_
  rw [eh10]
  obtain ⟨h12, eh12, hq⟩ := Option.bind_eq_some_iff.mp hq
  refine jw_putF (o := (some x0)) (x := (some (jw_n h9))) dX12_init_32 eh12 fl_X12_19 fk_X12_19 rfl rfl rfl rfl ?_
  refine jw_aload_n dX12_init_35 (o := (some x0)) rfl ?_
  refine jw_sipush dX12_init_36 (v := (26908 : Int32)) (by decide) ?_
  obtain ⟨h13, eh13, hq⟩ := Option.bind_eq_some_iff.mp hq
  obtain ⟨ew14, eh13⟩ := jw_mka_spec eh13
  refine jw_mkI dX12_init_39 ac_int ew14.1 ew14.2 ?_
  rw [eh13]
  obtain ⟨h15, eh15, hq⟩ := Option.bind_eq_some_iff.mp hq
  refine jw_putF (o := (some x0)) (x := (some (jw_n h12))) dX12_init_41 eh15 fl_X12_23 fk_X12_23 rfl rfl rfl rfl ?_
  refine jw_aload_n dX12_init_44 (o := (some x0)) rfl ?_
  refine jw_bipush dX12_init_45 (v := (41 : Int32)) (by decide) ?_
  obtain ⟨h16, eh16, hq⟩ := Option.bind_eq_some_iff.mp hq
  obtain ⟨ew17, eh16⟩ := jw_mka_spec eh16
  refine jw_mkI dX12_init_47 ac_int ew17.1 ew17.2 ?_
  rw [eh16]
  obtain ⟨h18, eh18, hq⟩ := Option.bind_eq_some_iff.mp hq
  refine jw_putF (o := (some x0)) (x := (some (jw_n h15))) dX12_init_49 eh18 fl_X12_26 fk_X12_26 rfl rfl rfl rfl ?_
  refine jw_aload_n dX12_init_52 (o := (some x0)) rfl ?_
  refine jw_bipush dX12_init_53 (v := (41 : Int32)) (by decide) ?_
  obtain ⟨h19, eh19, hq⟩ := Option.bind_eq_some_iff.mp hq
  obtain ⟨ew20, eh19⟩ := jw_mka_spec eh19
  refine jw_mkI dX12_init_55 ac_int ew20.1 ew20.2 ?_
  rw [eh19]
  obtain ⟨h21, eh21, hq⟩ := Option.bind_eq_some_iff.mp hq
  refine jw_putF (o := (some x0)) (x := (some (jw_n h18))) dX12_init_57 eh21 fl_X12_29 fk_X12_29 rfl rfl rfl rfl ?_
  refine jw_aload_n dX12_init_60 (o := (some x0)) rfl ?_
  refine jw_bipush dX12_init_61 (v := (41 : Int32)) (by decide) ?_
  obtain ⟨h22, eh22, hq⟩ := Option.bind_eq_some_iff.mp hq
  obtain ⟨ew23, eh22⟩ := jw_mka_spec eh22
  refine jw_mkI dX12_init_63 ac_int ew23.1 ew23.2 ?_
  rw [eh22]
  obtain ⟨h24, eh24, hq⟩ := Option.bind_eq_some_iff.mp hq
  refine jw_putF (o := (some x0)) (x := (some (jw_n h21))) dX12_init_65 eh24 fl_X12_32 fk_X12_32 rfl rfl rfl rfl ?_
  refine jw_aload_n dX12_init_68 (o := (some x0)) rfl ?_
  refine jw_iconst dX12_init_69 (v := (5 : Int32)) (by decide) ?_
  obtain ⟨h25, eh25, hq⟩ := Option.bind_eq_some_iff.mp hq
  obtain ⟨ew26, eh25⟩ := jw_mka_spec eh25
  refine jw_mkI dX12_init_70 ac_int ew26.1 ew26.2 ?_
  rw [eh25]
  obtain ⟨h27, eh27, hq⟩ := Option.bind_eq_some_iff.mp hq
  refine jw_putF (o := (some x0)) (x := (some (jw_n h24))) dX12_init_72 eh27 fl_X12_35 fk_X12_35 rfl rfl rfl rfl ?_
  refine jw_aload_n dX12_init_75 (o := (some x0)) rfl ?_
  refine jw_iconst dX12_init_76 (v := (4 : Int32)) (by decide) ?_
  obtain ⟨h28, eh28, hq⟩ := Option.bind_eq_some_iff.mp hq
  obtain ⟨ew29, eh28⟩ := jw_mka_spec eh28
  refine jw_mkI dX12_init_77 ac_int ew29.1 ew29.2 ?_
  rw [eh28]
  obtain ⟨h30, eh30, hq⟩ := Option.bind_eq_some_iff.mp hq
  refine jw_putF (o := (some x0)) (x := (some (jw_n h27))) dX12_init_79 eh30 fl_X12_38 fk_X12_38 rfl rfl rfl rfl ?_
  refine jw_aload_n dX12_init_82 (o := (some x0)) rfl ?_
  refine jw_bipush dX12_init_83 (v := (31 : Int32)) (by decide) ?_
  obtain ⟨h31, eh31, hq⟩ := Option.bind_eq_some_iff.mp hq
  obtain ⟨ew32, eh31⟩ := jw_mka_spec eh31
  refine jw_mkI dX12_init_85 ac_int ew32.1 ew32.2 ?_
  rw [eh31]
  obtain ⟨h33, eh33, hq⟩ := Option.bind_eq_some_iff.mp hq
  refine jw_putF (o := (some x0)) (x := (some (jw_n h30))) dX12_init_87 eh33 fl_X12_41 fk_X12_41 rfl rfl rfl rfl ?_
  refine jw_aload_n dX12_init_90 (o := (some x0)) rfl ?_
  refine jw_bipush dX12_init_91 (v := (60 : Int32)) (by decide) ?_
  obtain ⟨h34, eh34, hq⟩ := Option.bind_eq_some_iff.mp hq
  obtain ⟨ew35, eh34⟩ := jw_mka_spec eh34
  refine jw_mkI dX12_init_93 ac_int ew35.1 ew35.2 ?_
  rw [eh34]
  obtain ⟨h36, eh36, hq⟩ := Option.bind_eq_some_iff.mp hq
  refine jw_putF (o := (some x0)) (x := (some (jw_n h33))) dX12_init_95 eh36 fl_X12_44 fk_X12_44 rfl rfl rfl rfl ?_
  refine jw_aload_n dX12_init_98 (o := (some x0)) rfl ?_
  refine jw_bipush dX12_init_99 (v := (64 : Int32)) (by decide) ?_
  obtain ⟨h37, eh37, hq⟩ := Option.bind_eq_some_iff.mp hq
  obtain ⟨ew38, eh37⟩ := jw_mka_spec eh37
  refine jw_mkI dX12_init_101 ac_int ew38.1 ew38.2 ?_
  rw [eh37]
  obtain ⟨h39, eh39, hq⟩ := Option.bind_eq_some_iff.mp hq
  refine jw_putF (o := (some x0)) (x := (some (jw_n h36))) dX12_init_103 eh39 fl_X12_47 fk_X12_47 rfl rfl rfl rfl ?_
  refine jw_aload_n dX12_init_106 (o := (some x0)) rfl ?_
  refine jw_bipush dX12_init_107 (v := (64 : Int32)) (by decide) ?_
  obtain ⟨h40, eh40, hq⟩ := Option.bind_eq_some_iff.mp hq
  obtain ⟨ew41, eh40⟩ := jw_mka_spec eh40
  refine jw_mkI dX12_init_109 ac_int ew41.1 ew41.2 ?_
  rw [eh40]
  obtain ⟨h42, eh42, hq⟩ := Option.bind_eq_some_iff.mp hq
  refine jw_putF (o := (some x0)) (x := (some (jw_n h39))) dX12_init_111 eh42 fl_X12_50 fk_X12_50 rfl rfl rfl rfl ?_
  refine jw_aload_n dX12_init_114 (o := (some x0)) rfl ?_
  refine jw_iconst dX12_init_115 (v := (3 : Int32)) (by decide) ?_
  obtain ⟨h43, eh43, hq⟩ := Option.bind_eq_some_iff.mp hq
  obtain ⟨ew44, eh43⟩ := jw_mka_spec eh43
  refine jw_mkI dX12_init_116 ac_int ew44.1 ew44.2 ?_
  rw [eh43]
  obtain ⟨h45, eh45, hq⟩ := Option.bind_eq_some_iff.mp hq
  refine jw_putF (o := (some x0)) (x := (some (jw_n h42))) dX12_init_118 eh45 fl_X12_53 fk_X12_53 rfl rfl rfl rfl ?_
  refine jw_aload_n dX12_init_121 (o := (some x0)) rfl ?_
  refine jw_iconst dX12_init_122 (v := (3 : Int32)) (by decide) ?_
  obtain ⟨h46, eh46, hq⟩ := Option.bind_eq_some_iff.mp hq
  obtain ⟨ew47, eh46⟩ := jw_mka_spec eh46
  refine jw_mkI dX12_init_123 ac_int ew47.1 ew47.2 ?_
  rw [eh46]
  obtain ⟨h48, eh48, hq⟩ := Option.bind_eq_some_iff.mp hq
  refine jw_putF (o := (some x0)) (x := (some (jw_n h45))) dX12_init_125 eh48 fl_X12_56 fk_X12_56 rfl rfl rfl rfl ?_
  refine jw_aload_n dX12_init_128 (o := (some x0)) rfl ?_
  refine jw_bipush dX12_init_129 (v := (40 : Int32)) (by decide) ?_
  obtain ⟨h49, eh49, hq⟩ := Option.bind_eq_some_iff.mp hq
  obtain ⟨ew50, eh49⟩ := jw_mka_spec eh49
  refine jw_mkI dX12_init_131 ac_int ew50.1 ew50.2 ?_
  rw [eh49]
  obtain ⟨h51, eh51, hq⟩ := Option.bind_eq_some_iff.mp hq
  refine jw_putF (o := (some x0)) (x := (some (jw_n h48))) dX12_init_133 eh51 fl_X12_59 fk_X12_59 rfl rfl rfl rfl ?_
  refine jw_aload_n dX12_init_136 (o := (some x0)) rfl ?_
  refine jw_bipush dX12_init_137 (v := (41 : Int32)) (by decide) ?_
  obtain ⟨h52, eh52, hq⟩ := Option.bind_eq_some_iff.mp hq
  obtain ⟨ew53, eh52⟩ := jw_mka_spec eh52
  refine jw_mkI dX12_init_139 ac_int ew53.1 ew53.2 ?_
  rw [eh52]
  obtain ⟨h54, eh54, hq⟩ := Option.bind_eq_some_iff.mp hq
  refine jw_putF (o := (some x0)) (x := (some (jw_n h51))) dX12_init_141 eh54 fl_X12_62 fk_X12_62 rfl rfl rfl rfl ?_
  refine jw_aload_n dX12_init_144 (o := (some x0)) rfl ?_
  refine jw_iconst dX12_init_145 (v := (5 : Int32)) (by decide) ?_
  obtain ⟨h55, eh55, hq⟩ := Option.bind_eq_some_iff.mp hq
  obtain ⟨ew56, eh55⟩ := jw_mka_spec eh55
  refine jw_mkI dX12_init_146 ac_int ew56.1 ew56.2 ?_
  rw [eh55]
  obtain ⟨h57, eh57, hq⟩ := Option.bind_eq_some_iff.mp hq
  refine jw_putF (o := (some x0)) (x := (some (jw_n h54))) dX12_init_148 eh57 fl_X12_65 fk_X12_65 rfl rfl rfl rfl ?_
  refine jw_aload_n dX12_init_151 (o := (some x0)) rfl ?_
  refine jw_iconst dX12_init_152 (v := (4 : Int32)) (by decide) ?_
  obtain ⟨h58, eh58, hq⟩ := Option.bind_eq_some_iff.mp hq
  obtain ⟨ew59, eh58⟩ := jw_mka_spec eh58
  refine jw_mkI dX12_init_153 ac_int ew59.1 ew59.2 ?_
  rw [eh58]
  obtain ⟨h60, eh60, hq⟩ := Option.bind_eq_some_iff.mp hq
  refine jw_putF (o := (some x0)) (x := (some (jw_n h57))) dX12_init_155 eh60 fl_X12_68 fk_X12_68 rfl rfl rfl rfl ?_
  refine jw_aload_n dX12_init_158 (o := (some x0)) rfl ?_
  refine jw_ldc dX12_init_159 cw_X12_71 ?_
  obtain ⟨h61, eh61, hq⟩ := Option.bind_eq_some_iff.mp hq
  obtain ⟨ew62, eh61⟩ := jw_mka_spec eh61
  refine jw_mkI dX12_init_161 ac_int ew62.1 ew62.2 ?_
  rw [eh61]
  obtain ⟨h63, eh63, hq⟩ := Option.bind_eq_some_iff.mp hq
  refine jw_putF (o := (some x0)) (x := (some (jw_n h60))) dX12_init_163 eh63 fl_X12_72 fk_X12_72 rfl rfl rfl rfl ?_
  refine jw_aload_n dX12_init_166 (o := (some x0)) rfl ?_
  refine jw_sipush dX12_init_167 (v := (1600 : Int32)) (by decide) ?_
  obtain ⟨h64, eh64, hq⟩ := Option.bind_eq_some_iff.mp hq
  obtain ⟨ew65, eh64⟩ := jw_mka_spec eh64
  refine jw_mkI dX12_init_170 ac_int ew65.1 ew65.2 ?_
  rw [eh64]
  obtain ⟨h66, eh66, hq⟩ := Option.bind_eq_some_iff.mp hq
  refine jw_putF (o := (some x0)) (x := (some (jw_n h63))) dX12_init_172 eh66 fl_X12_75 fk_X12_75 rfl rfl rfl rfl ?_
  refine jw_aload_n dX12_init_175 (o := (some x0)) rfl ?_
  refine jw_sipush dX12_init_176 (v := (200 : Int32)) (by decide) ?_
  obtain ⟨h67, eh67, hq⟩ := Option.bind_eq_some_iff.mp hq
  obtain ⟨ew68, eh67⟩ := jw_mka_spec eh67
  refine jw_mkI dX12_init_179 ac_int ew68.1 ew68.2 ?_
  rw [eh67]
  obtain ⟨h69, eh69, hq⟩ := Option.bind_eq_some_iff.mp hq
  refine jw_putF (o := (some x0)) (x := (some (jw_n h66))) dX12_init_181 eh69 fl_X12_78 fk_X12_78 rfl rfl rfl rfl ?_
  refine jw_aload_n dX12_init_184 (o := (some x0)) rfl ?_
  refine jw_bipush dX12_init_185 (v := (40 : Int32)) (by decide) ?_
  obtain ⟨h70, eh70, hq⟩ := Option.bind_eq_some_iff.mp hq
  obtain ⟨ew71, eh70⟩ := jw_mka_spec eh70
  refine jw_mkI dX12_init_187 ac_int ew71.1 ew71.2 ?_
  rw [eh70]
  obtain ⟨h72, eh72, hq⟩ := Option.bind_eq_some_iff.mp hq
  refine jw_putF (o := (some x0)) (x := (some (jw_n h69))) dX12_init_189 eh72 fl_X12_81 fk_X12_81 rfl rfl rfl rfl ?_
  refine jw_aload_n dX12_init_192 (o := (some x0)) rfl ?_
  refine jw_bipush dX12_init_193 (v := (40 : Int32)) (by decide) ?_
  obtain ⟨h73, eh73, hq⟩ := Option.bind_eq_some_iff.mp hq
  obtain ⟨ew74, eh73⟩ := jw_mka_spec eh73
  refine jw_mkI dX12_init_195 ac_int ew74.1 ew74.2 ?_
  rw [eh73]
  obtain ⟨h75, eh75, hq⟩ := Option.bind_eq_some_iff.mp hq
  refine jw_putF (o := (some x0)) (x := (some (jw_n h72))) dX12_init_197 eh75 fl_X12_84 fk_X12_84 rfl rfl rfl rfl ?_
  refine jw_aload_n dX12_init_200 (o := (some x0)) rfl ?_
  refine jw_bipush dX12_init_201 (v := (40 : Int32)) (by decide) ?_
  obtain ⟨h76, eh76, hq⟩ := Option.bind_eq_some_iff.mp hq
  obtain ⟨ew77, eh76⟩ := jw_mka_spec eh76
  refine jw_mkI dX12_init_203 ac_int ew77.1 ew77.2 ?_
  rw [eh76]
  obtain ⟨h78, eh78, hq⟩ := Option.bind_eq_some_iff.mp hq
  refine jw_putF (o := (some x0)) (x := (some (jw_n h75))) dX12_init_205 eh78 fl_X12_87 fk_X12_87 rfl rfl rfl rfl ?_
  refine jw_aload_n dX12_init_208 (o := (some x0)) rfl ?_
  refine jw_bipush dX12_init_209 (v := (60 : Int32)) (by decide) ?_
  obtain ⟨h79, eh79, hq⟩ := Option.bind_eq_some_iff.mp hq
  obtain ⟨ew80, eh79⟩ := jw_mka_spec eh79
  refine jw_mkZ dX12_init_211 ac_boolean ew80.1 ew80.2 ?_
  rw [eh79]
  obtain ⟨h81, eh81, hq⟩ := Option.bind_eq_some_iff.mp hq
  refine jw_putF (o := (some x0)) (x := (some (jw_n h78))) dX12_init_213 eh81 fl_X12_90 fk_X12_90 rfl rfl rfl rfl ?_
  refine jw_aload_n dX12_init_216 (o := (some x0)) rfl ?_
  refine jw_bipush dX12_init_217 (v := (60 : Int32)) (by decide) ?_
  obtain ⟨h82, eh82, hq⟩ := Option.bind_eq_some_iff.mp hq
  obtain ⟨ew83, eh82⟩ := jw_mka_spec eh82
  refine jw_mkI dX12_init_219 ac_int ew83.1 ew83.2 ?_
  rw [eh82]
  obtain ⟨h84, eh84, hq⟩ := Option.bind_eq_some_iff.mp hq
  refine jw_putF (o := (some x0)) (x := (some (jw_n h81))) dX12_init_221 eh84 fl_X12_93 fk_X12_93 rfl rfl rfl rfl ?_
  refine jw_aload_n dX12_init_224 (o := (some x0)) rfl ?_
  refine jw_bipush dX12_init_225 (v := (60 : Int32)) (by decide) ?_
  obtain ⟨h85, eh85, hq⟩ := Option.bind_eq_some_iff.mp hq
  obtain ⟨ew86, eh85⟩ := jw_mka_spec eh85
  refine jw_mkZ dX12_init_227 ac_boolean ew86.1 ew86.2 ?_
  rw [eh85]
  obtain ⟨h87, eh87, hq⟩ := Option.bind_eq_some_iff.mp hq
  refine jw_putF (o := (some x0)) (x := (some (jw_n h84))) dX12_init_229 eh87 fl_X12_96 fk_X12_96 rfl rfl rfl rfl ?_
  refine jw_aload_n dX12_init_232 (o := (some x0)) rfl ?_
  refine jw_sipush dX12_init_233 (v := (1681 : Int32)) (by decide) ?_
  obtain ⟨h88, eh88, hq⟩ := Option.bind_eq_some_iff.mp hq
  obtain ⟨ew89, eh88⟩ := jw_mka_spec eh88
  refine jw_mkI dX12_init_236 ac_int ew89.1 ew89.2 ?_
  rw [eh88]
  obtain ⟨h90, eh90, hq⟩ := Option.bind_eq_some_iff.mp hq
  refine jw_putF (o := (some x0)) (x := (some (jw_n h87))) dX12_init_238 eh90 fl_X12_99 fk_X12_99 rfl rfl rfl rfl ?_
  refine jw_aload_n dX12_init_241 (o := (some x0)) rfl ?_
  refine jw_bipush dX12_init_242 (v := (40 : Int32)) (by decide) ?_
  obtain ⟨h91, eh91, hq⟩ := Option.bind_eq_some_iff.mp hq
  obtain ⟨ew92, eh91⟩ := jw_mka_spec eh91
  refine jw_mkI dX12_init_244 ac_int ew92.1 ew92.2 ?_
  rw [eh91]
  obtain ⟨h93, eh93, hq⟩ := Option.bind_eq_some_iff.mp hq
  refine jw_putF (o := (some x0)) (x := (some (jw_n h90))) dX12_init_246 eh93 fl_X12_102 fk_X12_102 rfl rfl rfl rfl ?_
  refine jw_iconst dX12_init_249 (v := (0 : Int32)) (by decide) ?_
  refine jw_istore_n (L' := [some (.ref x0), some (.int (0 : Int32))]) dX12_init_250 (Nat.le_of_ble_eq_true rfl) rfl ?_
  exact l_X12_init_b251  jw_FU _ _ _ _ _ hq

theorem c_X12_init {h : jw_H} {x0 : Nat} {r : Unit} {h' : jw_H} (hq : f_X12_init h x0 = some (r, h')) : jw_Con (Cond.code yX12_init cX12_init 2 none) yX12_init 1 [.ref x0] h (.inl none) h' :=
  jw_con true (plainFor_of_name (by decide +kernel)) (fun _ => rfl) (by simp [jw_ent, jw_sl0_nil, jw_sl0_int, jw_sl0_long, jw_sl0_ref, jw_sl0_rf, jw_sl0_scr, List.replicate]) (by simp [jw_sl0_nil, jw_sl0_int, jw_sl0_long, jw_sl0_ref, jw_sl0_rf, jw_sl0_scr]) (l_X12_init hq)


/-! X12_thrown -/
noncomputable def f_X12_thrown (h : jw_H) (x0 : Nat) : Option (Int32 × jw_H) :=
 (jw_gI h 12 (some x0) 0).bind fun v1 =>
 some (v1, h)

set_option maxRecDepth 100000 in
set_option maxHeartbeats 4000000 in
theorem l_X12_thrown {hi : jw_H} {h : jw_H} {x0 : Nat} {r : Int32} {h' : jw_H} (hq : f_X12_thrown  h x0 = some (r, h')) : jw_E 0 uX12_thrown hi 0 [some (.ref x0)] [] h (.inl (some (.int r))) h' := by
  unfold f_X12_thrown at hq
  refine jw_aload_n dX12_thrown_0 (o := (some x0)) rfl ?_
  obtain ⟨v1, ev1, hq⟩ := Option.bind_eq_some_iff.mp hq
  refine jw_getI (o := (some x0)) dX12_thrown_1 ev1 fl_X12_105 rfl ?_
  cases hq
  exact jw_iret (ty := .int) dX12_thrown_4 rfl rfl

theorem c_X12_thrown {h : jw_H} {x0 : Nat} {r : Int32} {h' : jw_H} (hq : f_X12_thrown h x0 = some (r, h')) : jw_Con (Cond.code yX12_thrown cX12_thrown 1 (some .int)) yX12_thrown 0 [.ref x0] h (.inl (some (.int r))) h' :=
  jw_con false (plainFor_of_name (by decide +kernel)) (fun z => nomatch z) (by simp [jw_ent, jw_sl0_nil, jw_sl0_int, jw_sl0_long, jw_sl0_ref, jw_sl0_rf, jw_sl0_scr, List.replicate]) (by simp [jw_sl0_nil, jw_sl0_int, jw_sl0_long, jw_sl0_ref, jw_sl0_rf, jw_sl0_scr]) (l_X12_thrown hq)


/-! X12_len -/
noncomputable def f_X12_len (h : jw_H) (x0 : Nat) (x1 : Int32) : Option (Int32 × jw_H) :=
 (jw_gR h 12 (some x0) 6).bind fun v1 =>
 (jw_ai h 20 v1 ((31 : Int32) * x1)).bind fun v2 =>
 some (v2, h)

set_option maxRecDepth 100000 in
set_option maxHeartbeats 4000000 in
theorem l_X12_len {hi : jw_H} {h : jw_H} {x0 : Nat} {x1 : Int32} {r : Int32} {h' : jw_H} (hq : f_X12_len  h x0 x1 = some (r, h')) : jw_E 0 uX12_len hi 0 [some (.ref x0), some (.int x1)] [] h (.inl (some (.int r))) h' := by
  unfold f_X12_len at hq
  refine jw_aload_n dX12_len_0 (o := (some x0)) rfl ?_
  obtain ⟨v1, ev1, hq⟩ := Option.bind_eq_some_iff.mp hq
  refine jw_getR (o := (some x0)) dX12_len_1 ev1 fl_X12_23 rfl ?_
  refine jw_bipush dX12_len_4 (v := (31 : Int32)) (by decide) ?_
  refine jw_iload_n dX12_len_6 rfl ?_
  refine jw_imul dX12_len_7 ?_
  obtain ⟨v2, ev2, hq⟩ := Option.bind_eq_some_iff.mp hq
  refine jw_iald (o := v1) dX12_len_8 ev2 ?_
  cases hq
  exact jw_iret (ty := .int) dX12_len_9 rfl rfl

theorem c_X12_len {h : jw_H} {x0 : Nat} {x1 : Int32} {r : Int32} {h' : jw_H} (hq : f_X12_len h x0 x1 = some (r, h')) : jw_Con (Cond.code yX12_len cX12_len 2 (some .int)) yX12_len 0 [.ref x0, .int x1] h (.inl (some (.int r))) h' :=
  jw_con false (plainFor_of_name (by decide +kernel)) (fun z => nomatch z) (by simp [jw_ent, jw_sl0_nil, jw_sl0_int, jw_sl0_long, jw_sl0_ref, jw_sl0_rf, jw_sl0_scr, List.replicate]) (by simp [jw_sl0_nil, jw_sl0_int, jw_sl0_long, jw_sl0_ref, jw_sl0_rf, jw_sl0_scr]) (l_X12_len hq)


/-! X12_sign -/
noncomputable def f_X12_sign (h : jw_H) (x0 : Nat) (x1 : Int32) (x2 : Int32) : Option (Int32 × jw_H) :=
 (jw_gR h 12 (some x0) 6).bind fun v1 =>
 (jw_ai h 20 v1 ((((31 : Int32) * x1) + (1 : Int32)) + x2)).bind fun v2 =>
 some (v2, h)

set_option maxRecDepth 100000 in
set_option maxHeartbeats 4000000 in
theorem l_X12_sign {hi : jw_H} {h : jw_H} {x0 : Nat} {x1 : Int32} {x2 : Int32} {r : Int32} {h' : jw_H} (hq : f_X12_sign  h x0 x1 x2 = some (r, h')) : jw_E 0 uX12_sign hi 0 [some (.ref x0), some (.int x1), some (.int x2)] [] h (.inl (some (.int r))) h' := by
  unfold f_X12_sign at hq
  refine jw_aload_n dX12_sign_0 (o := (some x0)) rfl ?_
  obtain ⟨v1, ev1, hq⟩ := Option.bind_eq_some_iff.mp hq
  refine jw_getR (o := (some x0)) dX12_sign_1 ev1 fl_X12_23 rfl ?_
  refine jw_bipush dX12_sign_4 (v := (31 : Int32)) (by decide) ?_
  refine jw_iload_n dX12_sign_6 rfl ?_
  refine jw_imul dX12_sign_7 ?_
  refine jw_iconst dX12_sign_8 (v := (1 : Int32)) (by decide) ?_
  refine jw_iadd dX12_sign_9 ?_
  refine jw_iload_n dX12_sign_10 rfl ?_
  refine jw_iadd dX12_sign_11 ?_
  obtain ⟨v2, ev2, hq⟩ := Option.bind_eq_some_iff.mp hq
  refine jw_iald (o := v1) dX12_sign_12 ev2 ?_
  cases hq
  exact jw_iret (ty := .int) dX12_sign_13 rfl rfl

theorem c_X12_sign {h : jw_H} {x0 : Nat} {x1 : Int32} {x2 : Int32} {r : Int32} {h' : jw_H} (hq : f_X12_sign h x0 x1 x2 = some (r, h')) : jw_Con (Cond.code yX12_sign cX12_sign 3 (some .int)) yX12_sign 0 [.ref x0, .int x1, .int x2] h (.inl (some (.int r))) h' :=
  jw_con false (plainFor_of_name (by decide +kernel)) (fun z => nomatch z) (by simp [jw_ent, jw_sl0_nil, jw_sl0_int, jw_sl0_long, jw_sl0_ref, jw_sl0_rf, jw_sl0_scr, List.replicate]) (by simp [jw_sl0_nil, jw_sl0_int, jw_sl0_long, jw_sl0_ref, jw_sl0_rf, jw_sl0_scr]) (l_X12_sign hq)


/-! X12_copyRow -/
noncomputable def g_X12_copyRow_b2 (k2 : jw_H → Nat → Int32 → Int32 → Int32 → Option (Unit × jw_H)) (h : jw_H) (x0 : Nat) (x1 : Int32) (x2 : Int32) (x3 : Int32) : Option (Unit × jw_H) :=
 if (31 : Int32) ≤ x3 then (some ((), h))
 else ((jw_gR h 12 (some x0) 6).bind fun v2 =>
 (jw_gR h 12 (some x0) 6).bind fun v3 =>
 (jw_ai h 20 v3 (((31 : Int32) * x1) + x3)).bind fun v4 =>
 (jw_si h 20 v2 (((31 : Int32) * x2) + x3) v4).bind fun h5 =>
 k2 h5 x0 x1 x2 (x3 + (1 : Int32)))

noncomputable def f_X12_copyRow_b2 (n : Nat) : jw_H → Nat → Int32 → Int32 → Int32 → Option (Unit × jw_H) :=
 Nat.rec (fun _ _ _ _ _ => none) (fun _ k2 => g_X12_copyRow_b2 k2) n

noncomputable def f_X12_copyRow (h : jw_H) (x0 : Nat) (x1 : Int32) (x2 : Int32) : Option (Unit × jw_H) :=
 f_X12_copyRow_b2  jw_FU h x0 x1 x2 (0 : Int32)

set_option maxRecDepth 100000 in
set_option maxHeartbeats 4000000 in
theorem l_X12_copyRow_b2g {hi : jw_H} {k2 : jw_H → Nat → Int32 → Int32 → Int32 → Option (Unit × jw_H)} (hk2 : ∀ (h : jw_H) (x0 : Nat) (x1 : Int32) (x2 : Int32) (x3 : Int32) (r : Unit) (h' : jw_H), k2 h x0 x1 x2 x3 = some (r, h') → jw_E 0 uX12_copyRow hi 2 [some (.ref x0), some (.int x1), some (.int x2), some (.int x3)] [] h (.inl none) h') {h : jw_H} {x0 : Nat} {x1 : Int32} {x2 : Int32} {x3 : Int32} {r : Unit} {h' : jw_H} (hq : g_X12_copyRow_b2 k2 h x0 x1 x2 x3 = some (r, h')) : jw_E 0 uX12_copyRow hi 2 [some (.ref x0), some (.int x1), some (.int x2), some (.int x3)] [] h (.inl none) h' := by
  unfold g_X12_copyRow_b2 at hq
  refine jw_iload_n dX12_copyRow_2 rfl ?_
  refine jw_bipush dX12_copyRow_3 (v := (31 : Int32)) (by decide) ?_
  rcases jw_if hq with ⟨c1, hq⟩ | ⟨c1, hq⟩
  · refine jw_icmp_ge_t (tgt := 36) dX12_copyRow_5 (by decide) c1 ?_
    cases hq
    exact jw_vret dX12_copyRow_36 rfl
  · refine jw_icmp_ge_f (tgt := 36) dX12_copyRow_5 (by decide) c1 ?_
    refine jw_aload_n dX12_copyRow_8 (o := (some x0)) rfl ?_
    obtain ⟨v2, ev2, hq⟩ := Option.bind_eq_some_iff.mp hq
    refine jw_getR (o := (some x0)) dX12_copyRow_9 ev2 fl_X12_23 rfl ?_
    refine jw_bipush dX12_copyRow_12 (v := (31 : Int32)) (by decide) ?_
    refine jw_iload_n dX12_copyRow_14 rfl ?_
    refine jw_imul dX12_copyRow_15 ?_
    refine jw_iload_n dX12_copyRow_16 rfl ?_
    refine jw_iadd dX12_copyRow_17 ?_
    refine jw_aload_n dX12_copyRow_18 (o := (some x0)) rfl ?_
    obtain ⟨v3, ev3, hq⟩ := Option.bind_eq_some_iff.mp hq
    refine jw_getR (o := (some x0)) dX12_copyRow_19 ev3 fl_X12_23 rfl ?_
    refine jw_bipush dX12_copyRow_22 (v := (31 : Int32)) (by decide) ?_
    refine jw_iload_n dX12_copyRow_24 rfl ?_
    refine jw_imul dX12_copyRow_25 ?_
    refine jw_iload_n dX12_copyRow_26 rfl ?_
    refine jw_iadd dX12_copyRow_27 ?_
    obtain ⟨v4, ev4, hq⟩ := Option.bind_eq_some_iff.mp hq
    refine jw_iald (o := v3) dX12_copyRow_28 ev4 ?_
    obtain ⟨h5, eh5, hq⟩ := Option.bind_eq_some_iff.mp hq
    refine jw_iast (o := v2) dX12_copyRow_29 eh5 ?_
    refine jw_iinc (L' := [some (.ref x0), some (.int x1), some (.int x2), some (.int (x3 + (1 : Int32)))]) dX12_copyRow_30 rfl (v := (1 : Int32)) (by decide) (Nat.le_of_ble_eq_true rfl) rfl ?_
    refine jw_goto (tgt := 2) dX12_copyRow_33 (by decide) ?_
    exact hk2 _ _ _ _ _ _ _ hq

theorem l_X12_copyRow_b2 {hi : jw_H} : ∀ (n : Nat) (h : jw_H) (x0 : Nat) (x1 : Int32) (x2 : Int32) (x3 : Int32) (r : Unit) (h' : jw_H), f_X12_copyRow_b2  n h x0 x1 x2 x3 = some (r, h') → jw_E 0 uX12_copyRow hi 2 [some (.ref x0), some (.int x1), some (.int x2), some (.int x3)] [] h (.inl none) h' := by
  intro n
  induction n with
  | zero => intro h x0 x1 x2 x3 r h' hq; exact nomatch hq
  | succ n ih => intro h x0 x1 x2 x3 r h' hq; exact l_X12_copyRow_b2g ih hq

set_option maxRecDepth 100000 in
set_option maxHeartbeats 4000000 in
theorem l_X12_copyRow {hi : jw_H} {h : jw_H} {x0 : Nat} {x1 : Int32} {x2 : Int32} {r : Unit} {h' : jw_H} (hq : f_X12_copyRow  h x0 x1 x2 = some (r, h')) : jw_E 0 uX12_copyRow hi 0 [some (.ref x0), some (.int x1), some (.int x2), none] [] h (.inl none) h' := by
  unfold f_X12_copyRow at hq
  refine jw_iconst dX12_copyRow_0 (v := (0 : Int32)) (by decide) ?_
  refine jw_istore_n (L' := [some (.ref x0), some (.int x1), some (.int x2), some (.int (0 : Int32))]) dX12_copyRow_1 (Nat.le_of_ble_eq_true rfl) rfl ?_
  exact l_X12_copyRow_b2  jw_FU _ _ _ _ _ _ _ hq

theorem c_X12_copyRow {h : jw_H} {x0 : Nat} {x1 : Int32} {x2 : Int32} {r : Unit} {h' : jw_H} (hq : f_X12_copyRow h x0 x1 x2 = some (r, h')) : jw_Con (Cond.code yX12_copyRow cX12_copyRow 4 none) yX12_copyRow 0 [.ref x0, .int x1, .int x2] h (.inl none) h' :=
  jw_con false (plainFor_of_name (by decide +kernel)) (fun z => nomatch z) (by simp [jw_ent, jw_sl0_nil, jw_sl0_int, jw_sl0_long, jw_sl0_ref, jw_sl0_rf, jw_sl0_scr, List.replicate]) (by simp [jw_sl0_nil, jw_sl0_int, jw_sl0_long, jw_sl0_ref, jw_sl0_rf, jw_sl0_scr]) (l_X12_copyRow hq)


/-! X12_areSame -/
noncomputable def g_X12_areSame_b58 (k22 : jw_H → Nat → Int32 → Int32 → Int32 → Int32 → Option (Int32 × jw_H)) (h : jw_H) (x0 : Nat) (x1 : Int32) (x2 : Int32) (x4 : Int32) (t0 : Int32) : Option (Int32 × jw_H) :=
 k22 h x0 x1 x2 t0 (x4 + (1 : Int32))

noncomputable def g_X12_areSame_b22 (k22 : jw_H → Nat → Int32 → Int32 → Int32 → Int32 → Option (Int32 × jw_H)) (h : jw_H) (x0 : Nat) (x1 : Int32) (x2 : Int32) (x3 : Int32) (x4 : Int32) : Option (Int32 × jw_H) :=
 (jw_rc h 12 (some x0)).bind fun a1 =>
 jw_b2 (f_X12_len h a1 x1) fun w3 h2 =>
 if w3 ≤ x4 then ((jw_rb x3).bind fun v5 =>
 some (x3, h2))
 else (if x3 = 0 then ((jw_rb x3).bind fun v7 =>
 some (x3, h2))
 else ((jw_rc h2 12 (some x0)).bind fun a8 =>
 jw_b2 (f_X12_sign h2 a8 x1 x4) fun w10 h9 =>
 (jw_rc h9 12 (some x0)).bind fun a11 =>
 jw_b2 (f_X12_sign h9 a11 x2 x4) fun w13 h12 =>
 if w10 = w13 then (g_X12_areSame_b58 k22 h12 x0 x1 x2 x4 (1 : Int32))
 else (g_X12_areSame_b58 k22 h12 x0 x1 x2 x4 (0 : Int32))))

noncomputable def f_X12_areSame_b22 (n : Nat) : jw_H → Nat → Int32 → Int32 → Int32 → Int32 → Option (Int32 × jw_H) :=
 Nat.rec (fun _ _ _ _ _ _ => none) (fun _ k22 => g_X12_areSame_b22 k22) n

noncomputable def g_X12_areSame_b18 (h : jw_H) (x0 : Nat) (x1 : Int32) (x2 : Int32) (t0 : Int32) : Option (Int32 × jw_H) :=
 f_X12_areSame_b22  jw_FU h x0 x1 x2 t0 (0 : Int32)

noncomputable def f_X12_areSame (h : jw_H) (x0 : Nat) (x1 : Int32) (x2 : Int32) : Option (Int32 × jw_H) :=
 (jw_rc h 12 (some x0)).bind fun a1 =>
 jw_b2 (f_X12_len h a1 x1) fun w3 h2 =>
 (jw_rc h2 12 (some x0)).bind fun a4 =>
 jw_b2 (f_X12_len h2 a4 x2) fun w6 h5 =>
 if w3 = w6 then (g_X12_areSame_b18  h5 x0 x1 x2 (1 : Int32))
 else (g_X12_areSame_b18  h5 x0 x1 x2 (0 : Int32))

set_option maxRecDepth 100000 in
set_option maxHeartbeats 4000000 in
theorem l_X12_areSame_b58 {hi : jw_H} {k22 : jw_H → Nat → Int32 → Int32 → Int32 → Int32 → Option (Int32 × jw_H)} (hk22 : ∀ (h : jw_H) (x0 : Nat) (x1 : Int32) (x2 : Int32) (x3 : Int32) (x4 : Int32) (r : Int32) (h' : jw_H), k22 h x0 x1 x2 x3 x4 = some (r, h') → jw_E 1 uX12_areSame hi 22 [some (.ref x0), some (.int x1), some (.int x2), some (.int x3), some (.int x4)] [] h (.inl (some (.int r))) h') {h : jw_H} {x0 : Nat} {x1 : Int32} {x2 : Int32} {x4 : Int32} {t0 : Int32} {r : Int32} {h' : jw_H} (hq : g_X12_areSame_b58 k22 h x0 x1 x2 x4 t0 = some (r, h')) : jw_E 1 uX12_areSame hi 58 [some (.ref x0), some (.int x1), some (.int x2), none, some (.int x4)] [.int t0] h (.inl (some (.int r))) h' := by
  unfold g_X12_areSame_b58 at hq
  refine jw_istore_n (L' := [some (.ref x0), some (.int x1), some (.int x2), some (.int t0), some (.int x4)]) dX12_areSame_58 (Nat.le_of_ble_eq_true rfl) rfl ?_
  refine jw_iinc (L' := [some (.ref x0), some (.int x1), some (.int x2), some (.int t0), some (.int (x4 + (1 : Int32)))]) dX12_areSame_59 rfl (v := (1 : Int32)) (by decide) (Nat.le_of_ble_eq_true rfl) rfl ?_
  refine jw_goto (tgt := 22) dX12_areSame_62 (by decide) ?_
  exact hk22 _ _ _ _ _ _ _ _ hq

set_option maxRecDepth 100000 in
set_option maxHeartbeats 4000000 in
theorem l_X12_areSame_b22g {hi : jw_H} {k22 : jw_H → Nat → Int32 → Int32 → Int32 → Int32 → Option (Int32 × jw_H)} (hk22 : ∀ (h : jw_H) (x0 : Nat) (x1 : Int32) (x2 : Int32) (x3 : Int32) (x4 : Int32) (r : Int32) (h' : jw_H), k22 h x0 x1 x2 x3 x4 = some (r, h') → jw_E 1 uX12_areSame hi 22 [some (.ref x0), some (.int x1), some (.int x2), some (.int x3), some (.int x4)] [] h (.inl (some (.int r))) h') {h : jw_H} {x0 : Nat} {x1 : Int32} {x2 : Int32} {x3 : Int32} {x4 : Int32} {r : Int32} {h' : jw_H} (hq : g_X12_areSame_b22 k22 h x0 x1 x2 x3 x4 = some (r, h')) : jw_E 1 uX12_areSame hi 22 [some (.ref x0), some (.int x1), some (.int x2), some (.int x3), some (.int x4)] [] h (.inl (some (.int r))) h' := by
  unfold g_X12_areSame_b22 at hq
  refine jw_iload dX12_areSame_22 rfl ?_
  refine jw_aload_n dX12_areSame_24 (o := (some x0)) rfl ?_
  refine jw_iload_n dX12_areSame_25 rfl ?_
  obtain ⟨a1, ea1, hq⟩ := Option.bind_eq_some_iff.mp hq
  obtain ⟨eoa1, eta1⟩ := jw_rc_spec ea1
  obtain ⟨w3, h2, ew3, hq⟩ := jw_b2_spec hq
  refine jw_callV (As := [.int x1]) (S := [.int x4]) (a := a1) (v := some (.int w3)) dX12_areSame_26 mt_X12_len in_X12_len se_X12_len lk_X12_109 (c_X12_len ew3) eta1 (by decide) rfl rfl (by decide) (Nat.le_of_ble_eq_true rfl) (by cases eoa1; rfl) ?_
  rcases jw_if hq with ⟨c4, hq⟩ | ⟨c4, hq⟩
  · refine jw_icmp_ge_t (tgt := 65) dX12_areSame_29 (by decide) c4 ?_
    refine jw_iload_n dX12_areSame_65 rfl ?_
    obtain ⟨v5, ev5, hq⟩ := Option.bind_eq_some_iff.mp hq
    cases hq
    exact jw_iret (ty := .boolean) dX12_areSame_66 rfl (jw_rb_spec ev5)
  · refine jw_icmp_ge_f (tgt := 65) dX12_areSame_29 (by decide) c4 ?_
    refine jw_iload_n dX12_areSame_32 rfl ?_
    rcases jw_if hq with ⟨c6, hq⟩ | ⟨c6, hq⟩
    · refine jw_if_eq_t (tgt := 65) dX12_areSame_33 (by decide) c6 ?_
      refine jw_iload_n dX12_areSame_65 rfl ?_
      obtain ⟨v7, ev7, hq⟩ := Option.bind_eq_some_iff.mp hq
      cases hq
      exact jw_iret (ty := .boolean) dX12_areSame_66 rfl (jw_rb_spec ev7)
    · refine jw_if_eq_f (tgt := 65) dX12_areSame_33 (by decide) c6 ?_
      refine jw_aload_n dX12_areSame_36 (o := (some x0)) rfl ?_
      refine jw_iload_n dX12_areSame_37 rfl ?_
      refine jw_iload dX12_areSame_38 rfl ?_
      obtain ⟨a8, ea8, hq⟩ := Option.bind_eq_some_iff.mp hq
      obtain ⟨eoa8, eta8⟩ := jw_rc_spec ea8
      obtain ⟨w10, h9, ew10, hq⟩ := jw_b2_spec hq
      refine jw_callV (As := [.int x1, .int x4]) (S := []) (a := a8) (v := some (.int w10)) dX12_areSame_40 mt_X12_sign in_X12_sign se_X12_sign lk_X12_113 (c_X12_sign ew10) eta8 (by decide) rfl rfl (by decide) (Nat.le_of_ble_eq_true rfl) (by cases eoa8; rfl) ?_
      refine jw_aload_n dX12_areSame_43 (o := (some x0)) rfl ?_
      refine jw_iload_n dX12_areSame_44 rfl ?_
      refine jw_iload dX12_areSame_45 rfl ?_
      obtain ⟨a11, ea11, hq⟩ := Option.bind_eq_some_iff.mp hq
      obtain ⟨eoa11, eta11⟩ := jw_rc_spec ea11
      obtain ⟨w13, h12, ew13, hq⟩ := jw_b2_spec hq
      refine jw_callV (As := [.int x2, .int x4]) (S := [.int w10]) (a := a11) (v := some (.int w13)) dX12_areSame_47 mt_X12_sign in_X12_sign se_X12_sign lk_X12_113 (c_X12_sign ew13) eta11 (by decide) rfl rfl (by decide) (Nat.le_of_ble_eq_true rfl) (by cases eoa11; rfl) ?_
      rcases jw_if hq with ⟨c14, hq⟩ | ⟨c14, hq⟩
      · refine jw_icmp_ne_f (tgt := 57) dX12_areSame_50 (by decide) c14 ?_
        refine jw_iconst dX12_areSame_53 (v := (1 : Int32)) (by decide) ?_
        refine jw_goto (tgt := 58) dX12_areSame_54 (by decide) ?_
        refine jw_forget [true, true, true, false, true] (L' := [some (.ref x0), some (.int x1), some (.int x2), none, some (.int x4)]) rfl ?_
        exact l_X12_areSame_b58 hk22 hq
      · refine jw_icmp_ne_t (tgt := 57) dX12_areSame_50 (by decide) c14 ?_
        refine jw_iconst dX12_areSame_57 (v := (0 : Int32)) (by decide) ?_
        refine jw_forget [true, true, true, false, true] (L' := [some (.ref x0), some (.int x1), some (.int x2), none, some (.int x4)]) rfl ?_
        exact l_X12_areSame_b58 hk22 hq

theorem l_X12_areSame_b22 {hi : jw_H} : ∀ (n : Nat) (h : jw_H) (x0 : Nat) (x1 : Int32) (x2 : Int32) (x3 : Int32) (x4 : Int32) (r : Int32) (h' : jw_H), f_X12_areSame_b22  n h x0 x1 x2 x3 x4 = some (r, h') → jw_E 1 uX12_areSame hi 22 [some (.ref x0), some (.int x1), some (.int x2), some (.int x3), some (.int x4)] [] h (.inl (some (.int r))) h' := by
  intro n
  induction n with
  | zero => intro h x0 x1 x2 x3 x4 r h' hq; exact nomatch hq
  | succ n ih => intro h x0 x1 x2 x3 x4 r h' hq; exact l_X12_areSame_b22g ih hq

set_option maxRecDepth 100000 in
set_option maxHeartbeats 4000000 in
theorem l_X12_areSame_b18 {hi : jw_H} {h : jw_H} {x0 : Nat} {x1 : Int32} {x2 : Int32} {t0 : Int32} {r : Int32} {h' : jw_H} (hq : g_X12_areSame_b18  h x0 x1 x2 t0 = some (r, h')) : jw_E 1 uX12_areSame hi 18 [some (.ref x0), some (.int x1), some (.int x2), none, none] [.int t0] h (.inl (some (.int r))) h' := by
  unfold g_X12_areSame_b18 at hq
  refine jw_istore_n (L' := [some (.ref x0), some (.int x1), some (.int x2), some (.int t0), none]) dX12_areSame_18 (Nat.le_of_ble_eq_true rfl) rfl ?_
  refine jw_iconst dX12_areSame_19 (v := (0 : Int32)) (by decide) ?_
  refine jw_istore (L' := [some (.ref x0), some (.int x1), some (.int x2), some (.int t0), some (.int (0 : Int32))]) dX12_areSame_20 (Nat.le_of_ble_eq_true rfl) rfl ?_
  exact l_X12_areSame_b22  jw_FU _ _ _ _ _ _ _ _ hq

set_option maxRecDepth 100000 in
set_option maxHeartbeats 4000000 in
theorem l_X12_areSame {hi : jw_H} {h : jw_H} {x0 : Nat} {x1 : Int32} {x2 : Int32} {r : Int32} {h' : jw_H} (hq : f_X12_areSame  h x0 x1 x2 = some (r, h')) : jw_E 1 uX12_areSame hi 0 [some (.ref x0), some (.int x1), some (.int x2), none, none] [] h (.inl (some (.int r))) h' := by
  unfold f_X12_areSame at hq
  refine jw_aload_n dX12_areSame_0 (o := (some x0)) rfl ?_
  refine jw_iload_n dX12_areSame_1 rfl ?_
  obtain ⟨a1, ea1, hq⟩ := Option.bind_eq_some_iff.mp hq
  obtain ⟨eoa1, eta1⟩ := jw_rc_spec ea1
  obtain ⟨w3, h2, ew3, hq⟩ := jw_b2_spec hq
  refine jw_callV (As := [.int x1]) (S := []) (a := a1) (v := some (.int w3)) dX12_areSame_2 mt_X12_len in_X12_len se_X12_len lk_X12_109 (c_X12_len ew3) eta1 (by decide) rfl rfl (by decide) (Nat.le_of_ble_eq_true rfl) (by cases eoa1; rfl) ?_
  refine jw_aload_n dX12_areSame_5 (o := (some x0)) rfl ?_
  refine jw_iload_n dX12_areSame_6 rfl ?_
  obtain ⟨a4, ea4, hq⟩ := Option.bind_eq_some_iff.mp hq
  obtain ⟨eoa4, eta4⟩ := jw_rc_spec ea4
  obtain ⟨w6, h5, ew6, hq⟩ := jw_b2_spec hq
  refine jw_callV (As := [.int x2]) (S := [.int w3]) (a := a4) (v := some (.int w6)) dX12_areSame_7 mt_X12_len in_X12_len se_X12_len lk_X12_109 (c_X12_len ew6) eta4 (by decide) rfl rfl (by decide) (Nat.le_of_ble_eq_true rfl) (by cases eoa4; rfl) ?_
  rcases jw_if hq with ⟨c7, hq⟩ | ⟨c7, hq⟩
  · refine jw_icmp_ne_f (tgt := 17) dX12_areSame_10 (by decide) c7 ?_
    refine jw_iconst dX12_areSame_13 (v := (1 : Int32)) (by decide) ?_
    refine jw_goto (tgt := 18) dX12_areSame_14 (by decide) ?_
    exact l_X12_areSame_b18  hq
  · refine jw_icmp_ne_t (tgt := 17) dX12_areSame_10 (by decide) c7 ?_
    refine jw_iconst dX12_areSame_17 (v := (0 : Int32)) (by decide) ?_
    exact l_X12_areSame_b18  hq

theorem c_X12_areSame {h : jw_H} {x0 : Nat} {x1 : Int32} {x2 : Int32} {r : Int32} {h' : jw_H} (hq : f_X12_areSame h x0 x1 x2 = some (r, h')) : jw_Con (Cond.code yX12_areSame cX12_areSame 5 (some .boolean)) yX12_areSame 1 [.ref x0, .int x1, .int x2] h (.inl (some (.int r))) h' :=
  jw_con false (plainFor_of_name (by decide +kernel)) (fun z => nomatch z) (by simp [jw_ent, jw_sl0_nil, jw_sl0_int, jw_sl0_long, jw_sl0_ref, jw_sl0_rf, jw_sl0_scr, List.replicate]) (by simp [jw_sl0_nil, jw_sl0_int, jw_sl0_long, jw_sl0_ref, jw_sl0_rf, jw_sl0_scr]) (l_X12_areSame hq)


/-! X12_cutTo -/
noncomputable def f_X12_cutTo (h : jw_H) (x0 : Nat) (x1 : Int32) (x2 : Int32) : Option (Unit × jw_H) :=
 (jw_gR h 12 (some x0) 6).bind fun v1 =>
 (jw_si h 20 v1 ((31 : Int32) * x1) x2).bind fun h2 =>
 some ((), h2)

set_option maxRecDepth 100000 in
set_option maxHeartbeats 4000000 in
theorem l_X12_cutTo {hi : jw_H} {h : jw_H} {x0 : Nat} {x1 : Int32} {x2 : Int32} {r : Unit} {h' : jw_H} (hq : f_X12_cutTo  h x0 x1 x2 = some (r, h')) : jw_E 0 uX12_cutTo hi 0 [some (.ref x0), some (.int x1), some (.int x2)] [] h (.inl none) h' := by
  unfold f_X12_cutTo at hq
  refine jw_aload_n dX12_cutTo_0 (o := (some x0)) rfl ?_
  obtain ⟨v1, ev1, hq⟩ := Option.bind_eq_some_iff.mp hq
  refine jw_getR (o := (some x0)) dX12_cutTo_1 ev1 fl_X12_23 rfl ?_
  refine jw_bipush dX12_cutTo_4 (v := (31 : Int32)) (by decide) ?_
  refine jw_iload_n dX12_cutTo_6 rfl ?_
  refine jw_imul dX12_cutTo_7 ?_
  refine jw_iload_n dX12_cutTo_8 rfl ?_
  obtain ⟨h2, eh2, hq⟩ := Option.bind_eq_some_iff.mp hq
  refine jw_iast (o := v1) dX12_cutTo_9 eh2 ?_
  cases hq
  exact jw_vret dX12_cutTo_10 rfl

theorem c_X12_cutTo {h : jw_H} {x0 : Nat} {x1 : Int32} {x2 : Int32} {r : Unit} {h' : jw_H} (hq : f_X12_cutTo h x0 x1 x2 = some (r, h')) : jw_Con (Cond.code yX12_cutTo cX12_cutTo 3 none) yX12_cutTo 0 [.ref x0, .int x1, .int x2] h (.inl none) h' :=
  jw_con false (plainFor_of_name (by decide +kernel)) (fun z => nomatch z) (by simp [jw_ent, jw_sl0_nil, jw_sl0_int, jw_sl0_long, jw_sl0_ref, jw_sl0_rf, jw_sl0_scr, List.replicate]) (by simp [jw_sl0_nil, jw_sl0_int, jw_sl0_long, jw_sl0_ref, jw_sl0_rf, jw_sl0_scr]) (l_X12_cutTo hq)


/-! X12_makes -/
noncomputable def g_X12_makes_b19 (h : jw_H) (x0 : Nat) : Option (Unit × jw_H) :=
 (jw_gI h 12 (some x0) 20).bind fun v1 =>
 (jw_pI h 12 (some x0) 20 (v1 + (1 : Int32))).bind fun h2 =>
 some ((), h2)

noncomputable def f_X12_makes (h : jw_H) (x0 : Nat) (x1 : Int32) : Option (Unit × jw_H) :=
 (jw_gI h 12 (some x0) 20).bind fun v1 =>
 if (30 : Int32) ≤ v1 then (g_X12_makes_b19  h x0)
 else ((jw_gR h 12 (some x0) 19).bind fun v3 =>
 (jw_gI h 12 (some x0) 20).bind fun v4 =>
 (jw_si h 20 v3 v4 x1).bind fun h5 =>
 g_X12_makes_b19  h5 x0)

set_option maxRecDepth 100000 in
set_option maxHeartbeats 4000000 in
theorem l_X12_makes_b19 {hi : jw_H} {h : jw_H} {x0 : Nat} {r : Unit} {h' : jw_H} (hq : g_X12_makes_b19  h x0 = some (r, h')) : jw_E 0 uX12_makes hi 19 [some (.ref x0), none] [] h (.inl none) h' := by
  unfold g_X12_makes_b19 at hq
  refine jw_aload_n dX12_makes_19 (o := (some x0)) rfl ?_
  refine jw_dup dX12_makes_20 rfl ?_
  obtain ⟨v1, ev1, hq⟩ := Option.bind_eq_some_iff.mp hq
  refine jw_getI (o := (some x0)) dX12_makes_21 ev1 fl_X12_117 rfl ?_
  refine jw_iconst dX12_makes_24 (v := (1 : Int32)) (by decide) ?_
  refine jw_iadd dX12_makes_25 ?_
  obtain ⟨h2, eh2, hq⟩ := Option.bind_eq_some_iff.mp hq
  refine jw_putI (o := (some x0)) dX12_makes_26 eh2 fl_X12_117 rfl rfl ?_
  cases hq
  exact jw_vret dX12_makes_29 rfl

set_option maxRecDepth 100000 in
set_option maxHeartbeats 4000000 in
theorem l_X12_makes {hi : jw_H} {h : jw_H} {x0 : Nat} {x1 : Int32} {r : Unit} {h' : jw_H} (hq : f_X12_makes  h x0 x1 = some (r, h')) : jw_E 0 uX12_makes hi 0 [some (.ref x0), some (.int x1)] [] h (.inl none) h' := by
  unfold f_X12_makes at hq
  refine jw_aload_n dX12_makes_0 (o := (some x0)) rfl ?_
  obtain ⟨v1, ev1, hq⟩ := Option.bind_eq_some_iff.mp hq
  refine jw_getI (o := (some x0)) dX12_makes_1 ev1 fl_X12_117 rfl ?_
  refine jw_bipush dX12_makes_4 (v := (30 : Int32)) (by decide) ?_
  rcases jw_if hq with ⟨c2, hq⟩ | ⟨c2, hq⟩
  · refine jw_icmp_ge_t (tgt := 19) dX12_makes_6 (by decide) c2 ?_
    refine jw_forget [true, false] (L' := [some (.ref x0), none]) rfl ?_
    exact l_X12_makes_b19  hq
  · refine jw_icmp_ge_f (tgt := 19) dX12_makes_6 (by decide) c2 ?_
    refine jw_aload_n dX12_makes_9 (o := (some x0)) rfl ?_
    obtain ⟨v3, ev3, hq⟩ := Option.bind_eq_some_iff.mp hq
    refine jw_getR (o := (some x0)) dX12_makes_10 ev3 fl_X12_41 rfl ?_
    refine jw_aload_n dX12_makes_13 (o := (some x0)) rfl ?_
    obtain ⟨v4, ev4, hq⟩ := Option.bind_eq_some_iff.mp hq
    refine jw_getI (o := (some x0)) dX12_makes_14 ev4 fl_X12_117 rfl ?_
    refine jw_iload_n dX12_makes_17 rfl ?_
    obtain ⟨h5, eh5, hq⟩ := Option.bind_eq_some_iff.mp hq
    refine jw_iast (o := v3) dX12_makes_18 eh5 ?_
    refine jw_forget [true, false] (L' := [some (.ref x0), none]) rfl ?_
    exact l_X12_makes_b19  hq

theorem c_X12_makes {h : jw_H} {x0 : Nat} {x1 : Int32} {r : Unit} {h' : jw_H} (hq : f_X12_makes h x0 x1 = some (r, h')) : jw_Con (Cond.code yX12_makes cX12_makes 2 none) yX12_makes 0 [.ref x0, .int x1] h (.inl none) h' :=
  jw_con false (plainFor_of_name (by decide +kernel)) (fun z => nomatch z) (by simp [jw_ent, jw_sl0_nil, jw_sl0_int, jw_sl0_long, jw_sl0_ref, jw_sl0_rf, jw_sl0_scr, List.replicate]) (by simp [jw_sl0_nil, jw_sl0_int, jw_sl0_long, jw_sl0_ref, jw_sl0_rf, jw_sl0_scr]) (l_X12_makes hq)


/-! X12_makesRow -/
noncomputable def g_X12_makesRow_b3 (k3 : jw_H → Nat → Int32 → Int32 → Int32 → Option (Unit × jw_H)) (h : jw_H) (x0 : Nat) (x1 : Int32) (x3 : Int32) (x4 : Int32) : Option (Unit × jw_H) :=
 if x3 ≤ x4 then (some ((), h))
 else ((jw_rc h 12 (some x0)).bind fun a2 =>
 jw_b2 (f_X12_sign h a2 x1 x4) fun w4 h3 =>
 (jw_rc h3 12 (some x0)).bind fun a5 =>
 jw_b2 (f_X12_makes h3 a5 w4) fun w7 h6 =>
 k3 h6 x0 x1 x3 (x4 + (1 : Int32)))

noncomputable def f_X12_makesRow_b3 (n : Nat) : jw_H → Nat → Int32 → Int32 → Int32 → Option (Unit × jw_H) :=
 Nat.rec (fun _ _ _ _ _ => none) (fun _ k3 => g_X12_makesRow_b3 k3) n

noncomputable def f_X12_makesRow (h : jw_H) (x0 : Nat) (x1 : Int32) (x2 : Int32) (x3 : Int32) : Option (Unit × jw_H) :=
 f_X12_makesRow_b3  jw_FU h x0 x1 x3 x2

set_option maxRecDepth 100000 in
set_option maxHeartbeats 4000000 in
theorem l_X12_makesRow_b3g {hi : jw_H} {k3 : jw_H → Nat → Int32 → Int32 → Int32 → Option (Unit × jw_H)} (hk3 : ∀ (h : jw_H) (x0 : Nat) (x1 : Int32) (x3 : Int32) (x4 : Int32) (r : Unit) (h' : jw_H), k3 h x0 x1 x3 x4 = some (r, h') → jw_E 1 uX12_makesRow hi 3 [some (.ref x0), some (.int x1), none, some (.int x3), some (.int x4)] [] h (.inl none) h') {h : jw_H} {x0 : Nat} {x1 : Int32} {x3 : Int32} {x4 : Int32} {r : Unit} {h' : jw_H} (hq : g_X12_makesRow_b3 k3 h x0 x1 x3 x4 = some (r, h')) : jw_E 1 uX12_makesRow hi 3 [some (.ref x0), some (.int x1), none, some (.int x3), some (.int x4)] [] h (.inl none) h' := by
  unfold g_X12_makesRow_b3 at hq
  refine jw_iload dX12_makesRow_3 rfl ?_
  refine jw_iload_n dX12_makesRow_5 rfl ?_
  rcases jw_if hq with ⟨c1, hq⟩ | ⟨c1, hq⟩
  · refine jw_icmp_ge_t (tgt := 26) dX12_makesRow_6 (by decide) c1 ?_
    cases hq
    exact jw_vret dX12_makesRow_26 rfl
  · refine jw_icmp_ge_f (tgt := 26) dX12_makesRow_6 (by decide) c1 ?_
    refine jw_aload_n dX12_makesRow_9 (o := (some x0)) rfl ?_
    refine jw_aload_n dX12_makesRow_10 (o := (some x0)) rfl ?_
    refine jw_iload_n dX12_makesRow_11 rfl ?_
    refine jw_iload dX12_makesRow_12 rfl ?_
    obtain ⟨a2, ea2, hq⟩ := Option.bind_eq_some_iff.mp hq
    obtain ⟨eoa2, eta2⟩ := jw_rc_spec ea2
    obtain ⟨w4, h3, ew4, hq⟩ := jw_b2_spec hq
    refine jw_callV (As := [.int x1, .int x4]) (S := [.ref x0]) (a := a2) (v := some (.int w4)) dX12_makesRow_14 mt_X12_sign in_X12_sign se_X12_sign lk_X12_113 (c_X12_sign ew4) eta2 (by decide) rfl rfl (by decide) (Nat.le_of_ble_eq_true rfl) (by cases eoa2; rfl) ?_
    obtain ⟨a5, ea5, hq⟩ := Option.bind_eq_some_iff.mp hq
    obtain ⟨eoa5, eta5⟩ := jw_rc_spec ea5
    obtain ⟨w7, h6, ew7, hq⟩ := jw_b2_spec hq
    refine jw_callV (As := [.int w4]) (S := []) (a := a5) (v := none) dX12_makesRow_17 mt_X12_makes in_X12_makes se_X12_makes lk_X12_120 (c_X12_makes ew7) eta5 (by decide) rfl rfl (by decide) (Nat.le_of_ble_eq_true rfl) (by cases eoa5; rfl) ?_
    refine jw_iinc (L' := [some (.ref x0), some (.int x1), none, some (.int x3), some (.int (x4 + (1 : Int32)))]) dX12_makesRow_20 rfl (v := (1 : Int32)) (by decide) (Nat.le_of_ble_eq_true rfl) rfl ?_
    refine jw_goto (tgt := 3) dX12_makesRow_23 (by decide) ?_
    exact hk3 _ _ _ _ _ _ _ hq

theorem l_X12_makesRow_b3 {hi : jw_H} : ∀ (n : Nat) (h : jw_H) (x0 : Nat) (x1 : Int32) (x3 : Int32) (x4 : Int32) (r : Unit) (h' : jw_H), f_X12_makesRow_b3  n h x0 x1 x3 x4 = some (r, h') → jw_E 1 uX12_makesRow hi 3 [some (.ref x0), some (.int x1), none, some (.int x3), some (.int x4)] [] h (.inl none) h' := by
  intro n
  induction n with
  | zero => intro h x0 x1 x3 x4 r h' hq; exact nomatch hq
  | succ n ih => intro h x0 x1 x3 x4 r h' hq; exact l_X12_makesRow_b3g ih hq

set_option maxRecDepth 100000 in
set_option maxHeartbeats 4000000 in
theorem l_X12_makesRow {hi : jw_H} {h : jw_H} {x0 : Nat} {x1 : Int32} {x2 : Int32} {x3 : Int32} {r : Unit} {h' : jw_H} (hq : f_X12_makesRow  h x0 x1 x2 x3 = some (r, h')) : jw_E 1 uX12_makesRow hi 0 [some (.ref x0), some (.int x1), some (.int x2), some (.int x3), none] [] h (.inl none) h' := by
  unfold f_X12_makesRow at hq
  refine jw_iload_n dX12_makesRow_0 rfl ?_
  refine jw_istore (L' := [some (.ref x0), some (.int x1), some (.int x2), some (.int x3), some (.int x2)]) dX12_makesRow_1 (Nat.le_of_ble_eq_true rfl) rfl ?_
  refine jw_forget [true, true, false, true, true] (L' := [some (.ref x0), some (.int x1), none, some (.int x3), some (.int x2)]) rfl ?_
  exact l_X12_makesRow_b3  jw_FU _ _ _ _ _ _ _ hq

theorem c_X12_makesRow {h : jw_H} {x0 : Nat} {x1 : Int32} {x2 : Int32} {x3 : Int32} {r : Unit} {h' : jw_H} (hq : f_X12_makesRow h x0 x1 x2 x3 = some (r, h')) : jw_Con (Cond.code yX12_makesRow cX12_makesRow 5 none) yX12_makesRow 1 [.ref x0, .int x1, .int x2, .int x3] h (.inl none) h' :=
  jw_con false (plainFor_of_name (by decide +kernel)) (fun z => nomatch z) (by simp [jw_ent, jw_sl0_nil, jw_sl0_int, jw_sl0_long, jw_sl0_ref, jw_sl0_rf, jw_sl0_scr, List.replicate]) (by simp [jw_sl0_nil, jw_sl0_int, jw_sl0_long, jw_sl0_ref, jw_sl0_rf, jw_sl0_scr]) (l_X12_makesRow hq)


/-! X12_makesNumber -/
noncomputable def g_X12_makesNumber_b37 (h : jw_H) (x0 : Nat) (x1 : Int32) : Option (Unit × jw_H) :=
 (jw_rc h 12 (some x0)).bind fun a1 =>
 jw_b2 (f_X12_makes h a1 ((48 : Int32) + (x1 - x1 / (10 : Int32) * (10 : Int32)))) fun w3 h2 =>
 some ((), h2)

noncomputable def g_X12_makesNumber_b17 (h : jw_H) (x0 : Nat) (x1 : Int32) : Option (Unit × jw_H) :=
 if x1 ≤ (9 : Int32) then (g_X12_makesNumber_b37  h x0 x1)
 else ((jw_rc h 12 (some x0)).bind fun a2 =>
 jw_b2 (f_X12_makes h a2 ((48 : Int32) + ((x1 / (10 : Int32)) - (x1 / (10 : Int32)) / (10 : Int32) * (10 : Int32)))) fun w4 h3 =>
 g_X12_makesNumber_b37  h3 x0 x1)

noncomputable def f_X12_makesNumber (h : jw_H) (x0 : Nat) (x1 : Int32) : Option (Unit × jw_H) :=
 if x1 ≤ (99 : Int32) then (g_X12_makesNumber_b17  h x0 x1)
 else ((jw_rc h 12 (some x0)).bind fun a2 =>
 jw_b2 (f_X12_makes h a2 ((48 : Int32) + (x1 / (100 : Int32)))) fun w4 h3 =>
 g_X12_makesNumber_b17  h3 x0 x1)

set_option maxRecDepth 100000 in
set_option maxHeartbeats 4000000 in
theorem l_X12_makesNumber_b37 {hi : jw_H} {h : jw_H} {x0 : Nat} {x1 : Int32} {r : Unit} {h' : jw_H} (hq : g_X12_makesNumber_b37  h x0 x1 = some (r, h')) : jw_E 1 uX12_makesNumber hi 37 [some (.ref x0), some (.int x1)] [] h (.inl none) h' := by
  unfold g_X12_makesNumber_b37 at hq
  refine jw_aload_n dX12_makesNumber_37 (o := (some x0)) rfl ?_
  refine jw_bipush dX12_makesNumber_38 (v := (48 : Int32)) (by decide) ?_
  refine jw_iload_n dX12_makesNumber_40 rfl ?_
  refine jw_bipush dX12_makesNumber_41 (v := (10 : Int32)) (by decide) ?_
  refine jw_irem dX12_makesNumber_43 (by decide) ?_
  refine jw_iadd dX12_makesNumber_44 ?_
  obtain ⟨a1, ea1, hq⟩ := Option.bind_eq_some_iff.mp hq
  obtain ⟨eoa1, eta1⟩ := jw_rc_spec ea1
  obtain ⟨w3, h2, ew3, hq⟩ := jw_b2_spec hq
  refine jw_callV (As := [.int ((48 : Int32) + (x1 - x1 / (10 : Int32) * (10 : Int32)))]) (S := []) (a := a1) (v := none) dX12_makesNumber_45 mt_X12_makes in_X12_makes se_X12_makes lk_X12_120 (c_X12_makes ew3) eta1 (by decide) rfl rfl (by decide) (Nat.le_of_ble_eq_true rfl) (by cases eoa1; rfl) ?_
  cases hq
  exact jw_vret dX12_makesNumber_48 rfl

set_option maxRecDepth 100000 in
set_option maxHeartbeats 4000000 in
theorem l_X12_makesNumber_b17 {hi : jw_H} {h : jw_H} {x0 : Nat} {x1 : Int32} {r : Unit} {h' : jw_H} (hq : g_X12_makesNumber_b17  h x0 x1 = some (r, h')) : jw_E 1 uX12_makesNumber hi 17 [some (.ref x0), some (.int x1)] [] h (.inl none) h' := by
  unfold g_X12_makesNumber_b17 at hq
  refine jw_iload_n dX12_makesNumber_17 rfl ?_
  refine jw_bipush dX12_makesNumber_18 (v := (9 : Int32)) (by decide) ?_
  rcases jw_if hq with ⟨c1, hq⟩ | ⟨c1, hq⟩
  · refine jw_icmp_le_t (tgt := 37) dX12_makesNumber_20 (by decide) c1 ?_
    exact l_X12_makesNumber_b37  hq
  · refine jw_icmp_le_f (tgt := 37) dX12_makesNumber_20 (by decide) c1 ?_
    refine jw_aload_n dX12_makesNumber_23 (o := (some x0)) rfl ?_
    refine jw_bipush dX12_makesNumber_24 (v := (48 : Int32)) (by decide) ?_
    refine jw_iload_n dX12_makesNumber_26 rfl ?_
    refine jw_bipush dX12_makesNumber_27 (v := (10 : Int32)) (by decide) ?_
    refine jw_idiv dX12_makesNumber_29 (by decide) ?_
    refine jw_bipush dX12_makesNumber_30 (v := (10 : Int32)) (by decide) ?_
    refine jw_irem dX12_makesNumber_32 (by decide) ?_
    refine jw_iadd dX12_makesNumber_33 ?_
    obtain ⟨a2, ea2, hq⟩ := Option.bind_eq_some_iff.mp hq
    obtain ⟨eoa2, eta2⟩ := jw_rc_spec ea2
    obtain ⟨w4, h3, ew4, hq⟩ := jw_b2_spec hq
    refine jw_callV (As := [.int ((48 : Int32) + ((x1 / (10 : Int32)) - (x1 / (10 : Int32)) / (10 : Int32) * (10 : Int32)))]) (S := []) (a := a2) (v := none) dX12_makesNumber_34 mt_X12_makes in_X12_makes se_X12_makes lk_X12_120 (c_X12_makes ew4) eta2 (by decide) rfl rfl (by decide) (Nat.le_of_ble_eq_true rfl) (by cases eoa2; rfl) ?_
    exact l_X12_makesNumber_b37  hq

set_option maxRecDepth 100000 in
set_option maxHeartbeats 4000000 in
theorem l_X12_makesNumber {hi : jw_H} {h : jw_H} {x0 : Nat} {x1 : Int32} {r : Unit} {h' : jw_H} (hq : f_X12_makesNumber  h x0 x1 = some (r, h')) : jw_E 1 uX12_makesNumber hi 0 [some (.ref x0), some (.int x1)] [] h (.inl none) h' := by
  unfold f_X12_makesNumber at hq
  refine jw_iload_n dX12_makesNumber_0 rfl ?_
  refine jw_bipush dX12_makesNumber_1 (v := (99 : Int32)) (by decide) ?_
  rcases jw_if hq with ⟨c1, hq⟩ | ⟨c1, hq⟩
  · refine jw_icmp_le_t (tgt := 17) dX12_makesNumber_3 (by decide) c1 ?_
    exact l_X12_makesNumber_b17  hq
  · refine jw_icmp_le_f (tgt := 17) dX12_makesNumber_3 (by decide) c1 ?_
    refine jw_aload_n dX12_makesNumber_6 (o := (some x0)) rfl ?_
    refine jw_bipush dX12_makesNumber_7 (v := (48 : Int32)) (by decide) ?_
    refine jw_iload_n dX12_makesNumber_9 rfl ?_
    refine jw_bipush dX12_makesNumber_10 (v := (100 : Int32)) (by decide) ?_
    refine jw_idiv dX12_makesNumber_12 (by decide) ?_
    refine jw_iadd dX12_makesNumber_13 ?_
    obtain ⟨a2, ea2, hq⟩ := Option.bind_eq_some_iff.mp hq
    obtain ⟨eoa2, eta2⟩ := jw_rc_spec ea2
    obtain ⟨w4, h3, ew4, hq⟩ := jw_b2_spec hq
    refine jw_callV (As := [.int ((48 : Int32) + (x1 / (100 : Int32)))]) (S := []) (a := a2) (v := none) dX12_makesNumber_14 mt_X12_makes in_X12_makes se_X12_makes lk_X12_120 (c_X12_makes ew4) eta2 (by decide) rfl rfl (by decide) (Nat.le_of_ble_eq_true rfl) (by cases eoa2; rfl) ?_
    exact l_X12_makesNumber_b17  hq

theorem c_X12_makesNumber {h : jw_H} {x0 : Nat} {x1 : Int32} {r : Unit} {h' : jw_H} (hq : f_X12_makesNumber h x0 x1 = some (r, h')) : jw_Con (Cond.code yX12_makesNumber cX12_makesNumber 2 none) yX12_makesNumber 1 [.ref x0, .int x1] h (.inl none) h' :=
  jw_con false (plainFor_of_name (by decide +kernel)) (fun z => nomatch z) (by simp [jw_ent, jw_sl0_nil, jw_sl0_int, jw_sl0_long, jw_sl0_ref, jw_sl0_rf, jw_sl0_scr, List.replicate]) (by simp [jw_sl0_nil, jw_sl0_int, jw_sl0_long, jw_sl0_ref, jw_sl0_rf, jw_sl0_scr]) (l_X12_makesNumber hq)


/-! X12_lays -/
noncomputable def g_X12_lays_b26 (k26 : jw_H → Nat → Int32 → Int32 → Option (Int32 × jw_H)) (h : jw_H) (x0 : Nat) (x1 : Int32) (x2 : Int32) : Option (Int32 × jw_H) :=
 (jw_gI h 12 (some x0) 20).bind fun v1 =>
 if v1 ≤ x2 then (some ((1 : Int32), h))
 else ((jw_gR h 12 (some x0) 6).bind fun v3 =>
 (jw_gR h 12 (some x0) 19).bind fun v4 =>
 (jw_ai h 20 v4 x2).bind fun v5 =>
 (jw_si h 20 v3 ((((31 : Int32) * x1) + (1 : Int32)) + x2) v5).bind fun h6 =>
 k26 h6 x0 x1 (x2 + (1 : Int32)))

noncomputable def f_X12_lays_b26 (n : Nat) : jw_H → Nat → Int32 → Int32 → Option (Int32 × jw_H) :=
 Nat.rec (fun _ _ _ _ => none) (fun _ k26 => g_X12_lays_b26 k26) n

noncomputable def f_X12_lays (h : jw_H) (x0 : Nat) (x1 : Int32) : Option (Int32 × jw_H) :=
 (jw_gI h 12 (some x0) 20).bind fun v1 =>
 if v1 ≤ (30 : Int32) then ((jw_gR h 12 (some x0) 6).bind fun v3 =>
 (jw_gI h 12 (some x0) 20).bind fun v4 =>
 (jw_si h 20 v3 ((31 : Int32) * x1) v4).bind fun h5 =>
 f_X12_lays_b26  jw_FU h5 x0 x1 (0 : Int32))
 else (some ((0 : Int32), h))

set_option maxRecDepth 100000 in
set_option maxHeartbeats 4000000 in
theorem l_X12_lays_b26g {hi : jw_H} {k26 : jw_H → Nat → Int32 → Int32 → Option (Int32 × jw_H)} (hk26 : ∀ (h : jw_H) (x0 : Nat) (x1 : Int32) (x2 : Int32) (r : Int32) (h' : jw_H), k26 h x0 x1 x2 = some (r, h') → jw_E 0 uX12_lays hi 26 [some (.ref x0), some (.int x1), some (.int x2)] [] h (.inl (some (.int r))) h') {h : jw_H} {x0 : Nat} {x1 : Int32} {x2 : Int32} {r : Int32} {h' : jw_H} (hq : g_X12_lays_b26 k26 h x0 x1 x2 = some (r, h')) : jw_E 0 uX12_lays hi 26 [some (.ref x0), some (.int x1), some (.int x2)] [] h (.inl (some (.int r))) h' := by
  unfold g_X12_lays_b26 at hq
  refine jw_iload_n dX12_lays_26 rfl ?_
  refine jw_aload_n dX12_lays_27 (o := (some x0)) rfl ?_
  obtain ⟨v1, ev1, hq⟩ := Option.bind_eq_some_iff.mp hq
  refine jw_getI (o := (some x0)) dX12_lays_28 ev1 fl_X12_117 rfl ?_
  rcases jw_if hq with ⟨c2, hq⟩ | ⟨c2, hq⟩
  · refine jw_icmp_ge_t (tgt := 59) dX12_lays_31 (by decide) c2 ?_
    refine jw_iconst dX12_lays_59 (v := (1 : Int32)) (by decide) ?_
    cases hq
    exact jw_iret (ty := .boolean) dX12_lays_60 rfl rfl
  · refine jw_icmp_ge_f (tgt := 59) dX12_lays_31 (by decide) c2 ?_
    refine jw_aload_n dX12_lays_34 (o := (some x0)) rfl ?_
    obtain ⟨v3, ev3, hq⟩ := Option.bind_eq_some_iff.mp hq
    refine jw_getR (o := (some x0)) dX12_lays_35 ev3 fl_X12_23 rfl ?_
    refine jw_bipush dX12_lays_38 (v := (31 : Int32)) (by decide) ?_
    refine jw_iload_n dX12_lays_40 rfl ?_
    refine jw_imul dX12_lays_41 ?_
    refine jw_iconst dX12_lays_42 (v := (1 : Int32)) (by decide) ?_
    refine jw_iadd dX12_lays_43 ?_
    refine jw_iload_n dX12_lays_44 rfl ?_
    refine jw_iadd dX12_lays_45 ?_
    refine jw_aload_n dX12_lays_46 (o := (some x0)) rfl ?_
    obtain ⟨v4, ev4, hq⟩ := Option.bind_eq_some_iff.mp hq
    refine jw_getR (o := (some x0)) dX12_lays_47 ev4 fl_X12_41 rfl ?_
    refine jw_iload_n dX12_lays_50 rfl ?_
    obtain ⟨v5, ev5, hq⟩ := Option.bind_eq_some_iff.mp hq
    refine jw_iald (o := v4) dX12_lays_51 ev5 ?_
    obtain ⟨h6, eh6, hq⟩ := Option.bind_eq_some_iff.mp hq
    refine jw_iast (o := v3) dX12_lays_52 eh6 ?_
    refine jw_iinc (L' := [some (.ref x0), some (.int x1), some (.int (x2 + (1 : Int32)))]) dX12_lays_53 rfl (v := (1 : Int32)) (by decide) (Nat.le_of_ble_eq_true rfl) rfl ?_
    refine jw_goto (tgt := 26) dX12_lays_56 (by decide) ?_
    exact hk26 _ _ _ _ _ _ hq

theorem l_X12_lays_b26 {hi : jw_H} : ∀ (n : Nat) (h : jw_H) (x0 : Nat) (x1 : Int32) (x2 : Int32) (r : Int32) (h' : jw_H), f_X12_lays_b26  n h x0 x1 x2 = some (r, h') → jw_E 0 uX12_lays hi 26 [some (.ref x0), some (.int x1), some (.int x2)] [] h (.inl (some (.int r))) h' := by
  intro n
  induction n with
  | zero => intro h x0 x1 x2 r h' hq; exact nomatch hq
  | succ n ih => intro h x0 x1 x2 r h' hq; exact l_X12_lays_b26g ih hq

set_option maxRecDepth 100000 in
set_option maxHeartbeats 4000000 in
theorem l_X12_lays {hi : jw_H} {h : jw_H} {x0 : Nat} {x1 : Int32} {r : Int32} {h' : jw_H} (hq : f_X12_lays  h x0 x1 = some (r, h')) : jw_E 0 uX12_lays hi 0 [some (.ref x0), some (.int x1), none] [] h (.inl (some (.int r))) h' := by
  unfold f_X12_lays at hq
  refine jw_aload_n dX12_lays_0 (o := (some x0)) rfl ?_
  obtain ⟨v1, ev1, hq⟩ := Option.bind_eq_some_iff.mp hq
  refine jw_getI (o := (some x0)) dX12_lays_1 ev1 fl_X12_117 rfl ?_
  refine jw_bipush dX12_lays_4 (v := (30 : Int32)) (by decide) ?_
  rcases jw_if hq with ⟨c2, hq⟩ | ⟨c2, hq⟩
  · refine jw_icmp_le_t (tgt := 11) dX12_lays_6 (by decide) c2 ?_
    refine jw_aload_n dX12_lays_11 (o := (some x0)) rfl ?_
    obtain ⟨v3, ev3, hq⟩ := Option.bind_eq_some_iff.mp hq
    refine jw_getR (o := (some x0)) dX12_lays_12 ev3 fl_X12_23 rfl ?_
    refine jw_bipush dX12_lays_15 (v := (31 : Int32)) (by decide) ?_
    refine jw_iload_n dX12_lays_17 rfl ?_
    refine jw_imul dX12_lays_18 ?_
    refine jw_aload_n dX12_lays_19 (o := (some x0)) rfl ?_
    obtain ⟨v4, ev4, hq⟩ := Option.bind_eq_some_iff.mp hq
    refine jw_getI (o := (some x0)) dX12_lays_20 ev4 fl_X12_117 rfl ?_
    obtain ⟨h5, eh5, hq⟩ := Option.bind_eq_some_iff.mp hq
    refine jw_iast (o := v3) dX12_lays_23 eh5 ?_
    refine jw_iconst dX12_lays_24 (v := (0 : Int32)) (by decide) ?_
    refine jw_istore_n (L' := [some (.ref x0), some (.int x1), some (.int (0 : Int32))]) dX12_lays_25 (Nat.le_of_ble_eq_true rfl) rfl ?_
    exact l_X12_lays_b26  jw_FU _ _ _ _ _ _ hq
  · refine jw_icmp_le_f (tgt := 11) dX12_lays_6 (by decide) c2 ?_
    refine jw_iconst dX12_lays_9 (v := (0 : Int32)) (by decide) ?_
    cases hq
    exact jw_iret (ty := .boolean) dX12_lays_10 rfl rfl

theorem c_X12_lays {h : jw_H} {x0 : Nat} {x1 : Int32} {r : Int32} {h' : jw_H} (hq : f_X12_lays h x0 x1 = some (r, h')) : jw_Con (Cond.code yX12_lays cX12_lays 3 (some .boolean)) yX12_lays 0 [.ref x0, .int x1] h (.inl (some (.int r))) h' :=
  jw_con false (plainFor_of_name (by decide +kernel)) (fun z => nomatch z) (by simp [jw_ent, jw_sl0_nil, jw_sl0_int, jw_sl0_long, jw_sl0_ref, jw_sl0_rf, jw_sl0_scr, List.replicate]) (by simp [jw_sl0_nil, jw_sl0_int, jw_sl0_long, jw_sl0_ref, jw_sl0_rf, jw_sl0_scr]) (l_X12_lays hq)


/-! X12_textRow -/
noncomputable def f_X12_textRow (h : jw_H) (x0 : Int32) : Option (Int32 × jw_H) :=
 some ((((0 : Int32) + x0) - (1 : Int32)), h)

set_option maxRecDepth 100000 in
set_option maxHeartbeats 4000000 in
theorem l_X12_textRow {hi : jw_H} {h : jw_H} {x0 : Int32} {r : Int32} {h' : jw_H} (hq : f_X12_textRow  h x0 = some (r, h')) : jw_E 0 uX12_textRow hi 0 [some (.int x0)] [] h (.inl (some (.int r))) h' := by
  unfold f_X12_textRow at hq
  refine jw_iconst dX12_textRow_0 (v := (0 : Int32)) (by decide) ?_
  refine jw_iload_n dX12_textRow_1 rfl ?_
  refine jw_iadd dX12_textRow_2 ?_
  refine jw_iconst dX12_textRow_3 (v := (1 : Int32)) (by decide) ?_
  refine jw_isub dX12_textRow_4 ?_
  cases hq
  exact jw_iret (ty := .int) dX12_textRow_5 rfl rfl

theorem c_X12_textRow {h : jw_H} {x0 : Int32} {r : Int32} {h' : jw_H} (hq : f_X12_textRow h x0 = some (r, h')) : jw_Con (Cond.code yX12_textRow cX12_textRow 1 (some .int)) yX12_textRow 0 [.int x0] h (.inl (some (.int r))) h' :=
  jw_con false (plainFor_of_name (by decide +kernel)) (fun z => nomatch z) (by simp [jw_ent, jw_sl0_nil, jw_sl0_int, jw_sl0_long, jw_sl0_ref, jw_sl0_rf, jw_sl0_scr, List.replicate]) (by simp [jw_sl0_nil, jw_sl0_int, jw_sl0_long, jw_sl0_ref, jw_sl0_rf, jw_sl0_scr]) (l_X12_textRow hq)


/-! X12_open -/
noncomputable def g_X12_open_b5 (k5 : jw_H → Nat → Int32 → Int32 → Option (Unit × jw_H)) (h : jw_H) (x0 : Nat) (x1 : Int32) (x2 : Int32) : Option (Unit × jw_H) :=
 if x2 ≤ x1 then ((jw_gI h 12 (some x0) 12).bind fun v2 =>
 (jw_pI h 12 (some x0) 12 (v2 + (1 : Int32))).bind fun h3 =>
 some ((), h3))
 else ((jw_rc h 12 (some x0)).bind fun a4 =>
 jw_b2 (f_X12_copyRow h a4 (((0 : Int32) + x2) - (1 : Int32)) ((0 : Int32) + x2)) fun w6 h5 =>
 (jw_gR h5 12 (some x0) 7).bind fun v7 =>
 (jw_gR h5 12 (some x0) 7).bind fun v8 =>
 (jw_ai h5 20 v8 (x2 - (1 : Int32))).bind fun v9 =>
 (jw_si h5 20 v7 x2 v9).bind fun h10 =>
 k5 h10 x0 x1 (x2 + (-1 : Int32)))

noncomputable def f_X12_open_b5 (n : Nat) : jw_H → Nat → Int32 → Int32 → Option (Unit × jw_H) :=
 Nat.rec (fun _ _ _ _ => none) (fun _ k5 => g_X12_open_b5 k5) n

noncomputable def f_X12_open (h : jw_H) (x0 : Nat) (x1 : Int32) : Option (Unit × jw_H) :=
 (jw_gI h 12 (some x0) 12).bind fun v1 =>
 f_X12_open_b5  jw_FU h x0 x1 v1

set_option maxRecDepth 100000 in
set_option maxHeartbeats 4000000 in
theorem l_X12_open_b5g {hi : jw_H} {k5 : jw_H → Nat → Int32 → Int32 → Option (Unit × jw_H)} (hk5 : ∀ (h : jw_H) (x0 : Nat) (x1 : Int32) (x2 : Int32) (r : Unit) (h' : jw_H), k5 h x0 x1 x2 = some (r, h') → jw_E 1 uX12_open hi 5 [some (.ref x0), some (.int x1), some (.int x2)] [] h (.inl none) h') {h : jw_H} {x0 : Nat} {x1 : Int32} {x2 : Int32} {r : Unit} {h' : jw_H} (hq : g_X12_open_b5 k5 h x0 x1 x2 = some (r, h')) : jw_E 1 uX12_open hi 5 [some (.ref x0), some (.int x1), some (.int x2)] [] h (.inl none) h' := by
  unfold g_X12_open_b5 at hq
  refine jw_iload_n dX12_open_5 rfl ?_
  refine jw_iload_n dX12_open_6 rfl ?_
  rcases jw_if hq with ⟨c1, hq⟩ | ⟨c1, hq⟩
  · refine jw_icmp_le_t (tgt := 42) dX12_open_7 (by decide) c1 ?_
    refine jw_aload_n dX12_open_42 (o := (some x0)) rfl ?_
    refine jw_dup dX12_open_43 rfl ?_
    obtain ⟨v2, ev2, hq⟩ := Option.bind_eq_some_iff.mp hq
    refine jw_getI (o := (some x0)) dX12_open_44 ev2 fl_X12_124 rfl ?_
    refine jw_iconst dX12_open_47 (v := (1 : Int32)) (by decide) ?_
    refine jw_iadd dX12_open_48 ?_
    obtain ⟨h3, eh3, hq⟩ := Option.bind_eq_some_iff.mp hq
    refine jw_putI (o := (some x0)) dX12_open_49 eh3 fl_X12_124 rfl rfl ?_
    cases hq
    exact jw_vret dX12_open_52 rfl
  · refine jw_icmp_le_f (tgt := 42) dX12_open_7 (by decide) c1 ?_
    refine jw_aload_n dX12_open_10 (o := (some x0)) rfl ?_
    refine jw_iconst dX12_open_11 (v := (0 : Int32)) (by decide) ?_
    refine jw_iload_n dX12_open_12 rfl ?_
    refine jw_iadd dX12_open_13 ?_
    refine jw_iconst dX12_open_14 (v := (1 : Int32)) (by decide) ?_
    refine jw_isub dX12_open_15 ?_
    refine jw_iconst dX12_open_16 (v := (0 : Int32)) (by decide) ?_
    refine jw_iload_n dX12_open_17 rfl ?_
    refine jw_iadd dX12_open_18 ?_
    obtain ⟨a4, ea4, hq⟩ := Option.bind_eq_some_iff.mp hq
    obtain ⟨eoa4, eta4⟩ := jw_rc_spec ea4
    obtain ⟨w6, h5, ew6, hq⟩ := jw_b2_spec hq
    refine jw_callV (As := [.int (((0 : Int32) + x2) - (1 : Int32)), .int ((0 : Int32) + x2)]) (S := []) (a := a4) (v := none) dX12_open_19 mt_X12_copyRow in_X12_copyRow se_X12_copyRow lk_X12_127 (c_X12_copyRow ew6) eta4 (by decide) rfl rfl (by decide) (Nat.le_of_ble_eq_true rfl) (by cases eoa4; rfl) ?_
    refine jw_aload_n dX12_open_22 (o := (some x0)) rfl ?_
    obtain ⟨v7, ev7, hq⟩ := Option.bind_eq_some_iff.mp hq
    refine jw_getR (o := (some x0)) dX12_open_23 ev7 fl_X12_26 rfl ?_
    refine jw_iload_n dX12_open_26 rfl ?_
    refine jw_aload_n dX12_open_27 (o := (some x0)) rfl ?_
    obtain ⟨v8, ev8, hq⟩ := Option.bind_eq_some_iff.mp hq
    refine jw_getR (o := (some x0)) dX12_open_28 ev8 fl_X12_26 rfl ?_
    refine jw_iload_n dX12_open_31 rfl ?_
    refine jw_iconst dX12_open_32 (v := (1 : Int32)) (by decide) ?_
    refine jw_isub dX12_open_33 ?_
    obtain ⟨v9, ev9, hq⟩ := Option.bind_eq_some_iff.mp hq
    refine jw_iald (o := v8) dX12_open_34 ev9 ?_
    obtain ⟨h10, eh10, hq⟩ := Option.bind_eq_some_iff.mp hq
    refine jw_iast (o := v7) dX12_open_35 eh10 ?_
    refine jw_iinc (L' := [some (.ref x0), some (.int x1), some (.int (x2 + (-1 : Int32)))]) dX12_open_36 rfl (v := (-1 : Int32)) (by decide) (Nat.le_of_ble_eq_true rfl) rfl ?_
    refine jw_goto (tgt := 5) dX12_open_39 (by decide) ?_
    exact hk5 _ _ _ _ _ _ hq

theorem l_X12_open_b5 {hi : jw_H} : ∀ (n : Nat) (h : jw_H) (x0 : Nat) (x1 : Int32) (x2 : Int32) (r : Unit) (h' : jw_H), f_X12_open_b5  n h x0 x1 x2 = some (r, h') → jw_E 1 uX12_open hi 5 [some (.ref x0), some (.int x1), some (.int x2)] [] h (.inl none) h' := by
  intro n
  induction n with
  | zero => intro h x0 x1 x2 r h' hq; exact nomatch hq
  | succ n ih => intro h x0 x1 x2 r h' hq; exact l_X12_open_b5g ih hq

set_option maxRecDepth 100000 in
set_option maxHeartbeats 4000000 in
theorem l_X12_open {hi : jw_H} {h : jw_H} {x0 : Nat} {x1 : Int32} {r : Unit} {h' : jw_H} (hq : f_X12_open  h x0 x1 = some (r, h')) : jw_E 1 uX12_open hi 0 [some (.ref x0), some (.int x1), none] [] h (.inl none) h' := by
  unfold f_X12_open at hq
  refine jw_aload_n dX12_open_0 (o := (some x0)) rfl ?_
  obtain ⟨v1, ev1, hq⟩ := Option.bind_eq_some_iff.mp hq
  refine jw_getI (o := (some x0)) dX12_open_1 ev1 fl_X12_124 rfl ?_
  refine jw_istore_n (L' := [some (.ref x0), some (.int x1), some (.int v1)]) dX12_open_4 (Nat.le_of_ble_eq_true rfl) rfl ?_
  exact l_X12_open_b5  jw_FU _ _ _ _ _ _ hq

theorem c_X12_open {h : jw_H} {x0 : Nat} {x1 : Int32} {r : Unit} {h' : jw_H} (hq : f_X12_open h x0 x1 = some (r, h')) : jw_Con (Cond.code yX12_open cX12_open 3 none) yX12_open 1 [.ref x0, .int x1] h (.inl none) h' :=
  jw_con false (plainFor_of_name (by decide +kernel)) (fun z => nomatch z) (by simp [jw_ent, jw_sl0_nil, jw_sl0_int, jw_sl0_long, jw_sl0_ref, jw_sl0_rf, jw_sl0_scr, List.replicate]) (by simp [jw_sl0_nil, jw_sl0_int, jw_sl0_long, jw_sl0_ref, jw_sl0_rf, jw_sl0_scr]) (l_X12_open hq)


/-! X12_close -/
noncomputable def g_X12_close_b2 (k2 : jw_H → Nat → Int32 → Option (Unit × jw_H)) (h : jw_H) (x0 : Nat) (x2 : Int32) : Option (Unit × jw_H) :=
 (jw_gI h 12 (some x0) 12).bind fun v1 =>
 if v1 ≤ x2 then ((jw_gI h 12 (some x0) 12).bind fun v3 =>
 (jw_pI h 12 (some x0) 12 (v3 - (1 : Int32))).bind fun h4 =>
 some ((), h4))
 else ((jw_rc h 12 (some x0)).bind fun a5 =>
 jw_b2 (f_X12_copyRow h a5 ((0 : Int32) + x2) (((0 : Int32) + x2) - (1 : Int32))) fun w7 h6 =>
 (jw_gR h6 12 (some x0) 7).bind fun v8 =>
 (jw_gR h6 12 (some x0) 7).bind fun v9 =>
 (jw_ai h6 20 v9 x2).bind fun v10 =>
 (jw_si h6 20 v8 (x2 - (1 : Int32)) v10).bind fun h11 =>
 k2 h11 x0 (x2 + (1 : Int32)))

noncomputable def f_X12_close_b2 (n : Nat) : jw_H → Nat → Int32 → Option (Unit × jw_H) :=
 Nat.rec (fun _ _ _ => none) (fun _ k2 => g_X12_close_b2 k2) n

noncomputable def f_X12_close (h : jw_H) (x0 : Nat) (x1 : Int32) : Option (Unit × jw_H) :=
 f_X12_close_b2  jw_FU h x0 x1

set_option maxRecDepth 100000 in
set_option maxHeartbeats 4000000 in
theorem l_X12_close_b2g {hi : jw_H} {k2 : jw_H → Nat → Int32 → Option (Unit × jw_H)} (hk2 : ∀ (h : jw_H) (x0 : Nat) (x2 : Int32) (r : Unit) (h' : jw_H), k2 h x0 x2 = some (r, h') → jw_E 1 uX12_close hi 2 [some (.ref x0), none, some (.int x2)] [] h (.inl none) h') {h : jw_H} {x0 : Nat} {x2 : Int32} {r : Unit} {h' : jw_H} (hq : g_X12_close_b2 k2 h x0 x2 = some (r, h')) : jw_E 1 uX12_close hi 2 [some (.ref x0), none, some (.int x2)] [] h (.inl none) h' := by
  unfold g_X12_close_b2 at hq
  refine jw_iload_n dX12_close_2 rfl ?_
  refine jw_aload_n dX12_close_3 (o := (some x0)) rfl ?_
  obtain ⟨v1, ev1, hq⟩ := Option.bind_eq_some_iff.mp hq
  refine jw_getI (o := (some x0)) dX12_close_4 ev1 fl_X12_124 rfl ?_
  rcases jw_if hq with ⟨c2, hq⟩ | ⟨c2, hq⟩
  · refine jw_icmp_ge_t (tgt := 42) dX12_close_7 (by decide) c2 ?_
    refine jw_aload_n dX12_close_42 (o := (some x0)) rfl ?_
    refine jw_dup dX12_close_43 rfl ?_
    obtain ⟨v3, ev3, hq⟩ := Option.bind_eq_some_iff.mp hq
    refine jw_getI (o := (some x0)) dX12_close_44 ev3 fl_X12_124 rfl ?_
    refine jw_iconst dX12_close_47 (v := (1 : Int32)) (by decide) ?_
    refine jw_isub dX12_close_48 ?_
    obtain ⟨h4, eh4, hq⟩ := Option.bind_eq_some_iff.mp hq
    refine jw_putI (o := (some x0)) dX12_close_49 eh4 fl_X12_124 rfl rfl ?_
    cases hq
    exact jw_vret dX12_close_52 rfl
  · refine jw_icmp_ge_f (tgt := 42) dX12_close_7 (by decide) c2 ?_
    refine jw_aload_n dX12_close_10 (o := (some x0)) rfl ?_
    refine jw_iconst dX12_close_11 (v := (0 : Int32)) (by decide) ?_
    refine jw_iload_n dX12_close_12 rfl ?_
    refine jw_iadd dX12_close_13 ?_
    refine jw_iconst dX12_close_14 (v := (0 : Int32)) (by decide) ?_
    refine jw_iload_n dX12_close_15 rfl ?_
    refine jw_iadd dX12_close_16 ?_
    refine jw_iconst dX12_close_17 (v := (1 : Int32)) (by decide) ?_
    refine jw_isub dX12_close_18 ?_
    obtain ⟨a5, ea5, hq⟩ := Option.bind_eq_some_iff.mp hq
    obtain ⟨eoa5, eta5⟩ := jw_rc_spec ea5
    obtain ⟨w7, h6, ew7, hq⟩ := jw_b2_spec hq
    refine jw_callV (As := [.int ((0 : Int32) + x2), .int (((0 : Int32) + x2) - (1 : Int32))]) (S := []) (a := a5) (v := none) dX12_close_19 mt_X12_copyRow in_X12_copyRow se_X12_copyRow lk_X12_127 (c_X12_copyRow ew7) eta5 (by decide) rfl rfl (by decide) (Nat.le_of_ble_eq_true rfl) (by cases eoa5; rfl) ?_
    refine jw_aload_n dX12_close_22 (o := (some x0)) rfl ?_
    obtain ⟨v8, ev8, hq⟩ := Option.bind_eq_some_iff.mp hq
    refine jw_getR (o := (some x0)) dX12_close_23 ev8 fl_X12_26 rfl ?_
    refine jw_iload_n dX12_close_26 rfl ?_
    refine jw_iconst dX12_close_27 (v := (1 : Int32)) (by decide) ?_
    refine jw_isub dX12_close_28 ?_
    refine jw_aload_n dX12_close_29 (o := (some x0)) rfl ?_
    obtain ⟨v9, ev9, hq⟩ := Option.bind_eq_some_iff.mp hq
    refine jw_getR (o := (some x0)) dX12_close_30 ev9 fl_X12_26 rfl ?_
    refine jw_iload_n dX12_close_33 rfl ?_
    obtain ⟨v10, ev10, hq⟩ := Option.bind_eq_some_iff.mp hq
    refine jw_iald (o := v9) dX12_close_34 ev10 ?_
    obtain ⟨h11, eh11, hq⟩ := Option.bind_eq_some_iff.mp hq
    refine jw_iast (o := v8) dX12_close_35 eh11 ?_
    refine jw_iinc (L' := [some (.ref x0), none, some (.int (x2 + (1 : Int32)))]) dX12_close_36 rfl (v := (1 : Int32)) (by decide) (Nat.le_of_ble_eq_true rfl) rfl ?_
    refine jw_goto (tgt := 2) dX12_close_39 (by decide) ?_
    exact hk2 _ _ _ _ _ hq

theorem l_X12_close_b2 {hi : jw_H} : ∀ (n : Nat) (h : jw_H) (x0 : Nat) (x2 : Int32) (r : Unit) (h' : jw_H), f_X12_close_b2  n h x0 x2 = some (r, h') → jw_E 1 uX12_close hi 2 [some (.ref x0), none, some (.int x2)] [] h (.inl none) h' := by
  intro n
  induction n with
  | zero => intro h x0 x2 r h' hq; exact nomatch hq
  | succ n ih => intro h x0 x2 r h' hq; exact l_X12_close_b2g ih hq

set_option maxRecDepth 100000 in
set_option maxHeartbeats 4000000 in
theorem l_X12_close {hi : jw_H} {h : jw_H} {x0 : Nat} {x1 : Int32} {r : Unit} {h' : jw_H} (hq : f_X12_close  h x0 x1 = some (r, h')) : jw_E 1 uX12_close hi 0 [some (.ref x0), some (.int x1), none] [] h (.inl none) h' := by
  unfold f_X12_close at hq
  refine jw_iload_n dX12_close_0 rfl ?_
  refine jw_istore_n (L' := [some (.ref x0), some (.int x1), some (.int x1)]) dX12_close_1 (Nat.le_of_ble_eq_true rfl) rfl ?_
  refine jw_forget [true, false, true] (L' := [some (.ref x0), none, some (.int x1)]) rfl ?_
  exact l_X12_close_b2  jw_FU _ _ _ _ _ hq

theorem c_X12_close {h : jw_H} {x0 : Nat} {x1 : Int32} {r : Unit} {h' : jw_H} (hq : f_X12_close h x0 x1 = some (r, h')) : jw_Con (Cond.code yX12_close cX12_close 3 none) yX12_close 1 [.ref x0, .int x1] h (.inl none) h' :=
  jw_con false (plainFor_of_name (by decide +kernel)) (fun z => nomatch z) (by simp [jw_ent, jw_sl0_nil, jw_sl0_int, jw_sl0_long, jw_sl0_ref, jw_sl0_rf, jw_sl0_scr, List.replicate]) (by simp [jw_sl0_nil, jw_sl0_int, jw_sl0_long, jw_sl0_ref, jw_sl0_rf, jw_sl0_scr]) (l_X12_close hq)


/-! X12_bring -/
noncomputable def f_X12_bring (h : jw_H) (x0 : Nat) (x1 : Int32) (x2 : Int32) : Option (Unit × jw_H) :=
 (jw_rc h 12 (some x0)).bind fun a1 =>
 jw_b2 (f_X12_open h a1 x2) fun w3 h2 =>
 (jw_rc h2 12 (some x0)).bind fun a4 =>
 jw_b2 (f_X12_copyRow h2 a4 x1 ((0 : Int32) + x2)) fun w6 h5 =>
 (jw_gR h5 12 (some x0) 7).bind fun v7 =>
 (jw_gI h5 12 (some x0) 17).bind fun v8 =>
 (jw_si h5 20 v7 x2 v8).bind fun h9 =>
 (jw_gI h9 12 (some x0) 17).bind fun v10 =>
 (jw_pI h9 12 (some x0) 17 (v10 + (1 : Int32))).bind fun h11 =>
 some ((), h11)

set_option maxRecDepth 100000 in
set_option maxHeartbeats 4000000 in
theorem l_X12_bring {hi : jw_H} {h : jw_H} {x0 : Nat} {x1 : Int32} {x2 : Int32} {r : Unit} {h' : jw_H} (hq : f_X12_bring  h x0 x1 x2 = some (r, h')) : jw_E 2 uX12_bring hi 0 [some (.ref x0), some (.int x1), some (.int x2)] [] h (.inl none) h' := by
  unfold f_X12_bring at hq
  refine jw_aload_n dX12_bring_0 (o := (some x0)) rfl ?_
  refine jw_iload_n dX12_bring_1 rfl ?_
  obtain ⟨a1, ea1, hq⟩ := Option.bind_eq_some_iff.mp hq
  obtain ⟨eoa1, eta1⟩ := jw_rc_spec ea1
  obtain ⟨w3, h2, ew3, hq⟩ := jw_b2_spec hq
  refine jw_callV (As := [.int x2]) (S := []) (a := a1) (v := none) dX12_bring_2 mt_X12_open in_X12_open se_X12_open lk_X12_131 (c_X12_open ew3) eta1 (by decide) rfl rfl (by decide) (Nat.le_of_ble_eq_true rfl) (by cases eoa1; rfl) ?_
  refine jw_aload_n dX12_bring_5 (o := (some x0)) rfl ?_
  refine jw_iload_n dX12_bring_6 rfl ?_
  refine jw_iconst dX12_bring_7 (v := (0 : Int32)) (by decide) ?_
  refine jw_iload_n dX12_bring_8 rfl ?_
  refine jw_iadd dX12_bring_9 ?_
  obtain ⟨a4, ea4, hq⟩ := Option.bind_eq_some_iff.mp hq
  obtain ⟨eoa4, eta4⟩ := jw_rc_spec ea4
  obtain ⟨w6, h5, ew6, hq⟩ := jw_b2_spec hq
  refine jw_callV (As := [.int x1, .int ((0 : Int32) + x2)]) (S := []) (a := a4) (v := none) dX12_bring_10 mt_X12_copyRow in_X12_copyRow se_X12_copyRow lk_X12_127 (c_X12_copyRow ew6) eta4 (by decide) rfl rfl (by decide) (Nat.le_of_ble_eq_true rfl) (by cases eoa4; rfl) ?_
  refine jw_aload_n dX12_bring_13 (o := (some x0)) rfl ?_
  obtain ⟨v7, ev7, hq⟩ := Option.bind_eq_some_iff.mp hq
  refine jw_getR (o := (some x0)) dX12_bring_14 ev7 fl_X12_26 rfl ?_
  refine jw_iload_n dX12_bring_17 rfl ?_
  refine jw_aload_n dX12_bring_18 (o := (some x0)) rfl ?_
  obtain ⟨v8, ev8, hq⟩ := Option.bind_eq_some_iff.mp hq
  refine jw_getI (o := (some x0)) dX12_bring_19 ev8 fl_X12_134 rfl ?_
  obtain ⟨h9, eh9, hq⟩ := Option.bind_eq_some_iff.mp hq
  refine jw_iast (o := v7) dX12_bring_22 eh9 ?_
  refine jw_aload_n dX12_bring_23 (o := (some x0)) rfl ?_
  refine jw_dup dX12_bring_24 rfl ?_
  obtain ⟨v10, ev10, hq⟩ := Option.bind_eq_some_iff.mp hq
  refine jw_getI (o := (some x0)) dX12_bring_25 ev10 fl_X12_134 rfl ?_
  refine jw_iconst dX12_bring_28 (v := (1 : Int32)) (by decide) ?_
  refine jw_iadd dX12_bring_29 ?_
  obtain ⟨h11, eh11, hq⟩ := Option.bind_eq_some_iff.mp hq
  refine jw_putI (o := (some x0)) dX12_bring_30 eh11 fl_X12_134 rfl rfl ?_
  cases hq
  exact jw_vret dX12_bring_33 rfl

theorem c_X12_bring {h : jw_H} {x0 : Nat} {x1 : Int32} {x2 : Int32} {r : Unit} {h' : jw_H} (hq : f_X12_bring h x0 x1 x2 = some (r, h')) : jw_Con (Cond.code yX12_bring cX12_bring 3 none) yX12_bring 2 [.ref x0, .int x1, .int x2] h (.inl none) h' :=
  jw_con false (plainFor_of_name (by decide +kernel)) (fun z => nomatch z) (by simp [jw_ent, jw_sl0_nil, jw_sl0_int, jw_sl0_long, jw_sl0_ref, jw_sl0_rf, jw_sl0_scr, List.replicate]) (by simp [jw_sl0_nil, jw_sl0_int, jw_sl0_long, jw_sl0_ref, jw_sl0_rf, jw_sl0_scr]) (l_X12_bring hq)

