/-! X12_ordersFault -/
noncomputable def g_X12_ordersFault_b69 (h : jw_H) (x0 : Nat) : Option (Int32 × jw_H) :=
 (jw_gI h 12 (some x0) 24).bind fun v1 =>
 some (v1, h)

noncomputable def g_X12_ordersFault_b47 (h : jw_H) (x0 : Nat) : Option (Int32 × jw_H) :=
 (jw_gI h 12 (some x0) 24).bind fun v1 =>
 if 0 ≤ v1 then (g_X12_ordersFault_b69  h x0)
 else ((jw_gI h 12 (some x0) 23).bind fun v3 =>
 (jw_gI h 12 (some x0) 22).bind fun v4 =>
 if v4 ≤ v3 then (g_X12_ordersFault_b69  h x0)
 else ((jw_rc h 12 (some x0)).bind fun a6 =>
 jw_b2 (f_X12_fail h a6) fun w8 h7 =>
 g_X12_ordersFault_b69  h7 x0))

noncomputable def g_X12_ordersFault_b14 (k14 : jw_H → Nat → Option (Int32 × jw_H)) (h : jw_H) (x0 : Nat) : Option (Int32 × jw_H) :=
 (jw_gI h 12 (some x0) 24).bind fun v1 =>
 if 0 ≤ v1 then (g_X12_ordersFault_b47  h x0)
 else ((jw_rc h 12 (some x0)).bind fun a3 =>
 jw_b2 (f_X12_c h a3) fun w5 h4 =>
 if w5 = (59 : Int32) then ((jw_gI h4 12 (some x0) 23).bind fun v7 =>
 (jw_pI h4 12 (some x0) 23 (v7 + (1 : Int32))).bind fun h8 =>
 (jw_rc h8 12 (some x0)).bind fun a9 =>
 jw_b2 (f_X12_order h8 a9) fun w11 h10 =>
 k14 h10 x0)
 else (g_X12_ordersFault_b47  h4 x0))

noncomputable def f_X12_ordersFault_b14 (n : Nat) : jw_H → Nat → Option (Int32 × jw_H) :=
 Nat.rec (fun _ _ => none) (fun _ k14 => g_X12_ordersFault_b14 k14) n

noncomputable def f_X12_ordersFault (h : jw_H) (x0 : Nat) : Option (Int32 × jw_H) :=
 (jw_pI h 12 (some x0) 23 (0 : Int32)).bind fun h1 =>
 (jw_pI h1 12 (some x0) 24 (-1 : Int32)).bind fun h2 =>
 (jw_rc h2 12 (some x0)).bind fun a3 =>
 jw_b2 (f_X12_order h2 a3) fun w5 h4 =>
 f_X12_ordersFault_b14  jw_FU h4 x0

set_option maxRecDepth 100000 in
set_option maxHeartbeats 4000000 in
theorem l_X12_ordersFault_b69 {hi : jw_H} {h : jw_H} {x0 : Nat} {r : Int32} {h' : jw_H} (hq : g_X12_ordersFault_b69  h x0 = some (r, h')) : jw_E 13 uX12_ordersFault hi 69 [some (.ref x0)] [] h (.inl (some (.int r))) h' := by
  unfold g_X12_ordersFault_b69 at hq
  refine jw_aload_n dX12_ordersFault_69 (o := (some x0)) rfl ?_
  obtain ⟨v1, ev1, hq⟩ := Option.bind_eq_some_iff.mp hq
  refine jw_getI (o := (some x0)) dX12_ordersFault_70 ev1 fl_X12_156 rfl ?_
  cases hq
  exact jw_iret (ty := .int) dX12_ordersFault_73 rfl rfl

set_option maxRecDepth 100000 in
set_option maxHeartbeats 4000000 in
theorem l_X12_ordersFault_b47 {hi : jw_H} {h : jw_H} {x0 : Nat} {r : Int32} {h' : jw_H} (hq : g_X12_ordersFault_b47  h x0 = some (r, h')) : jw_E 13 uX12_ordersFault hi 47 [some (.ref x0)] [] h (.inl (some (.int r))) h' := by
  unfold g_X12_ordersFault_b47 at hq
  refine jw_aload_n dX12_ordersFault_47 (o := (some x0)) rfl ?_
  obtain ⟨v1, ev1, hq⟩ := Option.bind_eq_some_iff.mp hq
  refine jw_getI (o := (some x0)) dX12_ordersFault_48 ev1 fl_X12_156 rfl ?_
  rcases jw_if hq with ⟨c2, hq⟩ | ⟨c2, hq⟩
  · refine jw_if_ge_t (tgt := 69) dX12_ordersFault_51 (by decide) c2 ?_
    exact l_X12_ordersFault_b69  hq
  · refine jw_if_ge_f (tgt := 69) dX12_ordersFault_51 (by decide) c2 ?_
    refine jw_aload_n dX12_ordersFault_54 (o := (some x0)) rfl ?_
    obtain ⟨v3, ev3, hq⟩ := Option.bind_eq_some_iff.mp hq
    refine jw_getI (o := (some x0)) dX12_ordersFault_55 ev3 fl_X12_149 rfl ?_
    refine jw_aload_n dX12_ordersFault_58 (o := (some x0)) rfl ?_
    obtain ⟨v4, ev4, hq⟩ := Option.bind_eq_some_iff.mp hq
    refine jw_getI (o := (some x0)) dX12_ordersFault_59 ev4 fl_X12_146 rfl ?_
    rcases jw_if hq with ⟨c5, hq⟩ | ⟨c5, hq⟩
    · refine jw_icmp_ge_t (tgt := 69) dX12_ordersFault_62 (by decide) c5 ?_
      exact l_X12_ordersFault_b69  hq
    · refine jw_icmp_ge_f (tgt := 69) dX12_ordersFault_62 (by decide) c5 ?_
      refine jw_aload_n dX12_ordersFault_65 (o := (some x0)) rfl ?_
      obtain ⟨a6, ea6, hq⟩ := Option.bind_eq_some_iff.mp hq
      obtain ⟨eoa6, eta6⟩ := jw_rc_spec ea6
      obtain ⟨w8, h7, ew8, hq⟩ := jw_b2_spec hq
      refine jw_callV (As := []) (S := []) (a := a6) (v := none) dX12_ordersFault_66 mt_X12_fail in_X12_fail se_X12_fail lk_X12_159 (c_X12_fail ew8) eta6 (by decide) rfl rfl (by decide) (Nat.le_of_ble_eq_true rfl) (by cases eoa6; rfl) ?_
      exact l_X12_ordersFault_b69  hq

set_option maxRecDepth 100000 in
set_option maxHeartbeats 4000000 in
theorem l_X12_ordersFault_b14g {hi : jw_H} {k14 : jw_H → Nat → Option (Int32 × jw_H)} (hk14 : ∀ (h : jw_H) (x0 : Nat) (r : Int32) (h' : jw_H), k14 h x0 = some (r, h') → jw_E 13 uX12_ordersFault hi 14 [some (.ref x0)] [] h (.inl (some (.int r))) h') {h : jw_H} {x0 : Nat} {r : Int32} {h' : jw_H} (hq : g_X12_ordersFault_b14 k14 h x0 = some (r, h')) : jw_E 13 uX12_ordersFault hi 14 [some (.ref x0)] [] h (.inl (some (.int r))) h' := by
  unfold g_X12_ordersFault_b14 at hq
  refine jw_aload_n dX12_ordersFault_14 (o := (some x0)) rfl ?_
  obtain ⟨v1, ev1, hq⟩ := Option.bind_eq_some_iff.mp hq
  refine jw_getI (o := (some x0)) dX12_ordersFault_15 ev1 fl_X12_156 rfl ?_
  rcases jw_if hq with ⟨c2, hq⟩ | ⟨c2, hq⟩
  · refine jw_if_ge_t (tgt := 47) dX12_ordersFault_18 (by decide) c2 ?_
    exact l_X12_ordersFault_b47  hq
  · refine jw_if_ge_f (tgt := 47) dX12_ordersFault_18 (by decide) c2 ?_
    refine jw_aload_n dX12_ordersFault_21 (o := (some x0)) rfl ?_
    obtain ⟨a3, ea3, hq⟩ := Option.bind_eq_some_iff.mp hq
    obtain ⟨eoa3, eta3⟩ := jw_rc_spec ea3
    obtain ⟨w5, h4, ew5, hq⟩ := jw_b2_spec hq
    refine jw_callV (As := []) (S := []) (a := a3) (v := some (.int w5)) dX12_ordersFault_22 mt_X12_c in_X12_c se_X12_c lk_X12_162 (c_X12_c ew5) eta3 (by decide) rfl rfl (by decide) (Nat.le_of_ble_eq_true rfl) (by cases eoa3; rfl) ?_
    refine jw_bipush dX12_ordersFault_25 (v := (59 : Int32)) (by decide) ?_
    rcases jw_if hq with ⟨c6, hq⟩ | ⟨c6, hq⟩
    · refine jw_icmp_ne_f (tgt := 47) dX12_ordersFault_27 (by decide) c6 ?_
      refine jw_aload_n dX12_ordersFault_30 (o := (some x0)) rfl ?_
      refine jw_dup dX12_ordersFault_31 rfl ?_
      obtain ⟨v7, ev7, hq⟩ := Option.bind_eq_some_iff.mp hq
      refine jw_getI (o := (some x0)) dX12_ordersFault_32 ev7 fl_X12_149 rfl ?_
      refine jw_iconst dX12_ordersFault_35 (v := (1 : Int32)) (by decide) ?_
      refine jw_iadd dX12_ordersFault_36 ?_
      obtain ⟨h8, eh8, hq⟩ := Option.bind_eq_some_iff.mp hq
      refine jw_putI (o := (some x0)) dX12_ordersFault_37 eh8 fl_X12_149 rfl rfl ?_
      refine jw_aload_n dX12_ordersFault_40 (o := (some x0)) rfl ?_
      obtain ⟨a9, ea9, hq⟩ := Option.bind_eq_some_iff.mp hq
      obtain ⟨eoa9, eta9⟩ := jw_rc_spec ea9
      obtain ⟨w11, h10, ew11, hq⟩ := jw_b2_spec hq
      refine jw_callV (As := []) (S := []) (a := a9) (v := none) dX12_ordersFault_41 mt_X12_order in_X12_order se_X12_order lk_X12_249 (c_X12_order ew11) eta9 (by decide) rfl rfl (by decide) (Nat.le_of_ble_eq_true rfl) (by cases eoa9; rfl) ?_
      refine jw_goto (tgt := 14) dX12_ordersFault_44 (by decide) ?_
      exact hk14 _ _ _ _ hq
    · refine jw_icmp_ne_t (tgt := 47) dX12_ordersFault_27 (by decide) c6 ?_
      exact l_X12_ordersFault_b47  hq

theorem l_X12_ordersFault_b14 {hi : jw_H} : ∀ (n : Nat) (h : jw_H) (x0 : Nat) (r : Int32) (h' : jw_H), f_X12_ordersFault_b14  n h x0 = some (r, h') → jw_E 13 uX12_ordersFault hi 14 [some (.ref x0)] [] h (.inl (some (.int r))) h' := by
  intro n
  induction n with
  | zero => intro h x0 r h' hq; exact nomatch hq
  | succ n ih => intro h x0 r h' hq; exact l_X12_ordersFault_b14g ih hq

set_option maxRecDepth 100000 in
set_option maxHeartbeats 4000000 in
theorem l_X12_ordersFault {hi : jw_H} {h : jw_H} {x0 : Nat} {r : Int32} {h' : jw_H} (hq : f_X12_ordersFault  h x0 = some (r, h')) : jw_E 13 uX12_ordersFault hi 0 [some (.ref x0)] [] h (.inl (some (.int r))) h' := by
  unfold f_X12_ordersFault at hq
  refine jw_aload_n dX12_ordersFault_0 (o := (some x0)) rfl ?_
  refine jw_iconst dX12_ordersFault_1 (v := (0 : Int32)) (by decide) ?_
  obtain ⟨h1, eh1, hq⟩ := Option.bind_eq_some_iff.mp hq
  refine jw_putI (o := (some x0)) dX12_ordersFault_2 eh1 fl_X12_149 rfl rfl ?_
  refine jw_aload_n dX12_ordersFault_5 (o := (some x0)) rfl ?_
  refine jw_iconst dX12_ordersFault_6 (v := (-1 : Int32)) (by decide) ?_
  obtain ⟨h2, eh2, hq⟩ := Option.bind_eq_some_iff.mp hq
  refine jw_putI (o := (some x0)) dX12_ordersFault_7 eh2 fl_X12_156 rfl rfl ?_
  refine jw_aload_n dX12_ordersFault_10 (o := (some x0)) rfl ?_
  obtain ⟨a3, ea3, hq⟩ := Option.bind_eq_some_iff.mp hq
  obtain ⟨eoa3, eta3⟩ := jw_rc_spec ea3
  obtain ⟨w5, h4, ew5, hq⟩ := jw_b2_spec hq
  refine jw_callV (As := []) (S := []) (a := a3) (v := none) dX12_ordersFault_11 mt_X12_order in_X12_order se_X12_order lk_X12_249 (c_X12_order ew5) eta3 (by decide) rfl rfl (by decide) (Nat.le_of_ble_eq_true rfl) (by cases eoa3; rfl) ?_
  exact l_X12_ordersFault_b14  jw_FU _ _ _ _ hq

theorem c_X12_ordersFault {h : jw_H} {x0 : Nat} {r : Int32} {h' : jw_H} (hq : f_X12_ordersFault h x0 = some (r, h')) : jw_Con (Cond.code yX12_ordersFault cX12_ordersFault 1 (some .int)) yX12_ordersFault 13 [.ref x0] h (.inl (some (.int r))) h' :=
  jw_con false (plainFor_of_name (by decide +kernel)) (fun z => nomatch z) (by simp [jw_ent, jw_sl0_nil, jw_sl0_int, jw_sl0_long, jw_sl0_ref, jw_sl0_rf, jw_sl0_scr, List.replicate]) (by simp [jw_sl0_nil, jw_sl0_int, jw_sl0_long, jw_sl0_ref, jw_sl0_rf, jw_sl0_scr]) (l_X12_ordersFault hq)


/-! X12_patternsFault -/
noncomputable def g_X12_patternsFault_b37 (h : jw_H) (x0 : Nat) : Option (Int32 × jw_H) :=
 (jw_gI h 12 (some x0) 24).bind fun v1 =>
 some (v1, h)

noncomputable def f_X12_patternsFault (h : jw_H) (x0 : Nat) : Option (Int32 × jw_H) :=
 (jw_pI h 12 (some x0) 23 (0 : Int32)).bind fun h1 =>
 (jw_pI h1 12 (some x0) 24 (-1 : Int32)).bind fun h2 =>
 (jw_rc h2 12 (some x0)).bind fun a3 =>
 jw_b2 (f_X12_pattern h2 a3 (0 : Int32)) fun w5 h4 =>
 (jw_gI h4 12 (some x0) 24).bind fun v6 =>
 if 0 ≤ v6 then (g_X12_patternsFault_b37  h4 x0)
 else ((jw_gI h4 12 (some x0) 23).bind fun v8 =>
 (jw_gI h4 12 (some x0) 22).bind fun v9 =>
 if v9 ≤ v8 then (g_X12_patternsFault_b37  h4 x0)
 else ((jw_rc h4 12 (some x0)).bind fun a11 =>
 jw_b2 (f_X12_fail h4 a11) fun w13 h12 =>
 g_X12_patternsFault_b37  h12 x0))

set_option maxRecDepth 100000 in
set_option maxHeartbeats 4000000 in
theorem l_X12_patternsFault_b37 {hi : jw_H} {h : jw_H} {x0 : Nat} {r : Int32} {h' : jw_H} (hq : g_X12_patternsFault_b37  h x0 = some (r, h')) : jw_E 7 uX12_patternsFault hi 37 [some (.ref x0)] [] h (.inl (some (.int r))) h' := by
  unfold g_X12_patternsFault_b37 at hq
  refine jw_aload_n dX12_patternsFault_37 (o := (some x0)) rfl ?_
  obtain ⟨v1, ev1, hq⟩ := Option.bind_eq_some_iff.mp hq
  refine jw_getI (o := (some x0)) dX12_patternsFault_38 ev1 fl_X12_156 rfl ?_
  cases hq
  exact jw_iret (ty := .int) dX12_patternsFault_41 rfl rfl

set_option maxRecDepth 100000 in
set_option maxHeartbeats 4000000 in
theorem l_X12_patternsFault {hi : jw_H} {h : jw_H} {x0 : Nat} {r : Int32} {h' : jw_H} (hq : f_X12_patternsFault  h x0 = some (r, h')) : jw_E 7 uX12_patternsFault hi 0 [some (.ref x0)] [] h (.inl (some (.int r))) h' := by
  unfold f_X12_patternsFault at hq
  refine jw_aload_n dX12_patternsFault_0 (o := (some x0)) rfl ?_
  refine jw_iconst dX12_patternsFault_1 (v := (0 : Int32)) (by decide) ?_
  obtain ⟨h1, eh1, hq⟩ := Option.bind_eq_some_iff.mp hq
  refine jw_putI (o := (some x0)) dX12_patternsFault_2 eh1 fl_X12_149 rfl rfl ?_
  refine jw_aload_n dX12_patternsFault_5 (o := (some x0)) rfl ?_
  refine jw_iconst dX12_patternsFault_6 (v := (-1 : Int32)) (by decide) ?_
  obtain ⟨h2, eh2, hq⟩ := Option.bind_eq_some_iff.mp hq
  refine jw_putI (o := (some x0)) dX12_patternsFault_7 eh2 fl_X12_156 rfl rfl ?_
  refine jw_aload_n dX12_patternsFault_10 (o := (some x0)) rfl ?_
  refine jw_iconst dX12_patternsFault_11 (v := (0 : Int32)) (by decide) ?_
  obtain ⟨a3, ea3, hq⟩ := Option.bind_eq_some_iff.mp hq
  obtain ⟨eoa3, eta3⟩ := jw_rc_spec ea3
  obtain ⟨w5, h4, ew5, hq⟩ := jw_b2_spec hq
  refine jw_callV (As := [.int (0 : Int32)]) (S := []) (a := a3) (v := none) dX12_patternsFault_12 mt_X12_pattern in_X12_pattern se_X12_pattern lk_X12_197 (c_X12_pattern ew5) eta3 (by decide) rfl rfl (by decide) (Nat.le_of_ble_eq_true rfl) (by cases eoa3; rfl) ?_
  refine jw_aload_n dX12_patternsFault_15 (o := (some x0)) rfl ?_
  obtain ⟨v6, ev6, hq⟩ := Option.bind_eq_some_iff.mp hq
  refine jw_getI (o := (some x0)) dX12_patternsFault_16 ev6 fl_X12_156 rfl ?_
  rcases jw_if hq with ⟨c7, hq⟩ | ⟨c7, hq⟩
  · refine jw_if_ge_t (tgt := 37) dX12_patternsFault_19 (by decide) c7 ?_
    exact l_X12_patternsFault_b37  hq
  · refine jw_if_ge_f (tgt := 37) dX12_patternsFault_19 (by decide) c7 ?_
    refine jw_aload_n dX12_patternsFault_22 (o := (some x0)) rfl ?_
    obtain ⟨v8, ev8, hq⟩ := Option.bind_eq_some_iff.mp hq
    refine jw_getI (o := (some x0)) dX12_patternsFault_23 ev8 fl_X12_149 rfl ?_
    refine jw_aload_n dX12_patternsFault_26 (o := (some x0)) rfl ?_
    obtain ⟨v9, ev9, hq⟩ := Option.bind_eq_some_iff.mp hq
    refine jw_getI (o := (some x0)) dX12_patternsFault_27 ev9 fl_X12_146 rfl ?_
    rcases jw_if hq with ⟨c10, hq⟩ | ⟨c10, hq⟩
    · refine jw_icmp_ge_t (tgt := 37) dX12_patternsFault_30 (by decide) c10 ?_
      exact l_X12_patternsFault_b37  hq
    · refine jw_icmp_ge_f (tgt := 37) dX12_patternsFault_30 (by decide) c10 ?_
      refine jw_aload_n dX12_patternsFault_33 (o := (some x0)) rfl ?_
      obtain ⟨a11, ea11, hq⟩ := Option.bind_eq_some_iff.mp hq
      obtain ⟨eoa11, eta11⟩ := jw_rc_spec ea11
      obtain ⟨w13, h12, ew13, hq⟩ := jw_b2_spec hq
      refine jw_callV (As := []) (S := []) (a := a11) (v := none) dX12_patternsFault_34 mt_X12_fail in_X12_fail se_X12_fail lk_X12_159 (c_X12_fail ew13) eta11 (by decide) rfl rfl (by decide) (Nat.le_of_ble_eq_true rfl) (by cases eoa11; rfl) ?_
      exact l_X12_patternsFault_b37  hq

theorem c_X12_patternsFault {h : jw_H} {x0 : Nat} {r : Int32} {h' : jw_H} (hq : f_X12_patternsFault h x0 = some (r, h')) : jw_Con (Cond.code yX12_patternsFault cX12_patternsFault 1 (some .int)) yX12_patternsFault 7 [.ref x0] h (.inl (some (.int r))) h' :=
  jw_con false (plainFor_of_name (by decide +kernel)) (fun z => nomatch z) (by simp [jw_ent, jw_sl0_nil, jw_sl0_int, jw_sl0_long, jw_sl0_ref, jw_sl0_rf, jw_sl0_scr, List.replicate]) (by simp [jw_sl0_nil, jw_sl0_int, jw_sl0_long, jw_sl0_ref, jw_sl0_rf, jw_sl0_scr]) (l_X12_patternsFault hq)


/-! X12_endOf -/
noncomputable def g_X12_endOf_b25 (h : jw_H) (x0 : Nat) : Option (Int32 × jw_H) :=
 (jw_gI h 12 (some x0) 23).bind fun v1 =>
 some (v1, h)

noncomputable def f_X12_endOf (h : jw_H) (x0 : Nat) (x1 : Int32) (x2 : Int32) : Option (Int32 × jw_H) :=
 (jw_pI h 12 (some x0) 23 x1).bind fun h1 =>
 (jw_pI h1 12 (some x0) 24 (-1 : Int32)).bind fun h2 =>
 if x2 = 0 then ((jw_rc h2 12 (some x0)).bind fun a4 =>
 jw_b2 (f_X12_order h2 a4) fun w6 h5 =>
 g_X12_endOf_b25  h5 x0)
 else ((jw_rc h2 12 (some x0)).bind fun a7 =>
 jw_b2 (f_X12_innerOrder h2 a7) fun w9 h8 =>
 g_X12_endOf_b25  h8 x0)

set_option maxRecDepth 100000 in
set_option maxHeartbeats 4000000 in
theorem l_X12_endOf_b25 {hi : jw_H} {h : jw_H} {x0 : Nat} {r : Int32} {h' : jw_H} (hq : g_X12_endOf_b25  h x0 = some (r, h')) : jw_E 13 uX12_endOf hi 25 [some (.ref x0), none, none] [] h (.inl (some (.int r))) h' := by
  unfold g_X12_endOf_b25 at hq
  refine jw_aload_n dX12_endOf_25 (o := (some x0)) rfl ?_
  obtain ⟨v1, ev1, hq⟩ := Option.bind_eq_some_iff.mp hq
  refine jw_getI (o := (some x0)) dX12_endOf_26 ev1 fl_X12_149 rfl ?_
  cases hq
  exact jw_iret (ty := .int) dX12_endOf_29 rfl rfl

set_option maxRecDepth 100000 in
set_option maxHeartbeats 4000000 in
theorem l_X12_endOf {hi : jw_H} {h : jw_H} {x0 : Nat} {x1 : Int32} {x2 : Int32} {r : Int32} {h' : jw_H} (hq : f_X12_endOf  h x0 x1 x2 = some (r, h')) : jw_E 13 uX12_endOf hi 0 [some (.ref x0), some (.int x1), some (.int x2)] [] h (.inl (some (.int r))) h' := by
  unfold f_X12_endOf at hq
  refine jw_aload_n dX12_endOf_0 (o := (some x0)) rfl ?_
  refine jw_iload_n dX12_endOf_1 rfl ?_
  obtain ⟨h1, eh1, hq⟩ := Option.bind_eq_some_iff.mp hq
  refine jw_putI (o := (some x0)) dX12_endOf_2 eh1 fl_X12_149 rfl rfl ?_
  refine jw_aload_n dX12_endOf_5 (o := (some x0)) rfl ?_
  refine jw_iconst dX12_endOf_6 (v := (-1 : Int32)) (by decide) ?_
  obtain ⟨h2, eh2, hq⟩ := Option.bind_eq_some_iff.mp hq
  refine jw_putI (o := (some x0)) dX12_endOf_7 eh2 fl_X12_156 rfl rfl ?_
  refine jw_iload_n dX12_endOf_10 rfl ?_
  rcases jw_if hq with ⟨c3, hq⟩ | ⟨c3, hq⟩
  · refine jw_if_eq_t (tgt := 21) dX12_endOf_11 (by decide) c3 ?_
    refine jw_aload_n dX12_endOf_21 (o := (some x0)) rfl ?_
    obtain ⟨a4, ea4, hq⟩ := Option.bind_eq_some_iff.mp hq
    obtain ⟨eoa4, eta4⟩ := jw_rc_spec ea4
    obtain ⟨w6, h5, ew6, hq⟩ := jw_b2_spec hq
    refine jw_callV (As := []) (S := []) (a := a4) (v := none) dX12_endOf_22 mt_X12_order in_X12_order se_X12_order lk_X12_249 (c_X12_order ew6) eta4 (by decide) rfl rfl (by decide) (Nat.le_of_ble_eq_true rfl) (by cases eoa4; rfl) ?_
    refine jw_forget [true, false, false] (L' := [some (.ref x0), none, none]) rfl ?_
    exact l_X12_endOf_b25  hq
  · refine jw_if_eq_f (tgt := 21) dX12_endOf_11 (by decide) c3 ?_
    refine jw_aload_n dX12_endOf_14 (o := (some x0)) rfl ?_
    obtain ⟨a7, ea7, hq⟩ := Option.bind_eq_some_iff.mp hq
    obtain ⟨eoa7, eta7⟩ := jw_rc_spec ea7
    obtain ⟨w9, h8, ew9, hq⟩ := jw_b2_spec hq
    refine jw_callV (As := []) (S := []) (a := a7) (v := none) dX12_endOf_15 mt_X12_innerOrder in_X12_innerOrder se_X12_innerOrder lk_X12_243 (c_X12_innerOrder ew9) eta7 (by decide) rfl rfl (by decide) (Nat.le_of_ble_eq_true rfl) (by cases eoa7; rfl) ?_
    refine jw_goto (tgt := 25) dX12_endOf_18 (by decide) ?_
    refine jw_forget [true, false, false] (L' := [some (.ref x0), none, none]) rfl ?_
    exact l_X12_endOf_b25  hq

theorem c_X12_endOf {h : jw_H} {x0 : Nat} {x1 : Int32} {x2 : Int32} {r : Int32} {h' : jw_H} (hq : f_X12_endOf h x0 x1 x2 = some (r, h')) : jw_Con (Cond.code yX12_endOf cX12_endOf 3 (some .int)) yX12_endOf 13 [.ref x0, .int x1, .int x2] h (.inl (some (.int r))) h' :=
  jw_con false (plainFor_of_name (by decide +kernel)) (fun z => nomatch z) (by simp [jw_ent, jw_sl0_nil, jw_sl0_int, jw_sl0_long, jw_sl0_ref, jw_sl0_rf, jw_sl0_scr, List.replicate]) (by simp [jw_sl0_nil, jw_sl0_int, jw_sl0_long, jw_sl0_ref, jw_sl0_rf, jw_sl0_scr]) (l_X12_endOf hq)


/-! X12_readWhere -/
noncomputable def f_X12_readWhere (h : jw_H) (x0 : Nat) (x1 : Int32) : Option (Unit × jw_H) :=
 (jw_pI h 12 (some x0) 23 x1).bind fun h1 =>
 (jw_pI h1 12 (some x0) 24 (-1 : Int32)).bind fun h2 =>
 (jw_rc h2 12 (some x0)).bind fun a3 =>
 jw_b2 (f_X12_where h2 a3) fun w5 h4 =>
 some ((), h4)

set_option maxRecDepth 100000 in
set_option maxHeartbeats 4000000 in
theorem l_X12_readWhere {hi : jw_H} {h : jw_H} {x0 : Nat} {x1 : Int32} {r : Unit} {h' : jw_H} (hq : f_X12_readWhere  h x0 x1 = some (r, h')) : jw_E 10 uX12_readWhere hi 0 [some (.ref x0), some (.int x1)] [] h (.inl none) h' := by
  unfold f_X12_readWhere at hq
  refine jw_aload_n dX12_readWhere_0 (o := (some x0)) rfl ?_
  refine jw_iload_n dX12_readWhere_1 rfl ?_
  obtain ⟨h1, eh1, hq⟩ := Option.bind_eq_some_iff.mp hq
  refine jw_putI (o := (some x0)) dX12_readWhere_2 eh1 fl_X12_149 rfl rfl ?_
  refine jw_aload_n dX12_readWhere_5 (o := (some x0)) rfl ?_
  refine jw_iconst dX12_readWhere_6 (v := (-1 : Int32)) (by decide) ?_
  obtain ⟨h2, eh2, hq⟩ := Option.bind_eq_some_iff.mp hq
  refine jw_putI (o := (some x0)) dX12_readWhere_7 eh2 fl_X12_156 rfl rfl ?_
  refine jw_aload_n dX12_readWhere_10 (o := (some x0)) rfl ?_
  obtain ⟨a3, ea3, hq⟩ := Option.bind_eq_some_iff.mp hq
  obtain ⟨eoa3, eta3⟩ := jw_rc_spec ea3
  obtain ⟨w5, h4, ew5, hq⟩ := jw_b2_spec hq
  refine jw_callV (As := []) (S := []) (a := a3) (v := none) dX12_readWhere_11 mt_X12_where in_X12_where se_X12_where lk_X12_236 (c_X12_where ew5) eta3 (by decide) rfl rfl (by decide) (Nat.le_of_ble_eq_true rfl) (by cases eoa3; rfl) ?_
  cases hq
  exact jw_vret dX12_readWhere_14 rfl

theorem c_X12_readWhere {h : jw_H} {x0 : Nat} {x1 : Int32} {r : Unit} {h' : jw_H} (hq : f_X12_readWhere h x0 x1 = some (r, h')) : jw_Con (Cond.code yX12_readWhere cX12_readWhere 2 none) yX12_readWhere 10 [.ref x0, .int x1] h (.inl none) h' :=
  jw_con false (plainFor_of_name (by decide +kernel)) (fun z => nomatch z) (by simp [jw_ent, jw_sl0_nil, jw_sl0_int, jw_sl0_long, jw_sl0_ref, jw_sl0_rf, jw_sl0_scr, List.replicate]) (by simp [jw_sl0_nil, jw_sl0_int, jw_sl0_long, jw_sl0_ref, jw_sl0_rf, jw_sl0_scr]) (l_X12_readWhere hq)


/-! X12_numberAt -/
noncomputable def g_X12_numberAt_b54 (h : jw_H) (t0 : Int32) : Option (Int32 × jw_H) :=
 some (t0, h)

noncomputable def g_X12_numberAt_b53 (h : jw_H) (x2 : Int32) : Option (Int32 × jw_H) :=
 g_X12_numberAt_b54  h x2

noncomputable def f_X12_numberAt (h : jw_H) (x0 : Nat) (x1 : Int32) : Option (Int32 × jw_H) :=
 (jw_gR h 12 (some x0) 21).bind fun v1 =>
 (jw_ai h 20 v1 x1).bind fun v2 =>
 (jw_gI h 12 (some x0) 22).bind fun v3 =>
 if v3 ≤ (x1 + (1 : Int32)) then (g_X12_numberAt_b53  h (v2 - (48 : Int32)))
 else ((jw_gR h 12 (some x0) 21).bind fun v5 =>
 (jw_ai h 20 v5 (x1 + (1 : Int32))).bind fun v6 =>
 jw_b2 (f_X12_isDigit h v6) fun w8 h7 =>
 if w8 = 0 then (g_X12_numberAt_b53  h7 (v2 - (48 : Int32)))
 else ((jw_gR h7 12 (some x0) 21).bind fun v10 =>
 (jw_ai h7 20 v10 (x1 + (1 : Int32))).bind fun v11 =>
 g_X12_numberAt_b54  h7 ((((10 : Int32) * (v2 - (48 : Int32))) + v11) - (48 : Int32))))

set_option maxRecDepth 100000 in
set_option maxHeartbeats 4000000 in
theorem l_X12_numberAt_b54 {hi : jw_H} {h : jw_H} {t0 : Int32} {r : Int32} {h' : jw_H} (hq : g_X12_numberAt_b54  h t0 = some (r, h')) : jw_E 1 uX12_numberAt hi 54 [none, none, none] [.int t0] h (.inl (some (.int r))) h' := by
  unfold g_X12_numberAt_b54 at hq
  cases hq
  exact jw_iret (ty := .int) dX12_numberAt_54 rfl rfl

set_option maxRecDepth 100000 in
set_option maxHeartbeats 4000000 in
theorem l_X12_numberAt_b53 {hi : jw_H} {h : jw_H} {x2 : Int32} {r : Int32} {h' : jw_H} (hq : g_X12_numberAt_b53  h x2 = some (r, h')) : jw_E 1 uX12_numberAt hi 53 [none, none, some (.int x2)] [] h (.inl (some (.int r))) h' := by
  unfold g_X12_numberAt_b53 at hq
  refine jw_iload_n dX12_numberAt_53 rfl ?_
  refine jw_forget [true, true, false] (L' := [none, none, none]) rfl ?_
  exact l_X12_numberAt_b54  hq

set_option maxRecDepth 100000 in
set_option maxHeartbeats 4000000 in
theorem l_X12_numberAt {hi : jw_H} {h : jw_H} {x0 : Nat} {x1 : Int32} {r : Int32} {h' : jw_H} (hq : f_X12_numberAt  h x0 x1 = some (r, h')) : jw_E 1 uX12_numberAt hi 0 [some (.ref x0), some (.int x1), none] [] h (.inl (some (.int r))) h' := by
  unfold f_X12_numberAt at hq
  refine jw_aload_n dX12_numberAt_0 (o := (some x0)) rfl ?_
  obtain ⟨v1, ev1, hq⟩ := Option.bind_eq_some_iff.mp hq
  refine jw_getR (o := (some x0)) dX12_numberAt_1 ev1 fl_X12_44 rfl ?_
  refine jw_iload_n dX12_numberAt_4 rfl ?_
  obtain ⟨v2, ev2, hq⟩ := Option.bind_eq_some_iff.mp hq
  refine jw_iald (o := v1) dX12_numberAt_5 ev2 ?_
  refine jw_bipush dX12_numberAt_6 (v := (48 : Int32)) (by decide) ?_
  refine jw_isub dX12_numberAt_8 ?_
  refine jw_istore_n (L' := [some (.ref x0), some (.int x1), some (.int (v2 - (48 : Int32)))]) dX12_numberAt_9 (Nat.le_of_ble_eq_true rfl) rfl ?_
  refine jw_iload_n dX12_numberAt_10 rfl ?_
  refine jw_iconst dX12_numberAt_11 (v := (1 : Int32)) (by decide) ?_
  refine jw_iadd dX12_numberAt_12 ?_
  refine jw_aload_n dX12_numberAt_13 (o := (some x0)) rfl ?_
  obtain ⟨v3, ev3, hq⟩ := Option.bind_eq_some_iff.mp hq
  refine jw_getI (o := (some x0)) dX12_numberAt_14 ev3 fl_X12_146 rfl ?_
  rcases jw_if hq with ⟨c4, hq⟩ | ⟨c4, hq⟩
  · refine jw_icmp_ge_t (tgt := 53) dX12_numberAt_17 (by decide) c4 ?_
    refine jw_forget [false, false, true] (L' := [none, none, some (.int (v2 - (48 : Int32)))]) rfl ?_
    exact l_X12_numberAt_b53  hq
  · refine jw_icmp_ge_f (tgt := 53) dX12_numberAt_17 (by decide) c4 ?_
    refine jw_aload_n dX12_numberAt_20 (o := (some x0)) rfl ?_
    obtain ⟨v5, ev5, hq⟩ := Option.bind_eq_some_iff.mp hq
    refine jw_getR (o := (some x0)) dX12_numberAt_21 ev5 fl_X12_44 rfl ?_
    refine jw_iload_n dX12_numberAt_24 rfl ?_
    refine jw_iconst dX12_numberAt_25 (v := (1 : Int32)) (by decide) ?_
    refine jw_iadd dX12_numberAt_26 ?_
    obtain ⟨v6, ev6, hq⟩ := Option.bind_eq_some_iff.mp hq
    refine jw_iald (o := v5) dX12_numberAt_27 ev6 ?_
    obtain ⟨w8, h7, ew8, hq⟩ := jw_b2_spec hq
    refine jw_callS (As := [.int v6]) (S := []) (v := some (.int w8)) dX12_numberAt_28 mt_X12_isDigit st_X12_isDigit lk_X12_152 (c_X12_isDigit ew8) rfl (by decide) (Nat.le_of_ble_eq_true rfl) rfl ?_
    rcases jw_if hq with ⟨c9, hq⟩ | ⟨c9, hq⟩
    · refine jw_if_eq_t (tgt := 53) dX12_numberAt_31 (by decide) c9 ?_
      refine jw_forget [false, false, true] (L' := [none, none, some (.int (v2 - (48 : Int32)))]) rfl ?_
      exact l_X12_numberAt_b53  hq
    · refine jw_if_eq_f (tgt := 53) dX12_numberAt_31 (by decide) c9 ?_
      refine jw_bipush dX12_numberAt_34 (v := (10 : Int32)) (by decide) ?_
      refine jw_iload_n dX12_numberAt_36 rfl ?_
      refine jw_imul dX12_numberAt_37 ?_
      refine jw_aload_n dX12_numberAt_38 (o := (some x0)) rfl ?_
      obtain ⟨v10, ev10, hq⟩ := Option.bind_eq_some_iff.mp hq
      refine jw_getR (o := (some x0)) dX12_numberAt_39 ev10 fl_X12_44 rfl ?_
      refine jw_iload_n dX12_numberAt_42 rfl ?_
      refine jw_iconst dX12_numberAt_43 (v := (1 : Int32)) (by decide) ?_
      refine jw_iadd dX12_numberAt_44 ?_
      obtain ⟨v11, ev11, hq⟩ := Option.bind_eq_some_iff.mp hq
      refine jw_iald (o := v10) dX12_numberAt_45 ev11 ?_
      refine jw_iadd dX12_numberAt_46 ?_
      refine jw_bipush dX12_numberAt_47 (v := (48 : Int32)) (by decide) ?_
      refine jw_isub dX12_numberAt_49 ?_
      refine jw_goto (tgt := 54) dX12_numberAt_50 (by decide) ?_
      refine jw_forget [false, false, false] (L' := [none, none, none]) rfl ?_
      exact l_X12_numberAt_b54  hq

theorem c_X12_numberAt {h : jw_H} {x0 : Nat} {x1 : Int32} {r : Int32} {h' : jw_H} (hq : f_X12_numberAt h x0 x1 = some (r, h')) : jw_Con (Cond.code yX12_numberAt cX12_numberAt 3 (some .int)) yX12_numberAt 1 [.ref x0, .int x1] h (.inl (some (.int r))) h' :=
  jw_con false (plainFor_of_name (by decide +kernel)) (fun z => nomatch z) (by simp [jw_ent, jw_sl0_nil, jw_sl0_int, jw_sl0_long, jw_sl0_ref, jw_sl0_rf, jw_sl0_scr, List.replicate]) (by simp [jw_sl0_nil, jw_sl0_int, jw_sl0_long, jw_sl0_ref, jw_sl0_rf, jw_sl0_scr]) (l_X12_numberAt hq)


/-! X12_behindNumber -/
noncomputable def g_X12_behindNumber_b33 (h : jw_H) (t0 : Int32) : Option (Int32 × jw_H) :=
 some (t0, h)

noncomputable def g_X12_behindNumber_b30 (h : jw_H) (x1 : Int32) : Option (Int32 × jw_H) :=
 g_X12_behindNumber_b33  h (x1 + (1 : Int32))

noncomputable def f_X12_behindNumber (h : jw_H) (x0 : Nat) (x1 : Int32) : Option (Int32 × jw_H) :=
 (jw_gI h 12 (some x0) 22).bind fun v1 =>
 if v1 ≤ (x1 + (1 : Int32)) then (g_X12_behindNumber_b30  h x1)
 else ((jw_gR h 12 (some x0) 21).bind fun v3 =>
 (jw_ai h 20 v3 (x1 + (1 : Int32))).bind fun v4 =>
 jw_b2 (f_X12_isDigit h v4) fun w6 h5 =>
 if w6 = 0 then (g_X12_behindNumber_b30  h5 x1)
 else (g_X12_behindNumber_b33  h5 (x1 + (2 : Int32))))

set_option maxRecDepth 100000 in
set_option maxHeartbeats 4000000 in
theorem l_X12_behindNumber_b33 {hi : jw_H} {h : jw_H} {t0 : Int32} {r : Int32} {h' : jw_H} (hq : g_X12_behindNumber_b33  h t0 = some (r, h')) : jw_E 1 uX12_behindNumber hi 33 [none, none] [.int t0] h (.inl (some (.int r))) h' := by
  unfold g_X12_behindNumber_b33 at hq
  cases hq
  exact jw_iret (ty := .int) dX12_behindNumber_33 rfl rfl

set_option maxRecDepth 100000 in
set_option maxHeartbeats 4000000 in
theorem l_X12_behindNumber_b30 {hi : jw_H} {h : jw_H} {x1 : Int32} {r : Int32} {h' : jw_H} (hq : g_X12_behindNumber_b30  h x1 = some (r, h')) : jw_E 1 uX12_behindNumber hi 30 [none, some (.int x1)] [] h (.inl (some (.int r))) h' := by
  unfold g_X12_behindNumber_b30 at hq
  refine jw_iload_n dX12_behindNumber_30 rfl ?_
  refine jw_iconst dX12_behindNumber_31 (v := (1 : Int32)) (by decide) ?_
  refine jw_iadd dX12_behindNumber_32 ?_
  refine jw_forget [true, false] (L' := [none, none]) rfl ?_
  exact l_X12_behindNumber_b33  hq

set_option maxRecDepth 100000 in
set_option maxHeartbeats 4000000 in
theorem l_X12_behindNumber {hi : jw_H} {h : jw_H} {x0 : Nat} {x1 : Int32} {r : Int32} {h' : jw_H} (hq : f_X12_behindNumber  h x0 x1 = some (r, h')) : jw_E 1 uX12_behindNumber hi 0 [some (.ref x0), some (.int x1)] [] h (.inl (some (.int r))) h' := by
  unfold f_X12_behindNumber at hq
  refine jw_iload_n dX12_behindNumber_0 rfl ?_
  refine jw_iconst dX12_behindNumber_1 (v := (1 : Int32)) (by decide) ?_
  refine jw_iadd dX12_behindNumber_2 ?_
  refine jw_aload_n dX12_behindNumber_3 (o := (some x0)) rfl ?_
  obtain ⟨v1, ev1, hq⟩ := Option.bind_eq_some_iff.mp hq
  refine jw_getI (o := (some x0)) dX12_behindNumber_4 ev1 fl_X12_146 rfl ?_
  rcases jw_if hq with ⟨c2, hq⟩ | ⟨c2, hq⟩
  · refine jw_icmp_ge_t (tgt := 30) dX12_behindNumber_7 (by decide) c2 ?_
    refine jw_forget [false, true] (L' := [none, some (.int x1)]) rfl ?_
    exact l_X12_behindNumber_b30  hq
  · refine jw_icmp_ge_f (tgt := 30) dX12_behindNumber_7 (by decide) c2 ?_
    refine jw_aload_n dX12_behindNumber_10 (o := (some x0)) rfl ?_
    obtain ⟨v3, ev3, hq⟩ := Option.bind_eq_some_iff.mp hq
    refine jw_getR (o := (some x0)) dX12_behindNumber_11 ev3 fl_X12_44 rfl ?_
    refine jw_iload_n dX12_behindNumber_14 rfl ?_
    refine jw_iconst dX12_behindNumber_15 (v := (1 : Int32)) (by decide) ?_
    refine jw_iadd dX12_behindNumber_16 ?_
    obtain ⟨v4, ev4, hq⟩ := Option.bind_eq_some_iff.mp hq
    refine jw_iald (o := v3) dX12_behindNumber_17 ev4 ?_
    obtain ⟨w6, h5, ew6, hq⟩ := jw_b2_spec hq
    refine jw_callS (As := [.int v4]) (S := []) (v := some (.int w6)) dX12_behindNumber_18 mt_X12_isDigit st_X12_isDigit lk_X12_152 (c_X12_isDigit ew6) rfl (by decide) (Nat.le_of_ble_eq_true rfl) rfl ?_
    rcases jw_if hq with ⟨c7, hq⟩ | ⟨c7, hq⟩
    · refine jw_if_eq_t (tgt := 30) dX12_behindNumber_21 (by decide) c7 ?_
      refine jw_forget [false, true] (L' := [none, some (.int x1)]) rfl ?_
      exact l_X12_behindNumber_b30  hq
    · refine jw_if_eq_f (tgt := 30) dX12_behindNumber_21 (by decide) c7 ?_
      refine jw_iload_n dX12_behindNumber_24 rfl ?_
      refine jw_iconst dX12_behindNumber_25 (v := (2 : Int32)) (by decide) ?_
      refine jw_iadd dX12_behindNumber_26 ?_
      refine jw_goto (tgt := 33) dX12_behindNumber_27 (by decide) ?_
      refine jw_forget [false, false] (L' := [none, none]) rfl ?_
      exact l_X12_behindNumber_b33  hq

theorem c_X12_behindNumber {h : jw_H} {x0 : Nat} {x1 : Int32} {r : Int32} {h' : jw_H} (hq : f_X12_behindNumber h x0 x1 = some (r, h')) : jw_Con (Cond.code yX12_behindNumber cX12_behindNumber 2 (some .int)) yX12_behindNumber 1 [.ref x0, .int x1] h (.inl (some (.int r))) h' :=
  jw_con false (plainFor_of_name (by decide +kernel)) (fun z => nomatch z) (by simp [jw_ent, jw_sl0_nil, jw_sl0_int, jw_sl0_long, jw_sl0_ref, jw_sl0_rf, jw_sl0_scr, List.replicate]) (by simp [jw_sl0_nil, jw_sl0_int, jw_sl0_long, jw_sl0_ref, jw_sl0_rf, jw_sl0_scr]) (l_X12_behindNumber hq)


/-! X12_element -/
noncomputable def f_X12_element (h : jw_H) (x0 : Nat) (x1 : Int32) (x2 : Int32) : Option (Unit × jw_H) :=
 (jw_gR h 12 (some x0) 31).bind fun v1 =>
 (jw_gI h 12 (some x0) 33).bind fun v2 =>
 (jw_si h 20 v1 v2 x1).bind fun h3 =>
 (jw_gR h3 12 (some x0) 32).bind fun v4 =>
 (jw_gI h3 12 (some x0) 33).bind fun v5 =>
 (jw_si h3 20 v4 v5 x2).bind fun h6 =>
 (jw_gI h6 12 (some x0) 33).bind fun v7 =>
 (jw_pI h6 12 (some x0) 33 (v7 + (1 : Int32))).bind fun h8 =>
 some ((), h8)

set_option maxRecDepth 100000 in
set_option maxHeartbeats 4000000 in
theorem l_X12_element {hi : jw_H} {h : jw_H} {x0 : Nat} {x1 : Int32} {x2 : Int32} {r : Unit} {h' : jw_H} (hq : f_X12_element  h x0 x1 x2 = some (r, h')) : jw_E 0 uX12_element hi 0 [some (.ref x0), some (.int x1), some (.int x2)] [] h (.inl none) h' := by
  unfold f_X12_element at hq
  refine jw_aload_n dX12_element_0 (o := (some x0)) rfl ?_
  obtain ⟨v1, ev1, hq⟩ := Option.bind_eq_some_iff.mp hq
  refine jw_getR (o := (some x0)) dX12_element_1 ev1 fl_X12_47 rfl ?_
  refine jw_aload_n dX12_element_4 (o := (some x0)) rfl ?_
  obtain ⟨v2, ev2, hq⟩ := Option.bind_eq_some_iff.mp hq
  refine jw_getI (o := (some x0)) dX12_element_5 ev2 fl_X12_252 rfl ?_
  refine jw_iload_n dX12_element_8 rfl ?_
  obtain ⟨h3, eh3, hq⟩ := Option.bind_eq_some_iff.mp hq
  refine jw_iast (o := v1) dX12_element_9 eh3 ?_
  refine jw_aload_n dX12_element_10 (o := (some x0)) rfl ?_
  obtain ⟨v4, ev4, hq⟩ := Option.bind_eq_some_iff.mp hq
  refine jw_getR (o := (some x0)) dX12_element_11 ev4 fl_X12_50 rfl ?_
  refine jw_aload_n dX12_element_14 (o := (some x0)) rfl ?_
  obtain ⟨v5, ev5, hq⟩ := Option.bind_eq_some_iff.mp hq
  refine jw_getI (o := (some x0)) dX12_element_15 ev5 fl_X12_252 rfl ?_
  refine jw_iload_n dX12_element_18 rfl ?_
  obtain ⟨h6, eh6, hq⟩ := Option.bind_eq_some_iff.mp hq
  refine jw_iast (o := v4) dX12_element_19 eh6 ?_
  refine jw_aload_n dX12_element_20 (o := (some x0)) rfl ?_
  refine jw_dup dX12_element_21 rfl ?_
  obtain ⟨v7, ev7, hq⟩ := Option.bind_eq_some_iff.mp hq
  refine jw_getI (o := (some x0)) dX12_element_22 ev7 fl_X12_252 rfl ?_
  refine jw_iconst dX12_element_25 (v := (1 : Int32)) (by decide) ?_
  refine jw_iadd dX12_element_26 ?_
  obtain ⟨h8, eh8, hq⟩ := Option.bind_eq_some_iff.mp hq
  refine jw_putI (o := (some x0)) dX12_element_27 eh8 fl_X12_252 rfl rfl ?_
  cases hq
  exact jw_vret dX12_element_30 rfl

theorem c_X12_element {h : jw_H} {x0 : Nat} {x1 : Int32} {x2 : Int32} {r : Unit} {h' : jw_H} (hq : f_X12_element h x0 x1 x2 = some (r, h')) : jw_Con (Cond.code yX12_element cX12_element 3 none) yX12_element 0 [.ref x0, .int x1, .int x2] h (.inl none) h' :=
  jw_con false (plainFor_of_name (by decide +kernel)) (fun z => nomatch z) (by simp [jw_ent, jw_sl0_nil, jw_sl0_int, jw_sl0_long, jw_sl0_ref, jw_sl0_rf, jw_sl0_scr, List.replicate]) (by simp [jw_sl0_nil, jw_sl0_int, jw_sl0_long, jw_sl0_ref, jw_sl0_rf, jw_sl0_scr]) (l_X12_element hq)


/-! X12_compile -/
noncomputable def g_X12_compile_b253 (k63 : jw_H → Nat → Int32 → Int32 → Int32 → Option (Unit × jw_H)) (h : jw_H) (x0 : Nat) (x2 : Int32) (x3 : Int32) (x4 : Int32) : Option (Unit × jw_H) :=
 k63 h x0 x2 x3 x4

noncomputable def g_X12_compile_b186 (k63 : jw_H → Nat → Int32 → Int32 → Int32 → Option (Unit × jw_H)) (k186 : jw_H → Nat → Int32 → Int32 → Int32 → Option (Unit × jw_H)) (h : jw_H) (x0 : Nat) (x2 : Int32) (x3 : Int32) (x4 : Int32) : Option (Unit × jw_H) :=
 (jw_gR h 12 (some x0) 21).bind fun v1 =>
 (jw_ai h 20 v1 x3).bind fun v2 =>
 if v2 = (93 : Int32) then (g_X12_compile_b253 k63 h x0 x2 (x3 + (1 : Int32)) x4)
 else (k186 h x0 x2 (x3 + (1 : Int32)) x4)

noncomputable def f_X12_compile_b186 (k63 : jw_H → Nat → Int32 → Int32 → Int32 → Option (Unit × jw_H)) (n : Nat) : jw_H → Nat → Int32 → Int32 → Int32 → Option (Unit × jw_H) :=
 Nat.rec (fun _ _ _ _ _ => none) (fun _ k186 => g_X12_compile_b186 k63 k186) n

noncomputable def g_X12_compile_b248 (k63 : jw_H → Nat → Int32 → Int32 → Int32 → Option (Unit × jw_H)) (h : jw_H) (x0 : Nat) (x2 : Int32) (x3 : Int32) (x4 : Int32) (x5 : Int32) (t0 : Nat) (t1 : Int32) : Option (Unit × jw_H) :=
 (jw_rc h 12 (some t0)).bind fun a1 =>
 jw_b2 (f_X12_element h a1 t1 x5) fun w3 h2 =>
 g_X12_compile_b253 k63 h2 x0 x2 x3 x4

noncomputable def g_X12_compile_b256 (h : jw_H) (x0 : Nat) (x3 : Int32) : Option (Unit × jw_H) :=
 (jw_pI h 12 (some x0) 37 x3).bind fun h1 =>
 some ((), h1)

noncomputable def g_X12_compile_b63 (k63 : jw_H → Nat → Int32 → Int32 → Int32 → Option (Unit × jw_H)) (h : jw_H) (x0 : Nat) (x2 : Int32) (x3 : Int32) (x4 : Int32) : Option (Unit × jw_H) :=
 (jw_gI h 12 (some x0) 22).bind fun v1 =>
 if v1 ≤ x3 then (g_X12_compile_b256  h x0 x3)
 else ((jw_gR h 12 (some x0) 21).bind fun v3 =>
 (jw_ai h 20 v3 x3).bind fun v4 =>
 if v4 = x2 then (g_X12_compile_b256  h x0 x3)
 else ((jw_gR h 12 (some x0) 21).bind fun v6 =>
 (jw_ai h 20 v6 x3).bind fun v7 =>
 if v7 = (36 : Int32) then ((jw_pB h 12 (some x0) 36 (1 : Int32)).bind fun h34 =>
 g_X12_compile_b253 k63 h34 x0 x2 (x3 + (1 : Int32)) x4)
 else (if v7 = (40 : Int32) then ((jw_rc h 12 (some x0)).bind fun a31 =>
 jw_b2 (f_X12_element h a31 (5 : Int32) (x4 + (1 : Int32))) fun w33 h32 =>
 g_X12_compile_b253 k63 h32 x0 x2 (x3 + (1 : Int32)) (x4 + (1 : Int32)))
 else (if v7 = (41 : Int32) then ((jw_rc h 12 (some x0)).bind fun a28 =>
 jw_b2 (f_X12_element h a28 (6 : Int32) x4) fun w30 h29 =>
 g_X12_compile_b253 k63 h29 x0 x2 (x3 + (1 : Int32)) x4)
 else (if v7 = (92 : Int32) then ((jw_gR h 12 (some x0) 21).bind fun v23 =>
 (jw_ai h 20 v23 (x3 + (1 : Int32))).bind fun v24 =>
 (jw_rc h 12 (some x0)).bind fun a25 =>
 jw_b2 (f_X12_element h a25 (7 : Int32) (v24 - (48 : Int32))) fun w27 h26 =>
 g_X12_compile_b253 k63 h26 x0 x2 ((x3 + (1 : Int32)) + (1 : Int32)) x4)
 else (if v7 = (91 : Int32) then ((jw_rc h 12 (some x0)).bind fun a20 =>
 jw_b2 (f_X12_element h a20 (4 : Int32) (x3 + (1 : Int32))) fun w22 h21 =>
 f_X12_compile_b186 k63 jw_FU h21 x0 x2 (x3 + (1 : Int32)) x4)
 else (if v7 = (42 : Int32) then ((jw_rc h 12 (some x0)).bind fun a15 =>
 jw_b2 (f_X12_element h a15 (3 : Int32) (0 : Int32)) fun w17 h16 =>
 (jw_gI h16 12 (some x0) 34).bind fun v18 =>
 (jw_pI h16 12 (some x0) 34 (v18 + (1 : Int32))).bind fun h19 =>
 g_X12_compile_b253 k63 h19 x0 x2 (x3 + (1 : Int32)) x4)
 else (if v7 = (46 : Int32) then (g_X12_compile_b248 k63 h x0 x2 (x3 + (1 : Int32)) x4 v7 x0 (2 : Int32))
 else (g_X12_compile_b248 k63 h x0 x2 (x3 + (1 : Int32)) x4 v7 x0 (1 : Int32))))))))))

noncomputable def f_X12_compile_b63 (n : Nat) : jw_H → Nat → Int32 → Int32 → Int32 → Option (Unit × jw_H) :=
 Nat.rec (fun _ _ _ _ _ => none) (fun _ k63 => g_X12_compile_b63 k63) n

noncomputable def g_X12_compile_b61 (h : jw_H) (x0 : Nat) (x2 : Int32) (x4 : Int32) (t0 : Int32) (t1 : Int32) : Option (Unit × jw_H) :=
 f_X12_compile_b63  jw_FU h x0 x2 (t0 + t1) x4

noncomputable def g_X12_compile_b40 (h : jw_H) (x0 : Nat) (x2 : Int32) (x3 : Int32) (x4 : Int32) (t0 : Nat) (t1 : Int32) : Option (Unit × jw_H) :=
 (jw_pB h 12 (some t0) 35 t1).bind fun h1 =>
 (jw_pB h1 12 (some x0) 36 (0 : Int32)).bind fun h2 =>
 (jw_gI h2 12 (some x0) 35).bind fun v3 =>
 if v3 = 0 then (g_X12_compile_b61  h2 x0 x2 x4 x3 (0 : Int32))
 else (g_X12_compile_b61  h2 x0 x2 x4 x3 (1 : Int32))

noncomputable def g_X12_compile_b39 (h : jw_H) (x0 : Nat) (x2 : Int32) (x3 : Int32) (x4 : Int32) (t0 : Nat) : Option (Unit × jw_H) :=
 g_X12_compile_b40  h x0 x2 x3 x4 t0 (0 : Int32)

noncomputable def f_X12_compile (h : jw_H) (x0 : Nat) (x1 : Int32) (x2 : Int32) : Option (Unit × jw_H) :=
 (jw_pI h 12 (some x0) 33 (0 : Int32)).bind fun h1 =>
 (jw_pI h1 12 (some x0) 34 (0 : Int32)).bind fun h2 =>
 (jw_gI h2 12 (some x0) 22).bind fun v3 =>
 if v3 ≤ x1 then (g_X12_compile_b39  h2 x0 x2 x1 (0 : Int32) x0)
 else ((jw_gR h2 12 (some x0) 21).bind fun v5 =>
 (jw_ai h2 20 v5 x1).bind fun v6 =>
 if v6 = (94 : Int32) then (g_X12_compile_b40  h2 x0 x2 x1 (0 : Int32) x0 (1 : Int32))
 else (g_X12_compile_b39  h2 x0 x2 x1 (0 : Int32) x0))

set_option maxRecDepth 100000 in
set_option maxHeartbeats 4000000 in
theorem l_X12_compile_b253 {hi : jw_H} {k63 : jw_H → Nat → Int32 → Int32 → Int32 → Option (Unit × jw_H)} (hk63 : ∀ (h : jw_H) (x0 : Nat) (x2 : Int32) (x3 : Int32) (x4 : Int32) (r : Unit) (h' : jw_H), k63 h x0 x2 x3 x4 = some (r, h') → jw_E 1 uX12_compile hi 63 [some (.ref x0), none, some (.int x2), some (.int x3), some (.int x4), none] [] h (.inl none) h') {h : jw_H} {x0 : Nat} {x2 : Int32} {x3 : Int32} {x4 : Int32} {r : Unit} {h' : jw_H} (hq : g_X12_compile_b253 k63 h x0 x2 x3 x4 = some (r, h')) : jw_E 1 uX12_compile hi 253 [some (.ref x0), none, some (.int x2), some (.int x3), some (.int x4), none] [] h (.inl none) h' := by
  unfold g_X12_compile_b253 at hq
  refine jw_goto (tgt := 63) dX12_compile_253 (by decide) ?_
  exact hk63 _ _ _ _ _ _ _ hq

set_option maxRecDepth 100000 in
set_option maxHeartbeats 4000000 in
theorem l_X12_compile_b186g {hi : jw_H} {k63 : jw_H → Nat → Int32 → Int32 → Int32 → Option (Unit × jw_H)} (hk63 : ∀ (h : jw_H) (x0 : Nat) (x2 : Int32) (x3 : Int32) (x4 : Int32) (r : Unit) (h' : jw_H), k63 h x0 x2 x3 x4 = some (r, h') → jw_E 1 uX12_compile hi 63 [some (.ref x0), none, some (.int x2), some (.int x3), some (.int x4), none] [] h (.inl none) h') {k186 : jw_H → Nat → Int32 → Int32 → Int32 → Option (Unit × jw_H)} (hk186 : ∀ (h : jw_H) (x0 : Nat) (x2 : Int32) (x3 : Int32) (x4 : Int32) (r : Unit) (h' : jw_H), k186 h x0 x2 x3 x4 = some (r, h') → jw_E 1 uX12_compile hi 186 [some (.ref x0), none, some (.int x2), some (.int x3), some (.int x4), none] [] h (.inl none) h') {h : jw_H} {x0 : Nat} {x2 : Int32} {x3 : Int32} {x4 : Int32} {r : Unit} {h' : jw_H} (hq : g_X12_compile_b186 k63 k186 h x0 x2 x3 x4 = some (r, h')) : jw_E 1 uX12_compile hi 186 [some (.ref x0), none, some (.int x2), some (.int x3), some (.int x4), none] [] h (.inl none) h' := by
  unfold g_X12_compile_b186 at hq
  refine jw_aload_n dX12_compile_186 (o := (some x0)) rfl ?_
  obtain ⟨v1, ev1, hq⟩ := Option.bind_eq_some_iff.mp hq
  refine jw_getR (o := (some x0)) dX12_compile_187 ev1 fl_X12_44 rfl ?_
  refine jw_iload_n dX12_compile_190 rfl ?_
  obtain ⟨v2, ev2, hq⟩ := Option.bind_eq_some_iff.mp hq
  refine jw_iald (o := v1) dX12_compile_191 ev2 ?_
  refine jw_bipush dX12_compile_192 (v := (93 : Int32)) (by decide) ?_
  rcases jw_if hq with ⟨c3, hq⟩ | ⟨c3, hq⟩
  · refine jw_icmp_eq_t (tgt := 203) dX12_compile_194 (by decide) c3 ?_
    refine jw_iinc (L' := [some (.ref x0), none, some (.int x2), some (.int (x3 + (1 : Int32))), some (.int x4), none]) dX12_compile_203 rfl (v := (1 : Int32)) (by decide) (Nat.le_of_ble_eq_true rfl) rfl ?_
    refine jw_goto (tgt := 253) dX12_compile_206 (by decide) ?_
    exact l_X12_compile_b253 hk63 hq
  · refine jw_icmp_eq_f (tgt := 203) dX12_compile_194 (by decide) c3 ?_
    refine jw_iinc (L' := [some (.ref x0), none, some (.int x2), some (.int (x3 + (1 : Int32))), some (.int x4), none]) dX12_compile_197 rfl (v := (1 : Int32)) (by decide) (Nat.le_of_ble_eq_true rfl) rfl ?_
    refine jw_goto (tgt := 186) dX12_compile_200 (by decide) ?_
    exact hk186 _ _ _ _ _ _ _ hq

theorem l_X12_compile_b186 {hi : jw_H} {k63 : jw_H → Nat → Int32 → Int32 → Int32 → Option (Unit × jw_H)} (hk63 : ∀ (h : jw_H) (x0 : Nat) (x2 : Int32) (x3 : Int32) (x4 : Int32) (r : Unit) (h' : jw_H), k63 h x0 x2 x3 x4 = some (r, h') → jw_E 1 uX12_compile hi 63 [some (.ref x0), none, some (.int x2), some (.int x3), some (.int x4), none] [] h (.inl none) h') : ∀ (n : Nat) (h : jw_H) (x0 : Nat) (x2 : Int32) (x3 : Int32) (x4 : Int32) (r : Unit) (h' : jw_H), f_X12_compile_b186 k63 n h x0 x2 x3 x4 = some (r, h') → jw_E 1 uX12_compile hi 186 [some (.ref x0), none, some (.int x2), some (.int x3), some (.int x4), none] [] h (.inl none) h' := by
  intro n
  induction n with
  | zero => intro h x0 x2 x3 x4 r h' hq; exact nomatch hq
  | succ n ih => intro h x0 x2 x3 x4 r h' hq; exact l_X12_compile_b186g hk63 ih hq

set_option maxRecDepth 100000 in
set_option maxHeartbeats 4000000 in
theorem l_X12_compile_b248 {hi : jw_H} {k63 : jw_H → Nat → Int32 → Int32 → Int32 → Option (Unit × jw_H)} (hk63 : ∀ (h : jw_H) (x0 : Nat) (x2 : Int32) (x3 : Int32) (x4 : Int32) (r : Unit) (h' : jw_H), k63 h x0 x2 x3 x4 = some (r, h') → jw_E 1 uX12_compile hi 63 [some (.ref x0), none, some (.int x2), some (.int x3), some (.int x4), none] [] h (.inl none) h') {h : jw_H} {x0 : Nat} {x2 : Int32} {x3 : Int32} {x4 : Int32} {x5 : Int32} {t0 : Nat} {t1 : Int32} {r : Unit} {h' : jw_H} (hq : g_X12_compile_b248 k63 h x0 x2 x3 x4 x5 t0 t1 = some (r, h')) : jw_E 1 uX12_compile hi 248 [some (.ref x0), none, some (.int x2), some (.int x3), some (.int x4), some (.int x5)] [.int t1, .ref t0] h (.inl none) h' := by
  unfold g_X12_compile_b248 at hq
  refine jw_iload dX12_compile_248 rfl ?_
  obtain ⟨a1, ea1, hq⟩ := Option.bind_eq_some_iff.mp hq
  obtain ⟨eoa1, eta1⟩ := jw_rc_spec ea1
  obtain ⟨w3, h2, ew3, hq⟩ := jw_b2_spec hq
  refine jw_callV (As := [.int t1, .int x5]) (S := []) (a := a1) (v := none) dX12_compile_250 mt_X12_element in_X12_element se_X12_element lk_X12_265 (c_X12_element ew3) eta1 (by decide) rfl rfl (by decide) (Nat.le_of_ble_eq_true rfl) (by cases eoa1; rfl) ?_
  refine jw_forget [true, true, true, true, true, false] (L' := [some (.ref x0), none, some (.int x2), some (.int x3), some (.int x4), none]) rfl ?_
  exact l_X12_compile_b253 hk63 hq

set_option maxRecDepth 100000 in
set_option maxHeartbeats 4000000 in
theorem l_X12_compile_b256 {hi : jw_H} {h : jw_H} {x0 : Nat} {x3 : Int32} {r : Unit} {h' : jw_H} (hq : g_X12_compile_b256  h x0 x3 = some (r, h')) : jw_E 1 uX12_compile hi 256 [some (.ref x0), none, none, some (.int x3), none, none] [] h (.inl none) h' := by
  unfold g_X12_compile_b256 at hq
  refine jw_aload_n dX12_compile_256 (o := (some x0)) rfl ?_
  refine jw_iload_n dX12_compile_257 rfl ?_
  obtain ⟨h1, eh1, hq⟩ := Option.bind_eq_some_iff.mp hq
  refine jw_putI (o := (some x0)) dX12_compile_258 eh1 fl_X12_268 rfl rfl ?_
  cases hq
  exact jw_vret dX12_compile_261 rfl

set_option maxRecDepth 100000 in
set_option maxHeartbeats 4000000 in
theorem l_X12_compile_b63g {hi : jw_H} {k63 : jw_H → Nat → Int32 → Int32 → Int32 → Option (Unit × jw_H)} (hk63 : ∀ (h : jw_H) (x0 : Nat) (x2 : Int32) (x3 : Int32) (x4 : Int32) (r : Unit) (h' : jw_H), k63 h x0 x2 x3 x4 = some (r, h') → jw_E 1 uX12_compile hi 63 [some (.ref x0), none, some (.int x2), some (.int x3), some (.int x4), none] [] h (.inl none) h') {h : jw_H} {x0 : Nat} {x2 : Int32} {x3 : Int32} {x4 : Int32} {r : Unit} {h' : jw_H} (hq : g_X12_compile_b63 k63 h x0 x2 x3 x4 = some (r, h')) : jw_E 1 uX12_compile hi 63 [some (.ref x0), none, some (.int x2), some (.int x3), some (.int x4), none] [] h (.inl none) h' := by
  unfold g_X12_compile_b63 at hq
  refine jw_iload_n dX12_compile_63 rfl ?_
  refine jw_aload_n dX12_compile_64 (o := (some x0)) rfl ?_
  obtain ⟨v1, ev1, hq⟩ := Option.bind_eq_some_iff.mp hq
  refine jw_getI (o := (some x0)) dX12_compile_65 ev1 fl_X12_146 rfl ?_
  rcases jw_if hq with ⟨c2, hq⟩ | ⟨c2, hq⟩
  · refine jw_icmp_ge_t (tgt := 256) dX12_compile_68 (by decide) c2 ?_
    refine jw_forget [true, true, false, true, false, true] (L' := [some (.ref x0), none, none, some (.int x3), none, none]) rfl ?_
    exact l_X12_compile_b256  hq
  · refine jw_icmp_ge_f (tgt := 256) dX12_compile_68 (by decide) c2 ?_
    refine jw_aload_n dX12_compile_71 (o := (some x0)) rfl ?_
    obtain ⟨v3, ev3, hq⟩ := Option.bind_eq_some_iff.mp hq
    refine jw_getR (o := (some x0)) dX12_compile_72 ev3 fl_X12_44 rfl ?_
    refine jw_iload_n dX12_compile_75 rfl ?_
    obtain ⟨v4, ev4, hq⟩ := Option.bind_eq_some_iff.mp hq
    refine jw_iald (o := v3) dX12_compile_76 ev4 ?_
    refine jw_iload_n dX12_compile_77 rfl ?_
    rcases jw_if hq with ⟨c5, hq⟩ | ⟨c5, hq⟩
    · refine jw_icmp_eq_t (tgt := 256) dX12_compile_78 (by decide) c5 ?_
      refine jw_forget [true, true, false, true, false, true] (L' := [some (.ref x0), none, none, some (.int x3), none, none]) rfl ?_
      exact l_X12_compile_b256  hq
    · refine jw_icmp_eq_f (tgt := 256) dX12_compile_78 (by decide) c5 ?_
      refine jw_aload_n dX12_compile_81 (o := (some x0)) rfl ?_
      obtain ⟨v6, ev6, hq⟩ := Option.bind_eq_some_iff.mp hq
      refine jw_getR (o := (some x0)) dX12_compile_82 ev6 fl_X12_44 rfl ?_
      refine jw_iload_n dX12_compile_85 rfl ?_
      obtain ⟨v7, ev7, hq⟩ := Option.bind_eq_some_iff.mp hq
      refine jw_iald (o := v6) dX12_compile_86 ev7 ?_
      refine jw_istore (L' := [some (.ref x0), none, some (.int x2), some (.int x3), some (.int x4), some (.int v7)]) dX12_compile_87 (Nat.le_of_ble_eq_true rfl) rfl ?_
      refine jw_iinc (L' := [some (.ref x0), none, some (.int x2), some (.int (x3 + (1 : Int32))), some (.int x4), some (.int v7)]) dX12_compile_89 rfl (v := (1 : Int32)) (by decide) (Nat.le_of_ble_eq_true rfl) rfl ?_
      refine jw_iload dX12_compile_92 rfl ?_
      refine jw_bipush dX12_compile_94 (v := (36 : Int32)) (by decide) ?_
      rcases jw_if hq with ⟨c8, hq⟩ | ⟨c8, hq⟩
      · refine jw_icmp_ne_f (tgt := 107) dX12_compile_96 (by decide) c8 ?_
        refine jw_aload_n dX12_compile_99 (o := (some x0)) rfl ?_
        refine jw_iconst dX12_compile_100 (v := (1 : Int32)) (by decide) ?_
        obtain ⟨h34, eh34, hq⟩ := Option.bind_eq_some_iff.mp hq
        refine jw_putB (o := (some x0)) dX12_compile_101 eh34 fl_X12_262 rfl rfl ?_
        refine jw_goto (tgt := 253) dX12_compile_104 (by decide) ?_
        refine jw_forget [true, true, true, true, true, false] (L' := [some (.ref x0), none, some (.int x2), some (.int (x3 + (1 : Int32))), some (.int x4), none]) rfl ?_
        exact l_X12_compile_b253 hk63 hq
      · refine jw_icmp_ne_t (tgt := 107) dX12_compile_96 (by decide) c8 ?_
        refine jw_iload dX12_compile_107 rfl ?_
        refine jw_bipush dX12_compile_109 (v := (40 : Int32)) (by decide) ?_
        rcases jw_if hq with ⟨c9, hq⟩ | ⟨c9, hq⟩
        · refine jw_icmp_ne_f (tgt := 127) dX12_compile_111 (by decide) c9 ?_
          refine jw_iinc (L' := [some (.ref x0), none, some (.int x2), some (.int (x3 + (1 : Int32))), some (.int (x4 + (1 : Int32))), some (.int v7)]) dX12_compile_114 rfl (v := (1 : Int32)) (by decide) (Nat.le_of_ble_eq_true rfl) rfl ?_
          refine jw_aload_n dX12_compile_117 (o := (some x0)) rfl ?_
          refine jw_iconst dX12_compile_118 (v := (5 : Int32)) (by decide) ?_
          refine jw_iload dX12_compile_119 rfl ?_
          obtain ⟨a31, ea31, hq⟩ := Option.bind_eq_some_iff.mp hq
          obtain ⟨eoa31, eta31⟩ := jw_rc_spec ea31
          obtain ⟨w33, h32, ew33, hq⟩ := jw_b2_spec hq
          refine jw_callV (As := [.int (5 : Int32), .int (x4 + (1 : Int32))]) (S := []) (a := a31) (v := none) dX12_compile_121 mt_X12_element in_X12_element se_X12_element lk_X12_265 (c_X12_element ew33) eta31 (by decide) rfl rfl (by decide) (Nat.le_of_ble_eq_true rfl) (by cases eoa31; rfl) ?_
          refine jw_goto (tgt := 253) dX12_compile_124 (by decide) ?_
          refine jw_forget [true, true, true, true, true, false] (L' := [some (.ref x0), none, some (.int x2), some (.int (x3 + (1 : Int32))), some (.int (x4 + (1 : Int32))), none]) rfl ?_
          exact l_X12_compile_b253 hk63 hq
        · refine jw_icmp_ne_t (tgt := 127) dX12_compile_111 (by decide) c9 ?_
          refine jw_iload dX12_compile_127 rfl ?_
          refine jw_bipush dX12_compile_129 (v := (41 : Int32)) (by decide) ?_
          rcases jw_if hq with ⟨c10, hq⟩ | ⟨c10, hq⟩
          · refine jw_icmp_ne_f (tgt := 145) dX12_compile_131 (by decide) c10 ?_
            refine jw_aload_n dX12_compile_134 (o := (some x0)) rfl ?_
            refine jw_bipush dX12_compile_135 (v := (6 : Int32)) (by decide) ?_
            refine jw_iload dX12_compile_137 rfl ?_
            obtain ⟨a28, ea28, hq⟩ := Option.bind_eq_some_iff.mp hq
            obtain ⟨eoa28, eta28⟩ := jw_rc_spec ea28
            obtain ⟨w30, h29, ew30, hq⟩ := jw_b2_spec hq
            refine jw_callV (As := [.int (6 : Int32), .int x4]) (S := []) (a := a28) (v := none) dX12_compile_139 mt_X12_element in_X12_element se_X12_element lk_X12_265 (c_X12_element ew30) eta28 (by decide) rfl rfl (by decide) (Nat.le_of_ble_eq_true rfl) (by cases eoa28; rfl) ?_
            refine jw_goto (tgt := 253) dX12_compile_142 (by decide) ?_
            refine jw_forget [true, true, true, true, true, false] (L' := [some (.ref x0), none, some (.int x2), some (.int (x3 + (1 : Int32))), some (.int x4), none]) rfl ?_
            exact l_X12_compile_b253 hk63 hq
          · refine jw_icmp_ne_t (tgt := 145) dX12_compile_131 (by decide) c10 ?_
            refine jw_iload dX12_compile_145 rfl ?_
            refine jw_bipush dX12_compile_147 (v := (92 : Int32)) (by decide) ?_
            rcases jw_if hq with ⟨c11, hq⟩ | ⟨c11, hq⟩
            · refine jw_icmp_ne_f (tgt := 173) dX12_compile_149 (by decide) c11 ?_
              refine jw_aload_n dX12_compile_152 (o := (some x0)) rfl ?_
              refine jw_bipush dX12_compile_153 (v := (7 : Int32)) (by decide) ?_
              refine jw_aload_n dX12_compile_155 (o := (some x0)) rfl ?_
              obtain ⟨v23, ev23, hq⟩ := Option.bind_eq_some_iff.mp hq
              refine jw_getR (o := (some x0)) dX12_compile_156 ev23 fl_X12_44 rfl ?_
              refine jw_iload_n dX12_compile_159 rfl ?_
              obtain ⟨v24, ev24, hq⟩ := Option.bind_eq_some_iff.mp hq
              refine jw_iald (o := v23) dX12_compile_160 ev24 ?_
              refine jw_bipush dX12_compile_161 (v := (48 : Int32)) (by decide) ?_
              refine jw_isub dX12_compile_163 ?_
              obtain ⟨a25, ea25, hq⟩ := Option.bind_eq_some_iff.mp hq
              obtain ⟨eoa25, eta25⟩ := jw_rc_spec ea25
              obtain ⟨w27, h26, ew27, hq⟩ := jw_b2_spec hq
              refine jw_callV (As := [.int (7 : Int32), .int (v24 - (48 : Int32))]) (S := []) (a := a25) (v := none) dX12_compile_164 mt_X12_element in_X12_element se_X12_element lk_X12_265 (c_X12_element ew27) eta25 (by decide) rfl rfl (by decide) (Nat.le_of_ble_eq_true rfl) (by cases eoa25; rfl) ?_
              refine jw_iinc (L' := [some (.ref x0), none, some (.int x2), some (.int ((x3 + (1 : Int32)) + (1 : Int32))), some (.int x4), some (.int v7)]) dX12_compile_167 rfl (v := (1 : Int32)) (by decide) (Nat.le_of_ble_eq_true rfl) rfl ?_
              refine jw_goto (tgt := 253) dX12_compile_170 (by decide) ?_
              refine jw_forget [true, true, true, true, true, false] (L' := [some (.ref x0), none, some (.int x2), some (.int ((x3 + (1 : Int32)) + (1 : Int32))), some (.int x4), none]) rfl ?_
              exact l_X12_compile_b253 hk63 hq
            · refine jw_icmp_ne_t (tgt := 173) dX12_compile_149 (by decide) c11 ?_
              refine jw_iload dX12_compile_173 rfl ?_
              refine jw_bipush dX12_compile_175 (v := (91 : Int32)) (by decide) ?_
              rcases jw_if hq with ⟨c12, hq⟩ | ⟨c12, hq⟩
              · refine jw_icmp_ne_f (tgt := 209) dX12_compile_177 (by decide) c12 ?_
                refine jw_aload_n dX12_compile_180 (o := (some x0)) rfl ?_
                refine jw_iconst dX12_compile_181 (v := (4 : Int32)) (by decide) ?_
                refine jw_iload_n dX12_compile_182 rfl ?_
                obtain ⟨a20, ea20, hq⟩ := Option.bind_eq_some_iff.mp hq
                obtain ⟨eoa20, eta20⟩ := jw_rc_spec ea20
                obtain ⟨w22, h21, ew22, hq⟩ := jw_b2_spec hq
                refine jw_callV (As := [.int (4 : Int32), .int (x3 + (1 : Int32))]) (S := []) (a := a20) (v := none) dX12_compile_183 mt_X12_element in_X12_element se_X12_element lk_X12_265 (c_X12_element ew22) eta20 (by decide) rfl rfl (by decide) (Nat.le_of_ble_eq_true rfl) (by cases eoa20; rfl) ?_
                refine jw_forget [true, true, true, true, true, false] (L' := [some (.ref x0), none, some (.int x2), some (.int (x3 + (1 : Int32))), some (.int x4), none]) rfl ?_
                exact l_X12_compile_b186 hk63 jw_FU _ _ _ _ _ _ _ hq
              · refine jw_icmp_ne_t (tgt := 209) dX12_compile_177 (by decide) c12 ?_
                refine jw_iload dX12_compile_209 rfl ?_
                refine jw_bipush dX12_compile_211 (v := (42 : Int32)) (by decide) ?_
                rcases jw_if hq with ⟨c13, hq⟩ | ⟨c13, hq⟩
                · refine jw_icmp_ne_f (tgt := 235) dX12_compile_213 (by decide) c13 ?_
                  refine jw_aload_n dX12_compile_216 (o := (some x0)) rfl ?_
                  refine jw_iconst dX12_compile_217 (v := (3 : Int32)) (by decide) ?_
                  refine jw_iconst dX12_compile_218 (v := (0 : Int32)) (by decide) ?_
                  obtain ⟨a15, ea15, hq⟩ := Option.bind_eq_some_iff.mp hq
                  obtain ⟨eoa15, eta15⟩ := jw_rc_spec ea15
                  obtain ⟨w17, h16, ew17, hq⟩ := jw_b2_spec hq
                  refine jw_callV (As := [.int (3 : Int32), .int (0 : Int32)]) (S := []) (a := a15) (v := none) dX12_compile_219 mt_X12_element in_X12_element se_X12_element lk_X12_265 (c_X12_element ew17) eta15 (by decide) rfl rfl (by decide) (Nat.le_of_ble_eq_true rfl) (by cases eoa15; rfl) ?_
                  refine jw_aload_n dX12_compile_222 (o := (some x0)) rfl ?_
                  refine jw_dup dX12_compile_223 rfl ?_
                  obtain ⟨v18, ev18, hq⟩ := Option.bind_eq_some_iff.mp hq
                  refine jw_getI (o := (some x0)) dX12_compile_224 ev18 fl_X12_255 rfl ?_
                  refine jw_iconst dX12_compile_227 (v := (1 : Int32)) (by decide) ?_
                  refine jw_iadd dX12_compile_228 ?_
                  obtain ⟨h19, eh19, hq⟩ := Option.bind_eq_some_iff.mp hq
                  refine jw_putI (o := (some x0)) dX12_compile_229 eh19 fl_X12_255 rfl rfl ?_
                  refine jw_goto (tgt := 253) dX12_compile_232 (by decide) ?_
                  refine jw_forget [true, true, true, true, true, false] (L' := [some (.ref x0), none, some (.int x2), some (.int (x3 + (1 : Int32))), some (.int x4), none]) rfl ?_
                  exact l_X12_compile_b253 hk63 hq
                · refine jw_icmp_ne_t (tgt := 235) dX12_compile_213 (by decide) c13 ?_
                  refine jw_aload_n dX12_compile_235 (o := (some x0)) rfl ?_
                  refine jw_iload dX12_compile_236 rfl ?_
                  refine jw_bipush dX12_compile_238 (v := (46 : Int32)) (by decide) ?_
                  rcases jw_if hq with ⟨c14, hq⟩ | ⟨c14, hq⟩
                  · refine jw_icmp_ne_f (tgt := 247) dX12_compile_240 (by decide) c14 ?_
                    refine jw_iconst dX12_compile_243 (v := (2 : Int32)) (by decide) ?_
                    refine jw_goto (tgt := 248) dX12_compile_244 (by decide) ?_
                    exact l_X12_compile_b248 hk63 hq
                  · refine jw_icmp_ne_t (tgt := 247) dX12_compile_240 (by decide) c14 ?_
                    refine jw_iconst dX12_compile_247 (v := (1 : Int32)) (by decide) ?_
                    exact l_X12_compile_b248 hk63 hq

theorem l_X12_compile_b63 {hi : jw_H} : ∀ (n : Nat) (h : jw_H) (x0 : Nat) (x2 : Int32) (x3 : Int32) (x4 : Int32) (r : Unit) (h' : jw_H), f_X12_compile_b63  n h x0 x2 x3 x4 = some (r, h') → jw_E 1 uX12_compile hi 63 [some (.ref x0), none, some (.int x2), some (.int x3), some (.int x4), none] [] h (.inl none) h' := by
  intro n
  induction n with
  | zero => intro h x0 x2 x3 x4 r h' hq; exact nomatch hq
  | succ n ih => intro h x0 x2 x3 x4 r h' hq; exact l_X12_compile_b63g ih hq

set_option maxRecDepth 100000 in
set_option maxHeartbeats 4000000 in
theorem l_X12_compile_b61 {hi : jw_H} {h : jw_H} {x0 : Nat} {x2 : Int32} {x4 : Int32} {t0 : Int32} {t1 : Int32} {r : Unit} {h' : jw_H} (hq : g_X12_compile_b61  h x0 x2 x4 t0 t1 = some (r, h')) : jw_E 1 uX12_compile hi 61 [some (.ref x0), none, some (.int x2), none, some (.int x4), none] [.int t1, .int t0] h (.inl none) h' := by
  unfold g_X12_compile_b61 at hq
  refine jw_iadd dX12_compile_61 ?_
  refine jw_istore_n (L' := [some (.ref x0), none, some (.int x2), some (.int (t0 + t1)), some (.int x4), none]) dX12_compile_62 (Nat.le_of_ble_eq_true rfl) rfl ?_
  exact l_X12_compile_b63  jw_FU _ _ _ _ _ _ _ hq

set_option maxRecDepth 100000 in
set_option maxHeartbeats 4000000 in
theorem l_X12_compile_b40 {hi : jw_H} {h : jw_H} {x0 : Nat} {x2 : Int32} {x3 : Int32} {x4 : Int32} {t0 : Nat} {t1 : Int32} {r : Unit} {h' : jw_H} (hq : g_X12_compile_b40  h x0 x2 x3 x4 t0 t1 = some (r, h')) : jw_E 1 uX12_compile hi 40 [some (.ref x0), none, some (.int x2), some (.int x3), some (.int x4), none] [.int t1, .ref t0] h (.inl none) h' := by
  unfold g_X12_compile_b40 at hq
  obtain ⟨h1, eh1, hq⟩ := Option.bind_eq_some_iff.mp hq
  refine jw_putB (o := (some t0)) dX12_compile_40 eh1 fl_X12_258 rfl rfl ?_
  refine jw_aload_n dX12_compile_43 (o := (some x0)) rfl ?_
  refine jw_iconst dX12_compile_44 (v := (0 : Int32)) (by decide) ?_
  obtain ⟨h2, eh2, hq⟩ := Option.bind_eq_some_iff.mp hq
  refine jw_putB (o := (some x0)) dX12_compile_45 eh2 fl_X12_262 rfl rfl ?_
  refine jw_iload_n dX12_compile_48 rfl ?_
  refine jw_aload_n dX12_compile_49 (o := (some x0)) rfl ?_
  obtain ⟨v3, ev3, hq⟩ := Option.bind_eq_some_iff.mp hq
  refine jw_getI (o := (some x0)) dX12_compile_50 ev3 fl_X12_258 rfl ?_
  rcases jw_if hq with ⟨c4, hq⟩ | ⟨c4, hq⟩
  · refine jw_if_eq_t (tgt := 60) dX12_compile_53 (by decide) c4 ?_
    refine jw_iconst dX12_compile_60 (v := (0 : Int32)) (by decide) ?_
    refine jw_forget [true, true, true, false, true, true] (L' := [some (.ref x0), none, some (.int x2), none, some (.int x4), none]) rfl ?_
    exact l_X12_compile_b61  hq
  · refine jw_if_eq_f (tgt := 60) dX12_compile_53 (by decide) c4 ?_
    refine jw_iconst dX12_compile_56 (v := (1 : Int32)) (by decide) ?_
    refine jw_goto (tgt := 61) dX12_compile_57 (by decide) ?_
    refine jw_forget [true, true, true, false, true, true] (L' := [some (.ref x0), none, some (.int x2), none, some (.int x4), none]) rfl ?_
    exact l_X12_compile_b61  hq

set_option maxRecDepth 100000 in
set_option maxHeartbeats 4000000 in
theorem l_X12_compile_b39 {hi : jw_H} {h : jw_H} {x0 : Nat} {x2 : Int32} {x3 : Int32} {x4 : Int32} {t0 : Nat} {r : Unit} {h' : jw_H} (hq : g_X12_compile_b39  h x0 x2 x3 x4 t0 = some (r, h')) : jw_E 1 uX12_compile hi 39 [some (.ref x0), none, some (.int x2), some (.int x3), some (.int x4), none] [.ref t0] h (.inl none) h' := by
  unfold g_X12_compile_b39 at hq
  refine jw_iconst dX12_compile_39 (v := (0 : Int32)) (by decide) ?_
  exact l_X12_compile_b40  hq

set_option maxRecDepth 100000 in
set_option maxHeartbeats 4000000 in
theorem l_X12_compile {hi : jw_H} {h : jw_H} {x0 : Nat} {x1 : Int32} {x2 : Int32} {r : Unit} {h' : jw_H} (hq : f_X12_compile  h x0 x1 x2 = some (r, h')) : jw_E 1 uX12_compile hi 0 [some (.ref x0), some (.int x1), some (.int x2), none, none, none] [] h (.inl none) h' := by
  unfold f_X12_compile at hq
  refine jw_iload_n dX12_compile_0 rfl ?_
  refine jw_istore_n (L' := [some (.ref x0), some (.int x1), some (.int x2), some (.int x1), none, none]) dX12_compile_1 (Nat.le_of_ble_eq_true rfl) rfl ?_
  refine jw_iconst dX12_compile_2 (v := (0 : Int32)) (by decide) ?_
  refine jw_istore (L' := [some (.ref x0), some (.int x1), some (.int x2), some (.int x1), some (.int (0 : Int32)), none]) dX12_compile_3 (Nat.le_of_ble_eq_true rfl) rfl ?_
  refine jw_aload_n dX12_compile_5 (o := (some x0)) rfl ?_
  refine jw_iconst dX12_compile_6 (v := (0 : Int32)) (by decide) ?_
  obtain ⟨h1, eh1, hq⟩ := Option.bind_eq_some_iff.mp hq
  refine jw_putI (o := (some x0)) dX12_compile_7 eh1 fl_X12_252 rfl rfl ?_
  refine jw_aload_n dX12_compile_10 (o := (some x0)) rfl ?_
  refine jw_iconst dX12_compile_11 (v := (0 : Int32)) (by decide) ?_
  obtain ⟨h2, eh2, hq⟩ := Option.bind_eq_some_iff.mp hq
  refine jw_putI (o := (some x0)) dX12_compile_12 eh2 fl_X12_255 rfl rfl ?_
  refine jw_aload_n dX12_compile_15 (o := (some x0)) rfl ?_
  refine jw_iload_n dX12_compile_16 rfl ?_
  refine jw_aload_n dX12_compile_17 (o := (some x0)) rfl ?_
  obtain ⟨v3, ev3, hq⟩ := Option.bind_eq_some_iff.mp hq
  refine jw_getI (o := (some x0)) dX12_compile_18 ev3 fl_X12_146 rfl ?_
  rcases jw_if hq with ⟨c4, hq⟩ | ⟨c4, hq⟩
  · refine jw_icmp_ge_t (tgt := 39) dX12_compile_21 (by decide) c4 ?_
    refine jw_forget [true, false, true, true, true, true] (L' := [some (.ref x0), none, some (.int x2), some (.int x1), some (.int (0 : Int32)), none]) rfl ?_
    exact l_X12_compile_b39  hq
  · refine jw_icmp_ge_f (tgt := 39) dX12_compile_21 (by decide) c4 ?_
    refine jw_aload_n dX12_compile_24 (o := (some x0)) rfl ?_
    obtain ⟨v5, ev5, hq⟩ := Option.bind_eq_some_iff.mp hq
    refine jw_getR (o := (some x0)) dX12_compile_25 ev5 fl_X12_44 rfl ?_
    refine jw_iload_n dX12_compile_28 rfl ?_
    obtain ⟨v6, ev6, hq⟩ := Option.bind_eq_some_iff.mp hq
    refine jw_iald (o := v5) dX12_compile_29 ev6 ?_
    refine jw_bipush dX12_compile_30 (v := (94 : Int32)) (by decide) ?_
    rcases jw_if hq with ⟨c7, hq⟩ | ⟨c7, hq⟩
    · refine jw_icmp_ne_f (tgt := 39) dX12_compile_32 (by decide) c7 ?_
      refine jw_iconst dX12_compile_35 (v := (1 : Int32)) (by decide) ?_
      refine jw_goto (tgt := 40) dX12_compile_36 (by decide) ?_
      refine jw_forget [true, false, true, true, true, true] (L' := [some (.ref x0), none, some (.int x2), some (.int x1), some (.int (0 : Int32)), none]) rfl ?_
      exact l_X12_compile_b40  hq
    · refine jw_icmp_ne_t (tgt := 39) dX12_compile_32 (by decide) c7 ?_
      refine jw_forget [true, false, true, true, true, true] (L' := [some (.ref x0), none, some (.int x2), some (.int x1), some (.int (0 : Int32)), none]) rfl ?_
      exact l_X12_compile_b39  hq

theorem c_X12_compile {h : jw_H} {x0 : Nat} {x1 : Int32} {x2 : Int32} {r : Unit} {h' : jw_H} (hq : f_X12_compile h x0 x1 x2 = some (r, h')) : jw_Con (Cond.code yX12_compile cX12_compile 6 none) yX12_compile 1 [.ref x0, .int x1, .int x2] h (.inl none) h' :=
  jw_con false (plainFor_of_name (by decide +kernel)) (fun z => nomatch z) (by simp [jw_ent, jw_sl0_nil, jw_sl0_int, jw_sl0_long, jw_sl0_ref, jw_sl0_rf, jw_sl0_scr, List.replicate]) (by simp [jw_sl0_nil, jw_sl0_int, jw_sl0_long, jw_sl0_ref, jw_sl0_rf, jw_sl0_scr]) (l_X12_compile hq)


/-! X12_isInClass -/
noncomputable def g_X12_isInClass_b66 (k33 : jw_H → Nat → Int32 → Int32 → Int32 → Int32 → Option (Int32 × jw_H)) (h : jw_H) (x0 : Nat) (x2 : Int32) (x3 : Int32) (x4 : Int32) (t0 : Int32) : Option (Int32 × jw_H) :=
 k33 h x0 x2 x3 (x4 + (1 : Int32)) t0

noncomputable def g_X12_isInClass_b61 (k33 : jw_H → Nat → Int32 → Int32 → Int32 → Int32 → Option (Int32 × jw_H)) (h : jw_H) (x0 : Nat) (x2 : Int32) (x3 : Int32) (x4 : Int32) : Option (Int32 × jw_H) :=
 g_X12_isInClass_b66 k33 h x0 x2 x3 x4 (1 : Int32)

noncomputable def g_X12_isInClass_b85 (h : jw_H) (t0 : Int32) : Option (Int32 × jw_H) :=
 (jw_rb t0).bind fun v1 =>
 some (t0, h)

noncomputable def g_X12_isInClass_b33 (k33 : jw_H → Nat → Int32 → Int32 → Int32 → Int32 → Option (Int32 × jw_H)) (h : jw_H) (x0 : Nat) (x2 : Int32) (x3 : Int32) (x4 : Int32) (x5 : Int32) : Option (Int32 × jw_H) :=
 (jw_gR h 12 (some x0) 21).bind fun v1 =>
 (jw_ai h 20 v1 x4).bind fun v2 =>
 if v2 = (93 : Int32) then (if x5 = x3 then (g_X12_isInClass_b85  h (0 : Int32))
 else (g_X12_isInClass_b85  h (1 : Int32)))
 else (if x5 = 0 then ((jw_gR h 12 (some x0) 21).bind fun v6 =>
 (jw_ai h 20 v6 x4).bind fun v7 =>
 if v7 = x2 then (g_X12_isInClass_b61 k33 h x0 x2 x3 x4)
 else (g_X12_isInClass_b66 k33 h x0 x2 x3 x4 (0 : Int32)))
 else (g_X12_isInClass_b61 k33 h x0 x2 x3 x4))

noncomputable def f_X12_isInClass_b33 (n : Nat) : jw_H → Nat → Int32 → Int32 → Int32 → Int32 → Option (Int32 × jw_H) :=
 Nat.rec (fun _ _ _ _ _ _ => none) (fun _ k33 => g_X12_isInClass_b33 k33) n

noncomputable def g_X12_isInClass_b27 (h : jw_H) (x0 : Nat) (x2 : Int32) (x3 : Int32) (t0 : Int32) (t1 : Int32) : Option (Int32 × jw_H) :=
 f_X12_isInClass_b33  jw_FU h x0 x2 x3 (t0 + t1) (0 : Int32)

noncomputable def g_X12_isInClass_b16 (h : jw_H) (x0 : Nat) (x1 : Int32) (x2 : Int32) (t0 : Int32) : Option (Int32 × jw_H) :=
 if t0 = 0 then (g_X12_isInClass_b27  h x0 x2 t0 x1 (0 : Int32))
 else (g_X12_isInClass_b27  h x0 x2 t0 x1 (1 : Int32))

noncomputable def f_X12_isInClass (h : jw_H) (x0 : Nat) (x1 : Int32) (x2 : Int32) : Option (Int32 × jw_H) :=
 (jw_gR h 12 (some x0) 21).bind fun v1 =>
 (jw_ai h 20 v1 x1).bind fun v2 =>
 if v2 = (94 : Int32) then (g_X12_isInClass_b16  h x0 x1 x2 (1 : Int32))
 else (g_X12_isInClass_b16  h x0 x1 x2 (0 : Int32))

set_option maxRecDepth 100000 in
set_option maxHeartbeats 4000000 in
theorem l_X12_isInClass_b66 {hi : jw_H} {k33 : jw_H → Nat → Int32 → Int32 → Int32 → Int32 → Option (Int32 × jw_H)} (hk33 : ∀ (h : jw_H) (x0 : Nat) (x2 : Int32) (x3 : Int32) (x4 : Int32) (x5 : Int32) (r : Int32) (h' : jw_H), k33 h x0 x2 x3 x4 x5 = some (r, h') → jw_E 0 uX12_isInClass hi 33 [some (.ref x0), none, some (.int x2), some (.int x3), some (.int x4), some (.int x5)] [] h (.inl (some (.int r))) h') {h : jw_H} {x0 : Nat} {x2 : Int32} {x3 : Int32} {x4 : Int32} {t0 : Int32} {r : Int32} {h' : jw_H} (hq : g_X12_isInClass_b66 k33 h x0 x2 x3 x4 t0 = some (r, h')) : jw_E 0 uX12_isInClass hi 66 [some (.ref x0), none, some (.int x2), some (.int x3), some (.int x4), none] [.int t0] h (.inl (some (.int r))) h' := by
  unfold g_X12_isInClass_b66 at hq
  refine jw_istore (L' := [some (.ref x0), none, some (.int x2), some (.int x3), some (.int x4), some (.int t0)]) dX12_isInClass_66 (Nat.le_of_ble_eq_true rfl) rfl ?_
  refine jw_iinc (L' := [some (.ref x0), none, some (.int x2), some (.int x3), some (.int (x4 + (1 : Int32))), some (.int t0)]) dX12_isInClass_68 rfl (v := (1 : Int32)) (by decide) (Nat.le_of_ble_eq_true rfl) rfl ?_
  refine jw_goto (tgt := 33) dX12_isInClass_71 (by decide) ?_
  exact hk33 _ _ _ _ _ _ _ _ hq

set_option maxRecDepth 100000 in
set_option maxHeartbeats 4000000 in
theorem l_X12_isInClass_b61 {hi : jw_H} {k33 : jw_H → Nat → Int32 → Int32 → Int32 → Int32 → Option (Int32 × jw_H)} (hk33 : ∀ (h : jw_H) (x0 : Nat) (x2 : Int32) (x3 : Int32) (x4 : Int32) (x5 : Int32) (r : Int32) (h' : jw_H), k33 h x0 x2 x3 x4 x5 = some (r, h') → jw_E 0 uX12_isInClass hi 33 [some (.ref x0), none, some (.int x2), some (.int x3), some (.int x4), some (.int x5)] [] h (.inl (some (.int r))) h') {h : jw_H} {x0 : Nat} {x2 : Int32} {x3 : Int32} {x4 : Int32} {r : Int32} {h' : jw_H} (hq : g_X12_isInClass_b61 k33 h x0 x2 x3 x4 = some (r, h')) : jw_E 0 uX12_isInClass hi 61 [some (.ref x0), none, some (.int x2), some (.int x3), some (.int x4), none] [] h (.inl (some (.int r))) h' := by
  unfold g_X12_isInClass_b61 at hq
  refine jw_iconst dX12_isInClass_61 (v := (1 : Int32)) (by decide) ?_
  refine jw_goto (tgt := 66) dX12_isInClass_62 (by decide) ?_
  exact l_X12_isInClass_b66 hk33 hq

set_option maxRecDepth 100000 in
set_option maxHeartbeats 4000000 in
theorem l_X12_isInClass_b85 {hi : jw_H} {h : jw_H} {t0 : Int32} {r : Int32} {h' : jw_H} (hq : g_X12_isInClass_b85  h t0 = some (r, h')) : jw_E 0 uX12_isInClass hi 85 [none, none, none, none, none, none] [.int t0] h (.inl (some (.int r))) h' := by
  unfold g_X12_isInClass_b85 at hq
  obtain ⟨v1, ev1, hq⟩ := Option.bind_eq_some_iff.mp hq
  cases hq
  exact jw_iret (ty := .boolean) dX12_isInClass_85 rfl (jw_rb_spec ev1)

set_option maxRecDepth 100000 in
set_option maxHeartbeats 4000000 in
theorem l_X12_isInClass_b33g {hi : jw_H} {k33 : jw_H → Nat → Int32 → Int32 → Int32 → Int32 → Option (Int32 × jw_H)} (hk33 : ∀ (h : jw_H) (x0 : Nat) (x2 : Int32) (x3 : Int32) (x4 : Int32) (x5 : Int32) (r : Int32) (h' : jw_H), k33 h x0 x2 x3 x4 x5 = some (r, h') → jw_E 0 uX12_isInClass hi 33 [some (.ref x0), none, some (.int x2), some (.int x3), some (.int x4), some (.int x5)] [] h (.inl (some (.int r))) h') {h : jw_H} {x0 : Nat} {x2 : Int32} {x3 : Int32} {x4 : Int32} {x5 : Int32} {r : Int32} {h' : jw_H} (hq : g_X12_isInClass_b33 k33 h x0 x2 x3 x4 x5 = some (r, h')) : jw_E 0 uX12_isInClass hi 33 [some (.ref x0), none, some (.int x2), some (.int x3), some (.int x4), some (.int x5)] [] h (.inl (some (.int r))) h' := by
  unfold g_X12_isInClass_b33 at hq
  refine jw_aload_n dX12_isInClass_33 (o := (some x0)) rfl ?_
  obtain ⟨v1, ev1, hq⟩ := Option.bind_eq_some_iff.mp hq
  refine jw_getR (o := (some x0)) dX12_isInClass_34 ev1 fl_X12_44 rfl ?_
  refine jw_iload dX12_isInClass_37 rfl ?_
  obtain ⟨v2, ev2, hq⟩ := Option.bind_eq_some_iff.mp hq
  refine jw_iald (o := v1) dX12_isInClass_39 ev2 ?_
  refine jw_bipush dX12_isInClass_40 (v := (93 : Int32)) (by decide) ?_
  rcases jw_if hq with ⟨c3, hq⟩ | ⟨c3, hq⟩
  · refine jw_icmp_eq_t (tgt := 74) dX12_isInClass_42 (by decide) c3 ?_
    refine jw_iload dX12_isInClass_74 rfl ?_
    refine jw_iload_n dX12_isInClass_76 rfl ?_
    rcases jw_if hq with ⟨c4, hq⟩ | ⟨c4, hq⟩
    · refine jw_icmp_eq_t (tgt := 84) dX12_isInClass_77 (by decide) c4 ?_
      refine jw_iconst dX12_isInClass_84 (v := (0 : Int32)) (by decide) ?_
      refine jw_forget [false, true, false, false, false, false] (L' := [none, none, none, none, none, none]) rfl ?_
      exact l_X12_isInClass_b85  hq
    · refine jw_icmp_eq_f (tgt := 84) dX12_isInClass_77 (by decide) c4 ?_
      refine jw_iconst dX12_isInClass_80 (v := (1 : Int32)) (by decide) ?_
      refine jw_goto (tgt := 85) dX12_isInClass_81 (by decide) ?_
      refine jw_forget [false, true, false, false, false, false] (L' := [none, none, none, none, none, none]) rfl ?_
      exact l_X12_isInClass_b85  hq
  · refine jw_icmp_eq_f (tgt := 74) dX12_isInClass_42 (by decide) c3 ?_
    refine jw_iload dX12_isInClass_45 rfl ?_
    rcases jw_if hq with ⟨c5, hq⟩ | ⟨c5, hq⟩
    · refine jw_if_ne_f (tgt := 61) dX12_isInClass_47 (by decide) c5 ?_
      refine jw_aload_n dX12_isInClass_50 (o := (some x0)) rfl ?_
      obtain ⟨v6, ev6, hq⟩ := Option.bind_eq_some_iff.mp hq
      refine jw_getR (o := (some x0)) dX12_isInClass_51 ev6 fl_X12_44 rfl ?_
      refine jw_iload dX12_isInClass_54 rfl ?_
      obtain ⟨v7, ev7, hq⟩ := Option.bind_eq_some_iff.mp hq
      refine jw_iald (o := v6) dX12_isInClass_56 ev7 ?_
      refine jw_iload_n dX12_isInClass_57 rfl ?_
      rcases jw_if hq with ⟨c8, hq⟩ | ⟨c8, hq⟩
      · refine jw_icmp_ne_f (tgt := 65) dX12_isInClass_58 (by decide) c8 ?_
        refine jw_forget [true, true, true, true, true, false] (L' := [some (.ref x0), none, some (.int x2), some (.int x3), some (.int x4), none]) rfl ?_
        exact l_X12_isInClass_b61 hk33 hq
      · refine jw_icmp_ne_t (tgt := 65) dX12_isInClass_58 (by decide) c8 ?_
        refine jw_iconst dX12_isInClass_65 (v := (0 : Int32)) (by decide) ?_
        refine jw_forget [true, true, true, true, true, false] (L' := [some (.ref x0), none, some (.int x2), some (.int x3), some (.int x4), none]) rfl ?_
        exact l_X12_isInClass_b66 hk33 hq
    · refine jw_if_ne_t (tgt := 61) dX12_isInClass_47 (by decide) c5 ?_
      refine jw_forget [true, true, true, true, true, false] (L' := [some (.ref x0), none, some (.int x2), some (.int x3), some (.int x4), none]) rfl ?_
      exact l_X12_isInClass_b61 hk33 hq

theorem l_X12_isInClass_b33 {hi : jw_H} : ∀ (n : Nat) (h : jw_H) (x0 : Nat) (x2 : Int32) (x3 : Int32) (x4 : Int32) (x5 : Int32) (r : Int32) (h' : jw_H), f_X12_isInClass_b33  n h x0 x2 x3 x4 x5 = some (r, h') → jw_E 0 uX12_isInClass hi 33 [some (.ref x0), none, some (.int x2), some (.int x3), some (.int x4), some (.int x5)] [] h (.inl (some (.int r))) h' := by
  intro n
  induction n with
  | zero => intro h x0 x2 x3 x4 x5 r h' hq; exact nomatch hq
  | succ n ih => intro h x0 x2 x3 x4 x5 r h' hq; exact l_X12_isInClass_b33g ih hq

set_option maxRecDepth 100000 in
set_option maxHeartbeats 4000000 in
theorem l_X12_isInClass_b27 {hi : jw_H} {h : jw_H} {x0 : Nat} {x2 : Int32} {x3 : Int32} {t0 : Int32} {t1 : Int32} {r : Int32} {h' : jw_H} (hq : g_X12_isInClass_b27  h x0 x2 x3 t0 t1 = some (r, h')) : jw_E 0 uX12_isInClass hi 27 [some (.ref x0), none, some (.int x2), some (.int x3), none, none] [.int t1, .int t0] h (.inl (some (.int r))) h' := by
  unfold g_X12_isInClass_b27 at hq
  refine jw_iadd dX12_isInClass_27 ?_
  refine jw_istore (L' := [some (.ref x0), none, some (.int x2), some (.int x3), some (.int (t0 + t1)), none]) dX12_isInClass_28 (Nat.le_of_ble_eq_true rfl) rfl ?_
  refine jw_iconst dX12_isInClass_30 (v := (0 : Int32)) (by decide) ?_
  refine jw_istore (L' := [some (.ref x0), none, some (.int x2), some (.int x3), some (.int (t0 + t1)), some (.int (0 : Int32))]) dX12_isInClass_31 (Nat.le_of_ble_eq_true rfl) rfl ?_
  exact l_X12_isInClass_b33  jw_FU _ _ _ _ _ _ _ _ hq

set_option maxRecDepth 100000 in
set_option maxHeartbeats 4000000 in
theorem l_X12_isInClass_b16 {hi : jw_H} {h : jw_H} {x0 : Nat} {x1 : Int32} {x2 : Int32} {t0 : Int32} {r : Int32} {h' : jw_H} (hq : g_X12_isInClass_b16  h x0 x1 x2 t0 = some (r, h')) : jw_E 0 uX12_isInClass hi 16 [some (.ref x0), some (.int x1), some (.int x2), none, none, none] [.int t0] h (.inl (some (.int r))) h' := by
  unfold g_X12_isInClass_b16 at hq
  refine jw_istore_n (L' := [some (.ref x0), some (.int x1), some (.int x2), some (.int t0), none, none]) dX12_isInClass_16 (Nat.le_of_ble_eq_true rfl) rfl ?_
  refine jw_iload_n dX12_isInClass_17 rfl ?_
  refine jw_iload_n dX12_isInClass_18 rfl ?_
  rcases jw_if hq with ⟨c1, hq⟩ | ⟨c1, hq⟩
  · refine jw_if_eq_t (tgt := 26) dX12_isInClass_19 (by decide) c1 ?_
    refine jw_iconst dX12_isInClass_26 (v := (0 : Int32)) (by decide) ?_
    refine jw_forget [true, false, true, true, true, true] (L' := [some (.ref x0), none, some (.int x2), some (.int t0), none, none]) rfl ?_
    exact l_X12_isInClass_b27  hq
  · refine jw_if_eq_f (tgt := 26) dX12_isInClass_19 (by decide) c1 ?_
    refine jw_iconst dX12_isInClass_22 (v := (1 : Int32)) (by decide) ?_
    refine jw_goto (tgt := 27) dX12_isInClass_23 (by decide) ?_
    refine jw_forget [true, false, true, true, true, true] (L' := [some (.ref x0), none, some (.int x2), some (.int t0), none, none]) rfl ?_
    exact l_X12_isInClass_b27  hq

set_option maxRecDepth 100000 in
set_option maxHeartbeats 4000000 in
theorem l_X12_isInClass {hi : jw_H} {h : jw_H} {x0 : Nat} {x1 : Int32} {x2 : Int32} {r : Int32} {h' : jw_H} (hq : f_X12_isInClass  h x0 x1 x2 = some (r, h')) : jw_E 0 uX12_isInClass hi 0 [some (.ref x0), some (.int x1), some (.int x2), none, none, none] [] h (.inl (some (.int r))) h' := by
  unfold f_X12_isInClass at hq
  refine jw_aload_n dX12_isInClass_0 (o := (some x0)) rfl ?_
  obtain ⟨v1, ev1, hq⟩ := Option.bind_eq_some_iff.mp hq
  refine jw_getR (o := (some x0)) dX12_isInClass_1 ev1 fl_X12_44 rfl ?_
  refine jw_iload_n dX12_isInClass_4 rfl ?_
  obtain ⟨v2, ev2, hq⟩ := Option.bind_eq_some_iff.mp hq
  refine jw_iald (o := v1) dX12_isInClass_5 ev2 ?_
  refine jw_bipush dX12_isInClass_6 (v := (94 : Int32)) (by decide) ?_
  rcases jw_if hq with ⟨c3, hq⟩ | ⟨c3, hq⟩
  · refine jw_icmp_ne_f (tgt := 15) dX12_isInClass_8 (by decide) c3 ?_
    refine jw_iconst dX12_isInClass_11 (v := (1 : Int32)) (by decide) ?_
    refine jw_goto (tgt := 16) dX12_isInClass_12 (by decide) ?_
    exact l_X12_isInClass_b16  hq
  · refine jw_icmp_ne_t (tgt := 15) dX12_isInClass_8 (by decide) c3 ?_
    refine jw_iconst dX12_isInClass_15 (v := (0 : Int32)) (by decide) ?_
    exact l_X12_isInClass_b16  hq

theorem c_X12_isInClass {h : jw_H} {x0 : Nat} {x1 : Int32} {x2 : Int32} {r : Int32} {h' : jw_H} (hq : f_X12_isInClass h x0 x1 x2 = some (r, h')) : jw_Con (Cond.code yX12_isInClass cX12_isInClass 6 (some .boolean)) yX12_isInClass 0 [.ref x0, .int x1, .int x2] h (.inl (some (.int r))) h' :=
  jw_con false (plainFor_of_name (by decide +kernel)) (fun z => nomatch z) (by simp [jw_ent, jw_sl0_nil, jw_sl0_int, jw_sl0_long, jw_sl0_ref, jw_sl0_rf, jw_sl0_scr, List.replicate]) (by simp [jw_sl0_nil, jw_sl0_int, jw_sl0_long, jw_sl0_ref, jw_sl0_rf, jw_sl0_scr]) (l_X12_isInClass hq)


/-! X12_isBack -/
noncomputable def g_X12_isBack_b80 (k37 : jw_H → Nat → Int32 → Int32 → Int32 → Int32 → Int32 → Int32 → Option (Int32 × jw_H)) (h : jw_H) (x0 : Nat) (x1 : Int32) (x2 : Int32) (x3 : Int32) (x4 : Int32) (x6 : Int32) (t0 : Int32) : Option (Int32 × jw_H) :=
 k37 h x0 x1 x2 x3 x4 t0 (x6 + (1 : Int32))

noncomputable def g_X12_isBack_b37 (k37 : jw_H → Nat → Int32 → Int32 → Int32 → Int32 → Int32 → Int32 → Option (Int32 × jw_H)) (h : jw_H) (x0 : Nat) (x1 : Int32) (x2 : Int32) (x3 : Int32) (x4 : Int32) (x5 : Int32) (x6 : Int32) : Option (Int32 × jw_H) :=
 if x4 ≤ x6 then ((jw_rb x5).bind fun v2 =>
 some (x5, h))
 else (if x5 = 0 then ((jw_rb x5).bind fun v4 =>
 some (x5, h))
 else ((jw_rc h 12 (some x0)).bind fun a5 =>
 jw_b2 (f_X12_sign h a5 x1 (x2 + x6)) fun w7 h6 =>
 (jw_gR h6 12 (some x0) 38).bind fun v8 =>
 (jw_ai h6 20 v8 x3).bind fun v9 =>
 (jw_rc h6 12 (some x0)).bind fun a10 =>
 jw_b2 (f_X12_sign h6 a10 x1 (v9 + x6)) fun w12 h11 =>
 if w7 = w12 then (g_X12_isBack_b80 k37 h11 x0 x1 x2 x3 x4 x6 (1 : Int32))
 else (g_X12_isBack_b80 k37 h11 x0 x1 x2 x3 x4 x6 (0 : Int32))))

noncomputable def f_X12_isBack_b37 (n : Nat) : jw_H → Nat → Int32 → Int32 → Int32 → Int32 → Int32 → Int32 → Option (Int32 × jw_H) :=
 Nat.rec (fun _ _ _ _ _ _ _ _ => none) (fun _ k37 => g_X12_isBack_b37 k37) n

noncomputable def g_X12_isBack_b32 (h : jw_H) (x0 : Nat) (x1 : Int32) (x2 : Int32) (x3 : Int32) (x4 : Int32) (t0 : Int32) : Option (Int32 × jw_H) :=
 f_X12_isBack_b37  jw_FU h x0 x1 x2 x3 x4 t0 (0 : Int32)

noncomputable def f_X12_isBack (h : jw_H) (x0 : Nat) (x1 : Int32) (x2 : Int32) (x3 : Int32) : Option (Int32 × jw_H) :=
 (jw_gR h 12 (some x0) 39).bind fun v1 =>
 (jw_ai h 20 v1 x3).bind fun v2 =>
 (jw_gR h 12 (some x0) 38).bind fun v3 =>
 (jw_ai h 20 v3 x3).bind fun v4 =>
 (jw_rc h 12 (some x0)).bind fun a5 =>
 jw_b2 (f_X12_len h a5 x1) fun w7 h6 =>
 if w7 < (x2 + (v2 - v4)) then (g_X12_isBack_b32  h6 x0 x1 x2 x3 (v2 - v4) (0 : Int32))
 else (g_X12_isBack_b32  h6 x0 x1 x2 x3 (v2 - v4) (1 : Int32))

set_option maxRecDepth 100000 in
set_option maxHeartbeats 4000000 in
theorem l_X12_isBack_b80 {hi : jw_H} {k37 : jw_H → Nat → Int32 → Int32 → Int32 → Int32 → Int32 → Int32 → Option (Int32 × jw_H)} (hk37 : ∀ (h : jw_H) (x0 : Nat) (x1 : Int32) (x2 : Int32) (x3 : Int32) (x4 : Int32) (x5 : Int32) (x6 : Int32) (r : Int32) (h' : jw_H), k37 h x0 x1 x2 x3 x4 x5 x6 = some (r, h') → jw_E 1 uX12_isBack hi 37 [some (.ref x0), some (.int x1), some (.int x2), some (.int x3), some (.int x4), some (.int x5), some (.int x6)] [] h (.inl (some (.int r))) h') {h : jw_H} {x0 : Nat} {x1 : Int32} {x2 : Int32} {x3 : Int32} {x4 : Int32} {x6 : Int32} {t0 : Int32} {r : Int32} {h' : jw_H} (hq : g_X12_isBack_b80 k37 h x0 x1 x2 x3 x4 x6 t0 = some (r, h')) : jw_E 1 uX12_isBack hi 80 [some (.ref x0), some (.int x1), some (.int x2), some (.int x3), some (.int x4), none, some (.int x6)] [.int t0] h (.inl (some (.int r))) h' := by
  unfold g_X12_isBack_b80 at hq
  refine jw_istore (L' := [some (.ref x0), some (.int x1), some (.int x2), some (.int x3), some (.int x4), some (.int t0), some (.int x6)]) dX12_isBack_80 (Nat.le_of_ble_eq_true rfl) rfl ?_
  refine jw_iinc (L' := [some (.ref x0), some (.int x1), some (.int x2), some (.int x3), some (.int x4), some (.int t0), some (.int (x6 + (1 : Int32)))]) dX12_isBack_82 rfl (v := (1 : Int32)) (by decide) (Nat.le_of_ble_eq_true rfl) rfl ?_
  refine jw_goto (tgt := 37) dX12_isBack_85 (by decide) ?_
  exact hk37 _ _ _ _ _ _ _ _ _ _ hq

set_option maxRecDepth 100000 in
set_option maxHeartbeats 4000000 in
theorem l_X12_isBack_b37g {hi : jw_H} {k37 : jw_H → Nat → Int32 → Int32 → Int32 → Int32 → Int32 → Int32 → Option (Int32 × jw_H)} (hk37 : ∀ (h : jw_H) (x0 : Nat) (x1 : Int32) (x2 : Int32) (x3 : Int32) (x4 : Int32) (x5 : Int32) (x6 : Int32) (r : Int32) (h' : jw_H), k37 h x0 x1 x2 x3 x4 x5 x6 = some (r, h') → jw_E 1 uX12_isBack hi 37 [some (.ref x0), some (.int x1), some (.int x2), some (.int x3), some (.int x4), some (.int x5), some (.int x6)] [] h (.inl (some (.int r))) h') {h : jw_H} {x0 : Nat} {x1 : Int32} {x2 : Int32} {x3 : Int32} {x4 : Int32} {x5 : Int32} {x6 : Int32} {r : Int32} {h' : jw_H} (hq : g_X12_isBack_b37 k37 h x0 x1 x2 x3 x4 x5 x6 = some (r, h')) : jw_E 1 uX12_isBack hi 37 [some (.ref x0), some (.int x1), some (.int x2), some (.int x3), some (.int x4), some (.int x5), some (.int x6)] [] h (.inl (some (.int r))) h' := by
  unfold g_X12_isBack_b37 at hq
  refine jw_iload dX12_isBack_37 rfl ?_
  refine jw_iload dX12_isBack_39 rfl ?_
  rcases jw_if hq with ⟨c1, hq⟩ | ⟨c1, hq⟩
  · refine jw_icmp_ge_t (tgt := 88) dX12_isBack_41 (by decide) c1 ?_
    refine jw_iload dX12_isBack_88 rfl ?_
    obtain ⟨v2, ev2, hq⟩ := Option.bind_eq_some_iff.mp hq
    cases hq
    exact jw_iret (ty := .boolean) dX12_isBack_90 rfl (jw_rb_spec ev2)
  · refine jw_icmp_ge_f (tgt := 88) dX12_isBack_41 (by decide) c1 ?_
    refine jw_iload dX12_isBack_44 rfl ?_
    rcases jw_if hq with ⟨c3, hq⟩ | ⟨c3, hq⟩
    · refine jw_if_eq_t (tgt := 88) dX12_isBack_46 (by decide) c3 ?_
      refine jw_iload dX12_isBack_88 rfl ?_
      obtain ⟨v4, ev4, hq⟩ := Option.bind_eq_some_iff.mp hq
      cases hq
      exact jw_iret (ty := .boolean) dX12_isBack_90 rfl (jw_rb_spec ev4)
    · refine jw_if_eq_f (tgt := 88) dX12_isBack_46 (by decide) c3 ?_
      refine jw_aload_n dX12_isBack_49 (o := (some x0)) rfl ?_
      refine jw_iload_n dX12_isBack_50 rfl ?_
      refine jw_iload_n dX12_isBack_51 rfl ?_
      refine jw_iload dX12_isBack_52 rfl ?_
      refine jw_iadd dX12_isBack_54 ?_
      obtain ⟨a5, ea5, hq⟩ := Option.bind_eq_some_iff.mp hq
      obtain ⟨eoa5, eta5⟩ := jw_rc_spec ea5
      obtain ⟨w7, h6, ew7, hq⟩ := jw_b2_spec hq
      refine jw_callV (As := [.int x1, .int (x2 + x6)]) (S := []) (a := a5) (v := some (.int w7)) dX12_isBack_55 mt_X12_sign in_X12_sign se_X12_sign lk_X12_113 (c_X12_sign ew7) eta5 (by decide) rfl rfl (by decide) (Nat.le_of_ble_eq_true rfl) (by cases eoa5; rfl) ?_
      refine jw_aload_n dX12_isBack_58 (o := (some x0)) rfl ?_
      refine jw_iload_n dX12_isBack_59 rfl ?_
      refine jw_aload_n dX12_isBack_60 (o := (some x0)) rfl ?_
      obtain ⟨v8, ev8, hq⟩ := Option.bind_eq_some_iff.mp hq
      refine jw_getR (o := (some x0)) dX12_isBack_61 ev8 fl_X12_53 rfl ?_
      refine jw_iload_n dX12_isBack_64 rfl ?_
      obtain ⟨v9, ev9, hq⟩ := Option.bind_eq_some_iff.mp hq
      refine jw_iald (o := v8) dX12_isBack_65 ev9 ?_
      refine jw_iload dX12_isBack_66 rfl ?_
      refine jw_iadd dX12_isBack_68 ?_
      obtain ⟨a10, ea10, hq⟩ := Option.bind_eq_some_iff.mp hq
      obtain ⟨eoa10, eta10⟩ := jw_rc_spec ea10
      obtain ⟨w12, h11, ew12, hq⟩ := jw_b2_spec hq
      refine jw_callV (As := [.int x1, .int (v9 + x6)]) (S := [.int w7]) (a := a10) (v := some (.int w12)) dX12_isBack_69 mt_X12_sign in_X12_sign se_X12_sign lk_X12_113 (c_X12_sign ew12) eta10 (by decide) rfl rfl (by decide) (Nat.le_of_ble_eq_true rfl) (by cases eoa10; rfl) ?_
      rcases jw_if hq with ⟨c13, hq⟩ | ⟨c13, hq⟩
      · refine jw_icmp_ne_f (tgt := 79) dX12_isBack_72 (by decide) c13 ?_
        refine jw_iconst dX12_isBack_75 (v := (1 : Int32)) (by decide) ?_
        refine jw_goto (tgt := 80) dX12_isBack_76 (by decide) ?_
        refine jw_forget [true, true, true, true, true, false, true] (L' := [some (.ref x0), some (.int x1), some (.int x2), some (.int x3), some (.int x4), none, some (.int x6)]) rfl ?_
        exact l_X12_isBack_b80 hk37 hq
      · refine jw_icmp_ne_t (tgt := 79) dX12_isBack_72 (by decide) c13 ?_
        refine jw_iconst dX12_isBack_79 (v := (0 : Int32)) (by decide) ?_
        refine jw_forget [true, true, true, true, true, false, true] (L' := [some (.ref x0), some (.int x1), some (.int x2), some (.int x3), some (.int x4), none, some (.int x6)]) rfl ?_
        exact l_X12_isBack_b80 hk37 hq

theorem l_X12_isBack_b37 {hi : jw_H} : ∀ (n : Nat) (h : jw_H) (x0 : Nat) (x1 : Int32) (x2 : Int32) (x3 : Int32) (x4 : Int32) (x5 : Int32) (x6 : Int32) (r : Int32) (h' : jw_H), f_X12_isBack_b37  n h x0 x1 x2 x3 x4 x5 x6 = some (r, h') → jw_E 1 uX12_isBack hi 37 [some (.ref x0), some (.int x1), some (.int x2), some (.int x3), some (.int x4), some (.int x5), some (.int x6)] [] h (.inl (some (.int r))) h' := by
  intro n
  induction n with
  | zero => intro h x0 x1 x2 x3 x4 x5 x6 r h' hq; exact nomatch hq
  | succ n ih => intro h x0 x1 x2 x3 x4 x5 x6 r h' hq; exact l_X12_isBack_b37g ih hq

set_option maxRecDepth 100000 in
set_option maxHeartbeats 4000000 in
theorem l_X12_isBack_b32 {hi : jw_H} {h : jw_H} {x0 : Nat} {x1 : Int32} {x2 : Int32} {x3 : Int32} {x4 : Int32} {t0 : Int32} {r : Int32} {h' : jw_H} (hq : g_X12_isBack_b32  h x0 x1 x2 x3 x4 t0 = some (r, h')) : jw_E 1 uX12_isBack hi 32 [some (.ref x0), some (.int x1), some (.int x2), some (.int x3), some (.int x4), none, none] [.int t0] h (.inl (some (.int r))) h' := by
  unfold g_X12_isBack_b32 at hq
  refine jw_istore (L' := [some (.ref x0), some (.int x1), some (.int x2), some (.int x3), some (.int x4), some (.int t0), none]) dX12_isBack_32 (Nat.le_of_ble_eq_true rfl) rfl ?_
  refine jw_iconst dX12_isBack_34 (v := (0 : Int32)) (by decide) ?_
  refine jw_istore (L' := [some (.ref x0), some (.int x1), some (.int x2), some (.int x3), some (.int x4), some (.int t0), some (.int (0 : Int32))]) dX12_isBack_35 (Nat.le_of_ble_eq_true rfl) rfl ?_
  exact l_X12_isBack_b37  jw_FU _ _ _ _ _ _ _ _ _ _ hq

set_option maxRecDepth 100000 in
set_option maxHeartbeats 4000000 in
theorem l_X12_isBack {hi : jw_H} {h : jw_H} {x0 : Nat} {x1 : Int32} {x2 : Int32} {x3 : Int32} {r : Int32} {h' : jw_H} (hq : f_X12_isBack  h x0 x1 x2 x3 = some (r, h')) : jw_E 1 uX12_isBack hi 0 [some (.ref x0), some (.int x1), some (.int x2), some (.int x3), none, none, none] [] h (.inl (some (.int r))) h' := by
  unfold f_X12_isBack at hq
  refine jw_aload_n dX12_isBack_0 (o := (some x0)) rfl ?_
  obtain ⟨v1, ev1, hq⟩ := Option.bind_eq_some_iff.mp hq
  refine jw_getR (o := (some x0)) dX12_isBack_1 ev1 fl_X12_56 rfl ?_
  refine jw_iload_n dX12_isBack_4 rfl ?_
  obtain ⟨v2, ev2, hq⟩ := Option.bind_eq_some_iff.mp hq
  refine jw_iald (o := v1) dX12_isBack_5 ev2 ?_
  refine jw_aload_n dX12_isBack_6 (o := (some x0)) rfl ?_
  obtain ⟨v3, ev3, hq⟩ := Option.bind_eq_some_iff.mp hq
  refine jw_getR (o := (some x0)) dX12_isBack_7 ev3 fl_X12_53 rfl ?_
  refine jw_iload_n dX12_isBack_10 rfl ?_
  obtain ⟨v4, ev4, hq⟩ := Option.bind_eq_some_iff.mp hq
  refine jw_iald (o := v3) dX12_isBack_11 ev4 ?_
  refine jw_isub dX12_isBack_12 ?_
  refine jw_istore (L' := [some (.ref x0), some (.int x1), some (.int x2), some (.int x3), some (.int (v2 - v4)), none, none]) dX12_isBack_13 (Nat.le_of_ble_eq_true rfl) rfl ?_
  refine jw_iload_n dX12_isBack_15 rfl ?_
  refine jw_iload dX12_isBack_16 rfl ?_
  refine jw_iadd dX12_isBack_18 ?_
  refine jw_aload_n dX12_isBack_19 (o := (some x0)) rfl ?_
  refine jw_iload_n dX12_isBack_20 rfl ?_
  obtain ⟨a5, ea5, hq⟩ := Option.bind_eq_some_iff.mp hq
  obtain ⟨eoa5, eta5⟩ := jw_rc_spec ea5
  obtain ⟨w7, h6, ew7, hq⟩ := jw_b2_spec hq
  refine jw_callV (As := [.int x1]) (S := [.int (x2 + (v2 - v4))]) (a := a5) (v := some (.int w7)) dX12_isBack_21 mt_X12_len in_X12_len se_X12_len lk_X12_109 (c_X12_len ew7) eta5 (by decide) rfl rfl (by decide) (Nat.le_of_ble_eq_true rfl) (by cases eoa5; rfl) ?_
  rcases jw_if hq with ⟨c8, hq⟩ | ⟨c8, hq⟩
  · refine jw_icmp_gt_t (tgt := 31) dX12_isBack_24 (by decide) c8 ?_
    refine jw_iconst dX12_isBack_31 (v := (0 : Int32)) (by decide) ?_
    exact l_X12_isBack_b32  hq
  · refine jw_icmp_gt_f (tgt := 31) dX12_isBack_24 (by decide) c8 ?_
    refine jw_iconst dX12_isBack_27 (v := (1 : Int32)) (by decide) ?_
    refine jw_goto (tgt := 32) dX12_isBack_28 (by decide) ?_
    exact l_X12_isBack_b32  hq

theorem c_X12_isBack {h : jw_H} {x0 : Nat} {x1 : Int32} {x2 : Int32} {x3 : Int32} {r : Int32} {h' : jw_H} (hq : f_X12_isBack h x0 x1 x2 x3 = some (r, h')) : jw_Con (Cond.code yX12_isBack cX12_isBack 7 (some .boolean)) yX12_isBack 1 [.ref x0, .int x1, .int x2, .int x3] h (.inl (some (.int r))) h' :=
  jw_con false (plainFor_of_name (by decide +kernel)) (fun z => nomatch z) (by simp [jw_ent, jw_sl0_nil, jw_sl0_int, jw_sl0_long, jw_sl0_ref, jw_sl0_rf, jw_sl0_scr, List.replicate]) (by simp [jw_sl0_nil, jw_sl0_int, jw_sl0_long, jw_sl0_ref, jw_sl0_rf, jw_sl0_scr]) (l_X12_isBack hq)


/-! X12_fits -/
noncomputable def g_X12_fits_b248 (k16 : jw_H → Nat → Int32 → Int32 → Int32 → Int32 → Int32 → Int32 → Int32 → Option (Int32 × jw_H)) (h : jw_H) (x0 : Nat) (x1 : Int32) (x3 : Int32) (x4 : Int32) (x5 : Int32) (x6 : Int32) (x7 : Int32) (x8 : Int32) : Option (Int32 × jw_H) :=
 if x5 ≤ x7 then (k16 h x0 x1 x3 x4 x5 x6 x7 (x8 + (1 : Int32)))
 else (some ((0 : Int32), h))

noncomputable def g_X12_fits_b100 (k16 : jw_H → Nat → Int32 → Int32 → Int32 → Int32 → Int32 → Int32 → Int32 → Option (Int32 × jw_H)) (h : jw_H) (x0 : Nat) (x1 : Int32) (x3 : Int32) (x4 : Int32) (x6 : Int32) (x7 : Int32) (x8 : Int32) (t0 : Int32) (t1 : Int32) : Option (Int32 × jw_H) :=
 g_X12_fits_b248 k16 h x0 x1 x3 x4 (t0 + t1) (x6 + (1 : Int32)) x7 x8

noncomputable def g_X12_fits_b236 (k16 : jw_H → Nat → Int32 → Int32 → Int32 → Int32 → Int32 → Int32 → Int32 → Option (Int32 × jw_H)) (h : jw_H) (x0 : Nat) (x1 : Int32) (x3 : Int32) (x4 : Int32) (x5 : Int32) (x6 : Int32) (x7 : Int32) (x8 : Int32) (t0 : Int32) : Option (Int32 × jw_H) :=
 if t0 = 0 then (some ((0 : Int32), h))
 else (g_X12_fits_b248 k16 h x0 x1 x3 x4 (x5 + (1 : Int32)) x6 x7 x8)

noncomputable def g_X12_fits_b231 (k16 : jw_H → Nat → Int32 → Int32 → Int32 → Int32 → Int32 → Int32 → Int32 → Option (Int32 × jw_H)) (h : jw_H) (x0 : Nat) (x1 : Int32) (x3 : Int32) (x4 : Int32) (x5 : Int32) (x6 : Int32) (x7 : Int32) (x8 : Int32) : Option (Int32 × jw_H) :=
 g_X12_fits_b236 k16 h x0 x1 x3 x4 x5 x6 x7 x8 (1 : Int32)

noncomputable def g_X12_fits_b235 (k16 : jw_H → Nat → Int32 → Int32 → Int32 → Int32 → Int32 → Int32 → Int32 → Option (Int32 × jw_H)) (h : jw_H) (x0 : Nat) (x1 : Int32) (x3 : Int32) (x4 : Int32) (x5 : Int32) (x6 : Int32) (x7 : Int32) (x8 : Int32) : Option (Int32 × jw_H) :=
 g_X12_fits_b236 k16 h x0 x1 x3 x4 x5 x6 x7 x8 (0 : Int32)

noncomputable def g_X12_fits_b204 (k16 : jw_H → Nat → Int32 → Int32 → Int32 → Int32 → Int32 → Int32 → Int32 → Option (Int32 × jw_H)) (h : jw_H) (x0 : Nat) (x1 : Int32) (x3 : Int32) (x4 : Int32) (x5 : Int32) (x6 : Int32) (x7 : Int32) (x8 : Int32) (x9 : Int32) : Option (Int32 × jw_H) :=
 if x9 = (4 : Int32) then ((jw_gR h 12 (some x0) 32).bind fun v2 =>
 (jw_ai h 20 v2 x8).bind fun v3 =>
 (jw_rc h 12 (some x0)).bind fun a4 =>
 jw_b2 (f_X12_sign h a4 x1 x5) fun w6 h5 =>
 (jw_rc h5 12 (some x0)).bind fun a7 =>
 jw_b2 (f_X12_isInClass h5 a7 v3 w6) fun w9 h8 =>
 if w9 = 0 then (g_X12_fits_b235 k16 h8 x0 x1 x3 x4 x5 x6 x7 x8)
 else (g_X12_fits_b231 k16 h8 x0 x1 x3 x4 x5 x6 x7 x8))
 else (g_X12_fits_b235 k16 h x0 x1 x3 x4 x5 x6 x7 x8)

noncomputable def g_X12_fits_b288 (h : jw_H) (t0 : Int32) : Option (Int32 × jw_H) :=
 (jw_rb t0).bind fun v1 =>
 some (t0, h)

noncomputable def g_X12_fits_b283 (h : jw_H)  : Option (Int32 × jw_H) :=
 g_X12_fits_b288  h (1 : Int32)

noncomputable def g_X12_fits_b16 (k16 : jw_H → Nat → Int32 → Int32 → Int32 → Int32 → Int32 → Int32 → Int32 → Option (Int32 × jw_H)) (h : jw_H) (x0 : Nat) (x1 : Int32) (x3 : Int32) (x4 : Int32) (x5 : Int32) (x6 : Int32) (x7 : Int32) (x8 : Int32) : Option (Int32 × jw_H) :=
 (jw_gI h 12 (some x0) 33).bind fun v1 =>
 if v1 ≤ x8 then ((jw_pI h 12 (some x0) 41 x5).bind fun h3 =>
 (jw_gI h3 12 (some x0) 36).bind fun v4 =>
 if v4 = 0 then (g_X12_fits_b283  h3 )
 else (if x5 = x7 then (g_X12_fits_b283  h3 )
 else (g_X12_fits_b288  h3 (0 : Int32))))
 else ((jw_gR h 12 (some x0) 31).bind fun v7 =>
 (jw_ai h 20 v7 x8).bind fun v8 =>
 if v8 = (5 : Int32) then ((jw_gR h 12 (some x0) 38).bind fun v41 =>
 (jw_gR h 12 (some x0) 32).bind fun v42 =>
 (jw_ai h 20 v42 x8).bind fun v43 =>
 (jw_si h 20 v41 v43 x5).bind fun h44 =>
 g_X12_fits_b248 k16 h44 x0 x1 x3 x4 x5 x6 x7 x8)
 else (if v8 = (6 : Int32) then ((jw_gR h 12 (some x0) 39).bind fun v37 =>
 (jw_gR h 12 (some x0) 32).bind fun v38 =>
 (jw_ai h 20 v38 x8).bind fun v39 =>
 (jw_si h 20 v37 v39 x5).bind fun h40 =>
 g_X12_fits_b248 k16 h40 x0 x1 x3 x4 x5 x6 x7 x8)
 else (if v8 = (3 : Int32) then (if x6 = 0 then (g_X12_fits_b100 k16 h x0 x1 x3 x4 x6 x7 x8 x5 x3)
 else (g_X12_fits_b100 k16 h x0 x1 x3 x4 x6 x7 x8 x5 x4))
 else (if v8 = (7 : Int32) then ((jw_gR h 12 (some x0) 32).bind fun v22 =>
 (jw_ai h 20 v22 x8).bind fun v23 =>
 (jw_rc h 12 (some x0)).bind fun a24 =>
 jw_b2 (f_X12_isBack h a24 x1 x5 v23) fun w26 h25 =>
 if w26 = 0 then (some ((0 : Int32), h25))
 else ((jw_gR h25 12 (some x0) 39).bind fun v28 =>
 (jw_gR h25 12 (some x0) 32).bind fun v29 =>
 (jw_ai h25 20 v29 x8).bind fun v30 =>
 (jw_ai h25 20 v28 v30).bind fun v31 =>
 (jw_gR h25 12 (some x0) 38).bind fun v32 =>
 (jw_gR h25 12 (some x0) 32).bind fun v33 =>
 (jw_ai h25 20 v33 x8).bind fun v34 =>
 (jw_ai h25 20 v32 v34).bind fun v35 =>
 g_X12_fits_b248 k16 h25 x0 x1 x3 x4 (x5 + (v31 - v35)) x6 x7 x8))
 else (if x7 ≤ x5 then (g_X12_fits_b235 k16 h x0 x1 x3 x4 x5 x6 x7 x8)
 else (if v8 = (2 : Int32) then (g_X12_fits_b231 k16 h x0 x1 x3 x4 x5 x6 x7 x8)
 else (if v8 = (1 : Int32) then ((jw_rc h 12 (some x0)).bind fun a16 =>
 jw_b2 (f_X12_sign h a16 x1 x5) fun w18 h17 =>
 (jw_gR h17 12 (some x0) 32).bind fun v19 =>
 (jw_ai h17 20 v19 x8).bind fun v20 =>
 if w18 = v20 then (g_X12_fits_b231 k16 h17 x0 x1 x3 x4 x5 x6 x7 x8)
 else (g_X12_fits_b204 k16 h17 x0 x1 x3 x4 x5 x6 x7 x8 v8))
 else (g_X12_fits_b204 k16 h x0 x1 x3 x4 x5 x6 x7 x8 v8))))))))

noncomputable def f_X12_fits_b16 (n : Nat) : jw_H → Nat → Int32 → Int32 → Int32 → Int32 → Int32 → Int32 → Int32 → Option (Int32 × jw_H) :=
 Nat.rec (fun _ _ _ _ _ _ _ _ _ => none) (fun _ k16 => g_X12_fits_b16 k16) n

noncomputable def f_X12_fits (h : jw_H) (x0 : Nat) (x1 : Int32) (x2 : Int32) (x3 : Int32) (x4 : Int32) : Option (Int32 × jw_H) :=
 (jw_rc h 12 (some x0)).bind fun a1 =>
 jw_b2 (f_X12_len h a1 x1) fun w3 h2 =>
 f_X12_fits_b16  jw_FU h2 x0 x1 x3 x4 x2 (0 : Int32) w3 (0 : Int32)

set_option maxRecDepth 100000 in
set_option maxHeartbeats 4000000 in
theorem l_X12_fits_b248 {hi : jw_H} {k16 : jw_H → Nat → Int32 → Int32 → Int32 → Int32 → Int32 → Int32 → Int32 → Option (Int32 × jw_H)} (hk16 : ∀ (h : jw_H) (x0 : Nat) (x1 : Int32) (x3 : Int32) (x4 : Int32) (x5 : Int32) (x6 : Int32) (x7 : Int32) (x8 : Int32) (r : Int32) (h' : jw_H), k16 h x0 x1 x3 x4 x5 x6 x7 x8 = some (r, h') → jw_E 2 uX12_fits hi 16 [some (.ref x0), some (.int x1), none, some (.int x3), some (.int x4), some (.int x5), some (.int x6), some (.int x7), some (.int x8), none, none] [] h (.inl (some (.int r))) h') {h : jw_H} {x0 : Nat} {x1 : Int32} {x3 : Int32} {x4 : Int32} {x5 : Int32} {x6 : Int32} {x7 : Int32} {x8 : Int32} {r : Int32} {h' : jw_H} (hq : g_X12_fits_b248 k16 h x0 x1 x3 x4 x5 x6 x7 x8 = some (r, h')) : jw_E 2 uX12_fits hi 248 [some (.ref x0), some (.int x1), none, some (.int x3), some (.int x4), some (.int x5), some (.int x6), some (.int x7), some (.int x8), none, none] [] h (.inl (some (.int r))) h' := by
  unfold g_X12_fits_b248 at hq
  refine jw_iload dX12_fits_248 rfl ?_
  refine jw_iload dX12_fits_250 rfl ?_
  rcases jw_if hq with ⟨c1, hq⟩ | ⟨c1, hq⟩
  · refine jw_icmp_le_t (tgt := 257) dX12_fits_252 (by decide) c1 ?_
    refine jw_iinc (L' := [some (.ref x0), some (.int x1), none, some (.int x3), some (.int x4), some (.int x5), some (.int x6), some (.int x7), some (.int (x8 + (1 : Int32))), none, none]) dX12_fits_257 rfl (v := (1 : Int32)) (by decide) (Nat.le_of_ble_eq_true rfl) rfl ?_
    refine jw_goto (tgt := 16) dX12_fits_260 (by decide) ?_
    exact hk16 _ _ _ _ _ _ _ _ _ _ _ hq
  · refine jw_icmp_le_f (tgt := 257) dX12_fits_252 (by decide) c1 ?_
    refine jw_iconst dX12_fits_255 (v := (0 : Int32)) (by decide) ?_
    cases hq
    exact jw_iret (ty := .boolean) dX12_fits_256 rfl rfl

set_option maxRecDepth 100000 in
set_option maxHeartbeats 4000000 in
theorem l_X12_fits_b100 {hi : jw_H} {k16 : jw_H → Nat → Int32 → Int32 → Int32 → Int32 → Int32 → Int32 → Int32 → Option (Int32 × jw_H)} (hk16 : ∀ (h : jw_H) (x0 : Nat) (x1 : Int32) (x3 : Int32) (x4 : Int32) (x5 : Int32) (x6 : Int32) (x7 : Int32) (x8 : Int32) (r : Int32) (h' : jw_H), k16 h x0 x1 x3 x4 x5 x6 x7 x8 = some (r, h') → jw_E 2 uX12_fits hi 16 [some (.ref x0), some (.int x1), none, some (.int x3), some (.int x4), some (.int x5), some (.int x6), some (.int x7), some (.int x8), none, none] [] h (.inl (some (.int r))) h') {h : jw_H} {x0 : Nat} {x1 : Int32} {x3 : Int32} {x4 : Int32} {x6 : Int32} {x7 : Int32} {x8 : Int32} {t0 : Int32} {t1 : Int32} {r : Int32} {h' : jw_H} (hq : g_X12_fits_b100 k16 h x0 x1 x3 x4 x6 x7 x8 t0 t1 = some (r, h')) : jw_E 2 uX12_fits hi 100 [some (.ref x0), some (.int x1), none, some (.int x3), some (.int x4), none, some (.int x6), some (.int x7), some (.int x8), none, none] [.int t1, .int t0] h (.inl (some (.int r))) h' := by
  unfold g_X12_fits_b100 at hq
  refine jw_iadd dX12_fits_100 ?_
  refine jw_istore (L' := [some (.ref x0), some (.int x1), none, some (.int x3), some (.int x4), some (.int (t0 + t1)), some (.int x6), some (.int x7), some (.int x8), none, none]) dX12_fits_101 (Nat.le_of_ble_eq_true rfl) rfl ?_
  refine jw_iinc (L' := [some (.ref x0), some (.int x1), none, some (.int x3), some (.int x4), some (.int (t0 + t1)), some (.int (x6 + (1 : Int32))), some (.int x7), some (.int x8), none, none]) dX12_fits_103 rfl (v := (1 : Int32)) (by decide) (Nat.le_of_ble_eq_true rfl) rfl ?_
  refine jw_goto (tgt := 248) dX12_fits_106 (by decide) ?_
  exact l_X12_fits_b248 hk16 hq

set_option maxRecDepth 100000 in
set_option maxHeartbeats 4000000 in
theorem l_X12_fits_b236 {hi : jw_H} {k16 : jw_H → Nat → Int32 → Int32 → Int32 → Int32 → Int32 → Int32 → Int32 → Option (Int32 × jw_H)} (hk16 : ∀ (h : jw_H) (x0 : Nat) (x1 : Int32) (x3 : Int32) (x4 : Int32) (x5 : Int32) (x6 : Int32) (x7 : Int32) (x8 : Int32) (r : Int32) (h' : jw_H), k16 h x0 x1 x3 x4 x5 x6 x7 x8 = some (r, h') → jw_E 2 uX12_fits hi 16 [some (.ref x0), some (.int x1), none, some (.int x3), some (.int x4), some (.int x5), some (.int x6), some (.int x7), some (.int x8), none, none] [] h (.inl (some (.int r))) h') {h : jw_H} {x0 : Nat} {x1 : Int32} {x3 : Int32} {x4 : Int32} {x5 : Int32} {x6 : Int32} {x7 : Int32} {x8 : Int32} {t0 : Int32} {r : Int32} {h' : jw_H} (hq : g_X12_fits_b236 k16 h x0 x1 x3 x4 x5 x6 x7 x8 t0 = some (r, h')) : jw_E 2 uX12_fits hi 236 [some (.ref x0), some (.int x1), none, some (.int x3), some (.int x4), some (.int x5), some (.int x6), some (.int x7), some (.int x8), none, none] [.int t0] h (.inl (some (.int r))) h' := by
  unfold g_X12_fits_b236 at hq
  refine jw_istore (L' := [some (.ref x0), some (.int x1), none, some (.int x3), some (.int x4), some (.int x5), some (.int x6), some (.int x7), some (.int x8), none, some (.int t0)]) dX12_fits_236 (Nat.le_of_ble_eq_true rfl) rfl ?_
  refine jw_iload dX12_fits_238 rfl ?_
  rcases jw_if hq with ⟨c1, hq⟩ | ⟨c1, hq⟩
  · refine jw_if_ne_f (tgt := 245) dX12_fits_240 (by decide) c1 ?_
    refine jw_iconst dX12_fits_243 (v := (0 : Int32)) (by decide) ?_
    cases hq
    exact jw_iret (ty := .boolean) dX12_fits_244 rfl rfl
  · refine jw_if_ne_t (tgt := 245) dX12_fits_240 (by decide) c1 ?_
    refine jw_iinc (L' := [some (.ref x0), some (.int x1), none, some (.int x3), some (.int x4), some (.int (x5 + (1 : Int32))), some (.int x6), some (.int x7), some (.int x8), none, some (.int t0)]) dX12_fits_245 rfl (v := (1 : Int32)) (by decide) (Nat.le_of_ble_eq_true rfl) rfl ?_
    refine jw_forget [true, true, true, true, true, true, true, true, true, true, false] (L' := [some (.ref x0), some (.int x1), none, some (.int x3), some (.int x4), some (.int (x5 + (1 : Int32))), some (.int x6), some (.int x7), some (.int x8), none, none]) rfl ?_
    exact l_X12_fits_b248 hk16 hq

set_option maxRecDepth 100000 in
set_option maxHeartbeats 4000000 in
theorem l_X12_fits_b231 {hi : jw_H} {k16 : jw_H → Nat → Int32 → Int32 → Int32 → Int32 → Int32 → Int32 → Int32 → Option (Int32 × jw_H)} (hk16 : ∀ (h : jw_H) (x0 : Nat) (x1 : Int32) (x3 : Int32) (x4 : Int32) (x5 : Int32) (x6 : Int32) (x7 : Int32) (x8 : Int32) (r : Int32) (h' : jw_H), k16 h x0 x1 x3 x4 x5 x6 x7 x8 = some (r, h') → jw_E 2 uX12_fits hi 16 [some (.ref x0), some (.int x1), none, some (.int x3), some (.int x4), some (.int x5), some (.int x6), some (.int x7), some (.int x8), none, none] [] h (.inl (some (.int r))) h') {h : jw_H} {x0 : Nat} {x1 : Int32} {x3 : Int32} {x4 : Int32} {x5 : Int32} {x6 : Int32} {x7 : Int32} {x8 : Int32} {r : Int32} {h' : jw_H} (hq : g_X12_fits_b231 k16 h x0 x1 x3 x4 x5 x6 x7 x8 = some (r, h')) : jw_E 2 uX12_fits hi 231 [some (.ref x0), some (.int x1), none, some (.int x3), some (.int x4), some (.int x5), some (.int x6), some (.int x7), some (.int x8), none, none] [] h (.inl (some (.int r))) h' := by
  unfold g_X12_fits_b231 at hq
  refine jw_iconst dX12_fits_231 (v := (1 : Int32)) (by decide) ?_
  refine jw_goto (tgt := 236) dX12_fits_232 (by decide) ?_
  exact l_X12_fits_b236 hk16 hq

set_option maxRecDepth 100000 in
set_option maxHeartbeats 4000000 in
theorem l_X12_fits_b235 {hi : jw_H} {k16 : jw_H → Nat → Int32 → Int32 → Int32 → Int32 → Int32 → Int32 → Int32 → Option (Int32 × jw_H)} (hk16 : ∀ (h : jw_H) (x0 : Nat) (x1 : Int32) (x3 : Int32) (x4 : Int32) (x5 : Int32) (x6 : Int32) (x7 : Int32) (x8 : Int32) (r : Int32) (h' : jw_H), k16 h x0 x1 x3 x4 x5 x6 x7 x8 = some (r, h') → jw_E 2 uX12_fits hi 16 [some (.ref x0), some (.int x1), none, some (.int x3), some (.int x4), some (.int x5), some (.int x6), some (.int x7), some (.int x8), none, none] [] h (.inl (some (.int r))) h') {h : jw_H} {x0 : Nat} {x1 : Int32} {x3 : Int32} {x4 : Int32} {x5 : Int32} {x6 : Int32} {x7 : Int32} {x8 : Int32} {r : Int32} {h' : jw_H} (hq : g_X12_fits_b235 k16 h x0 x1 x3 x4 x5 x6 x7 x8 = some (r, h')) : jw_E 2 uX12_fits hi 235 [some (.ref x0), some (.int x1), none, some (.int x3), some (.int x4), some (.int x5), some (.int x6), some (.int x7), some (.int x8), none, none] [] h (.inl (some (.int r))) h' := by
  unfold g_X12_fits_b235 at hq
  refine jw_iconst dX12_fits_235 (v := (0 : Int32)) (by decide) ?_
  exact l_X12_fits_b236 hk16 hq

set_option maxRecDepth 100000 in
set_option maxHeartbeats 4000000 in
theorem l_X12_fits_b204 {hi : jw_H} {k16 : jw_H → Nat → Int32 → Int32 → Int32 → Int32 → Int32 → Int32 → Int32 → Option (Int32 × jw_H)} (hk16 : ∀ (h : jw_H) (x0 : Nat) (x1 : Int32) (x3 : Int32) (x4 : Int32) (x5 : Int32) (x6 : Int32) (x7 : Int32) (x8 : Int32) (r : Int32) (h' : jw_H), k16 h x0 x1 x3 x4 x5 x6 x7 x8 = some (r, h') → jw_E 2 uX12_fits hi 16 [some (.ref x0), some (.int x1), none, some (.int x3), some (.int x4), some (.int x5), some (.int x6), some (.int x7), some (.int x8), none, none] [] h (.inl (some (.int r))) h') {h : jw_H} {x0 : Nat} {x1 : Int32} {x3 : Int32} {x4 : Int32} {x5 : Int32} {x6 : Int32} {x7 : Int32} {x8 : Int32} {x9 : Int32} {r : Int32} {h' : jw_H} (hq : g_X12_fits_b204 k16 h x0 x1 x3 x4 x5 x6 x7 x8 x9 = some (r, h')) : jw_E 2 uX12_fits hi 204 [some (.ref x0), some (.int x1), none, some (.int x3), some (.int x4), some (.int x5), some (.int x6), some (.int x7), some (.int x8), some (.int x9), none] [] h (.inl (some (.int r))) h' := by
  unfold g_X12_fits_b204 at hq
  refine jw_iload dX12_fits_204 rfl ?_
  refine jw_iconst dX12_fits_206 (v := (4 : Int32)) (by decide) ?_
  rcases jw_if hq with ⟨c1, hq⟩ | ⟨c1, hq⟩
  · refine jw_icmp_ne_f (tgt := 235) dX12_fits_207 (by decide) c1 ?_
    refine jw_aload_n dX12_fits_210 (o := (some x0)) rfl ?_
    refine jw_aload_n dX12_fits_211 (o := (some x0)) rfl ?_
    obtain ⟨v2, ev2, hq⟩ := Option.bind_eq_some_iff.mp hq
    refine jw_getR (o := (some x0)) dX12_fits_212 ev2 fl_X12_50 rfl ?_
    refine jw_iload dX12_fits_215 rfl ?_
    obtain ⟨v3, ev3, hq⟩ := Option.bind_eq_some_iff.mp hq
    refine jw_iald (o := v2) dX12_fits_217 ev3 ?_
    refine jw_aload_n dX12_fits_218 (o := (some x0)) rfl ?_
    refine jw_iload_n dX12_fits_219 rfl ?_
    refine jw_iload dX12_fits_220 rfl ?_
    obtain ⟨a4, ea4, hq⟩ := Option.bind_eq_some_iff.mp hq
    obtain ⟨eoa4, eta4⟩ := jw_rc_spec ea4
    obtain ⟨w6, h5, ew6, hq⟩ := jw_b2_spec hq
    refine jw_callV (As := [.int x1, .int x5]) (S := [.int v3, .ref x0]) (a := a4) (v := some (.int w6)) dX12_fits_222 mt_X12_sign in_X12_sign se_X12_sign lk_X12_113 (c_X12_sign ew6) eta4 (by decide) rfl rfl (by decide) (Nat.le_of_ble_eq_true rfl) (by cases eoa4; rfl) ?_
    obtain ⟨a7, ea7, hq⟩ := Option.bind_eq_some_iff.mp hq
    obtain ⟨eoa7, eta7⟩ := jw_rc_spec ea7
    obtain ⟨w9, h8, ew9, hq⟩ := jw_b2_spec hq
    refine jw_callV (As := [.int v3, .int w6]) (S := []) (a := a7) (v := some (.int w9)) dX12_fits_225 mt_X12_isInClass in_X12_isInClass se_X12_isInClass lk_X12_275 (c_X12_isInClass ew9) eta7 (by decide) rfl rfl (by decide) (Nat.le_of_ble_eq_true rfl) (by cases eoa7; rfl) ?_
    rcases jw_if hq with ⟨c10, hq⟩ | ⟨c10, hq⟩
    · refine jw_if_eq_t (tgt := 235) dX12_fits_228 (by decide) c10 ?_
      refine jw_forget [true, true, true, true, true, true, true, true, true, false, true] (L' := [some (.ref x0), some (.int x1), none, some (.int x3), some (.int x4), some (.int x5), some (.int x6), some (.int x7), some (.int x8), none, none]) rfl ?_
      exact l_X12_fits_b235 hk16 hq
    · refine jw_if_eq_f (tgt := 235) dX12_fits_228 (by decide) c10 ?_
      refine jw_forget [true, true, true, true, true, true, true, true, true, false, true] (L' := [some (.ref x0), some (.int x1), none, some (.int x3), some (.int x4), some (.int x5), some (.int x6), some (.int x7), some (.int x8), none, none]) rfl ?_
      exact l_X12_fits_b231 hk16 hq
  · refine jw_icmp_ne_t (tgt := 235) dX12_fits_207 (by decide) c1 ?_
    refine jw_forget [true, true, true, true, true, true, true, true, true, false, true] (L' := [some (.ref x0), some (.int x1), none, some (.int x3), some (.int x4), some (.int x5), some (.int x6), some (.int x7), some (.int x8), none, none]) rfl ?_
    exact l_X12_fits_b235 hk16 hq

set_option maxRecDepth 100000 in
set_option maxHeartbeats 4000000 in
theorem l_X12_fits_b288 {hi : jw_H} {h : jw_H} {t0 : Int32} {r : Int32} {h' : jw_H} (hq : g_X12_fits_b288  h t0 = some (r, h')) : jw_E 2 uX12_fits hi 288 [none, none, none, none, none, none, none, none, none, none, none] [.int t0] h (.inl (some (.int r))) h' := by
  unfold g_X12_fits_b288 at hq
  obtain ⟨v1, ev1, hq⟩ := Option.bind_eq_some_iff.mp hq
  cases hq
  exact jw_iret (ty := .boolean) dX12_fits_288 rfl (jw_rb_spec ev1)

set_option maxRecDepth 100000 in
set_option maxHeartbeats 4000000 in
theorem l_X12_fits_b283 {hi : jw_H} {h : jw_H}  {r : Int32} {h' : jw_H} (hq : g_X12_fits_b283  h  = some (r, h')) : jw_E 2 uX12_fits hi 283 [none, none, none, none, none, none, none, none, none, none, none] [] h (.inl (some (.int r))) h' := by
  unfold g_X12_fits_b283 at hq
  refine jw_iconst dX12_fits_283 (v := (1 : Int32)) (by decide) ?_
  refine jw_goto (tgt := 288) dX12_fits_284 (by decide) ?_
  exact l_X12_fits_b288  hq

set_option maxRecDepth 100000 in
set_option maxHeartbeats 4000000 in
theorem l_X12_fits_b16g {hi : jw_H} {k16 : jw_H → Nat → Int32 → Int32 → Int32 → Int32 → Int32 → Int32 → Int32 → Option (Int32 × jw_H)} (hk16 : ∀ (h : jw_H) (x0 : Nat) (x1 : Int32) (x3 : Int32) (x4 : Int32) (x5 : Int32) (x6 : Int32) (x7 : Int32) (x8 : Int32) (r : Int32) (h' : jw_H), k16 h x0 x1 x3 x4 x5 x6 x7 x8 = some (r, h') → jw_E 2 uX12_fits hi 16 [some (.ref x0), some (.int x1), none, some (.int x3), some (.int x4), some (.int x5), some (.int x6), some (.int x7), some (.int x8), none, none] [] h (.inl (some (.int r))) h') {h : jw_H} {x0 : Nat} {x1 : Int32} {x3 : Int32} {x4 : Int32} {x5 : Int32} {x6 : Int32} {x7 : Int32} {x8 : Int32} {r : Int32} {h' : jw_H} (hq : g_X12_fits_b16 k16 h x0 x1 x3 x4 x5 x6 x7 x8 = some (r, h')) : jw_E 2 uX12_fits hi 16 [some (.ref x0), some (.int x1), none, some (.int x3), some (.int x4), some (.int x5), some (.int x6), some (.int x7), some (.int x8), none, none] [] h (.inl (some (.int r))) h' := by
  unfold g_X12_fits_b16 at hq
  refine jw_iload dX12_fits_16 rfl ?_
  refine jw_aload_n dX12_fits_18 (o := (some x0)) rfl ?_
  obtain ⟨v1, ev1, hq⟩ := Option.bind_eq_some_iff.mp hq
  refine jw_getI (o := (some x0)) dX12_fits_19 ev1 fl_X12_252 rfl ?_
  rcases jw_if hq with ⟨c2, hq⟩ | ⟨c2, hq⟩
  · refine jw_icmp_ge_t (tgt := 263) dX12_fits_22 (by decide) c2 ?_
    refine jw_aload_n dX12_fits_263 (o := (some x0)) rfl ?_
    refine jw_iload dX12_fits_264 rfl ?_
    obtain ⟨h3, eh3, hq⟩ := Option.bind_eq_some_iff.mp hq
    refine jw_putI (o := (some x0)) dX12_fits_266 eh3 fl_X12_279 rfl rfl ?_
    refine jw_aload_n dX12_fits_269 (o := (some x0)) rfl ?_
    obtain ⟨v4, ev4, hq⟩ := Option.bind_eq_some_iff.mp hq
    refine jw_getI (o := (some x0)) dX12_fits_270 ev4 fl_X12_262 rfl ?_
    rcases jw_if hq with ⟨c5, hq⟩ | ⟨c5, hq⟩
    · refine jw_if_eq_t (tgt := 283) dX12_fits_273 (by decide) c5 ?_
      refine jw_forget [false, false, true, false, false, false, false, false, false, true, true] (L' := [none, none, none, none, none, none, none, none, none, none, none]) rfl ?_
      exact l_X12_fits_b283  hq
    · refine jw_if_eq_f (tgt := 283) dX12_fits_273 (by decide) c5 ?_
      refine jw_iload dX12_fits_276 rfl ?_
      refine jw_iload dX12_fits_278 rfl ?_
      rcases jw_if hq with ⟨c6, hq⟩ | ⟨c6, hq⟩
      · refine jw_icmp_ne_f (tgt := 287) dX12_fits_280 (by decide) c6 ?_
        refine jw_forget [false, false, true, false, false, false, false, false, false, true, true] (L' := [none, none, none, none, none, none, none, none, none, none, none]) rfl ?_
        exact l_X12_fits_b283  hq
      · refine jw_icmp_ne_t (tgt := 287) dX12_fits_280 (by decide) c6 ?_
        refine jw_iconst dX12_fits_287 (v := (0 : Int32)) (by decide) ?_
        refine jw_forget [false, false, true, false, false, false, false, false, false, true, true] (L' := [none, none, none, none, none, none, none, none, none, none, none]) rfl ?_
        exact l_X12_fits_b288  hq
  · refine jw_icmp_ge_f (tgt := 263) dX12_fits_22 (by decide) c2 ?_
    refine jw_aload_n dX12_fits_25 (o := (some x0)) rfl ?_
    obtain ⟨v7, ev7, hq⟩ := Option.bind_eq_some_iff.mp hq
    refine jw_getR (o := (some x0)) dX12_fits_26 ev7 fl_X12_47 rfl ?_
    refine jw_iload dX12_fits_29 rfl ?_
    obtain ⟨v8, ev8, hq⟩ := Option.bind_eq_some_iff.mp hq
    refine jw_iald (o := v7) dX12_fits_31 ev8 ?_
    refine jw_istore (L' := [some (.ref x0), some (.int x1), none, some (.int x3), some (.int x4), some (.int x5), some (.int x6), some (.int x7), some (.int x8), some (.int v8), none]) dX12_fits_32 (Nat.le_of_ble_eq_true rfl) rfl ?_
    refine jw_iload dX12_fits_34 rfl ?_
    refine jw_iconst dX12_fits_36 (v := (5 : Int32)) (by decide) ?_
    rcases jw_if hq with ⟨c9, hq⟩ | ⟨c9, hq⟩
    · refine jw_icmp_ne_f (tgt := 57) dX12_fits_37 (by decide) c9 ?_
      refine jw_aload_n dX12_fits_40 (o := (some x0)) rfl ?_
      obtain ⟨v41, ev41, hq⟩ := Option.bind_eq_some_iff.mp hq
      refine jw_getR (o := (some x0)) dX12_fits_41 ev41 fl_X12_53 rfl ?_
      refine jw_aload_n dX12_fits_44 (o := (some x0)) rfl ?_
      obtain ⟨v42, ev42, hq⟩ := Option.bind_eq_some_iff.mp hq
      refine jw_getR (o := (some x0)) dX12_fits_45 ev42 fl_X12_50 rfl ?_
      refine jw_iload dX12_fits_48 rfl ?_
      obtain ⟨v43, ev43, hq⟩ := Option.bind_eq_some_iff.mp hq
      refine jw_iald (o := v42) dX12_fits_50 ev43 ?_
      refine jw_iload dX12_fits_51 rfl ?_
      obtain ⟨h44, eh44, hq⟩ := Option.bind_eq_some_iff.mp hq
      refine jw_iast (o := v41) dX12_fits_53 eh44 ?_
      refine jw_goto (tgt := 248) dX12_fits_54 (by decide) ?_
      refine jw_forget [true, true, true, true, true, true, true, true, true, false, true] (L' := [some (.ref x0), some (.int x1), none, some (.int x3), some (.int x4), some (.int x5), some (.int x6), some (.int x7), some (.int x8), none, none]) rfl ?_
      exact l_X12_fits_b248 hk16 hq
    · refine jw_icmp_ne_t (tgt := 57) dX12_fits_37 (by decide) c9 ?_
      refine jw_iload dX12_fits_57 rfl ?_
      refine jw_bipush dX12_fits_59 (v := (6 : Int32)) (by decide) ?_
      rcases jw_if hq with ⟨c10, hq⟩ | ⟨c10, hq⟩
      · refine jw_icmp_ne_f (tgt := 81) dX12_fits_61 (by decide) c10 ?_
        refine jw_aload_n dX12_fits_64 (o := (some x0)) rfl ?_
        obtain ⟨v37, ev37, hq⟩ := Option.bind_eq_some_iff.mp hq
        refine jw_getR (o := (some x0)) dX12_fits_65 ev37 fl_X12_56 rfl ?_
        refine jw_aload_n dX12_fits_68 (o := (some x0)) rfl ?_
        obtain ⟨v38, ev38, hq⟩ := Option.bind_eq_some_iff.mp hq
        refine jw_getR (o := (some x0)) dX12_fits_69 ev38 fl_X12_50 rfl ?_
        refine jw_iload dX12_fits_72 rfl ?_
        obtain ⟨v39, ev39, hq⟩ := Option.bind_eq_some_iff.mp hq
        refine jw_iald (o := v38) dX12_fits_74 ev39 ?_
        refine jw_iload dX12_fits_75 rfl ?_
        obtain ⟨h40, eh40, hq⟩ := Option.bind_eq_some_iff.mp hq
        refine jw_iast (o := v37) dX12_fits_77 eh40 ?_
        refine jw_goto (tgt := 248) dX12_fits_78 (by decide) ?_
        refine jw_forget [true, true, true, true, true, true, true, true, true, false, true] (L' := [some (.ref x0), some (.int x1), none, some (.int x3), some (.int x4), some (.int x5), some (.int x6), some (.int x7), some (.int x8), none, none]) rfl ?_
        exact l_X12_fits_b248 hk16 hq
      · refine jw_icmp_ne_t (tgt := 81) dX12_fits_61 (by decide) c10 ?_
        refine jw_iload dX12_fits_81 rfl ?_
        refine jw_iconst dX12_fits_83 (v := (3 : Int32)) (by decide) ?_
        rcases jw_if hq with ⟨c11, hq⟩ | ⟨c11, hq⟩
        · refine jw_icmp_ne_f (tgt := 109) dX12_fits_84 (by decide) c11 ?_
          refine jw_iload dX12_fits_87 rfl ?_
          refine jw_iload dX12_fits_89 rfl ?_
          rcases jw_if hq with ⟨c36, hq⟩ | ⟨c36, hq⟩
          · refine jw_if_ne_f (tgt := 98) dX12_fits_91 (by decide) c36 ?_
            refine jw_iload_n dX12_fits_94 rfl ?_
            refine jw_goto (tgt := 100) dX12_fits_95 (by decide) ?_
            refine jw_forget [true, true, true, true, true, false, true, true, true, false, true] (L' := [some (.ref x0), some (.int x1), none, some (.int x3), some (.int x4), none, some (.int x6), some (.int x7), some (.int x8), none, none]) rfl ?_
            exact l_X12_fits_b100 hk16 hq
          · refine jw_if_ne_t (tgt := 98) dX12_fits_91 (by decide) c36 ?_
            refine jw_iload dX12_fits_98 rfl ?_
            refine jw_forget [true, true, true, true, true, false, true, true, true, false, true] (L' := [some (.ref x0), some (.int x1), none, some (.int x3), some (.int x4), none, some (.int x6), some (.int x7), some (.int x8), none, none]) rfl ?_
            exact l_X12_fits_b100 hk16 hq
        · refine jw_icmp_ne_t (tgt := 109) dX12_fits_84 (by decide) c11 ?_
          refine jw_iload dX12_fits_109 rfl ?_
          refine jw_bipush dX12_fits_111 (v := (7 : Int32)) (by decide) ?_
          rcases jw_if hq with ⟨c12, hq⟩ | ⟨c12, hq⟩
          · refine jw_icmp_ne_f (tgt := 168) dX12_fits_113 (by decide) c12 ?_
            refine jw_aload_n dX12_fits_116 (o := (some x0)) rfl ?_
            refine jw_iload_n dX12_fits_117 rfl ?_
            refine jw_iload dX12_fits_118 rfl ?_
            refine jw_aload_n dX12_fits_120 (o := (some x0)) rfl ?_
            obtain ⟨v22, ev22, hq⟩ := Option.bind_eq_some_iff.mp hq
            refine jw_getR (o := (some x0)) dX12_fits_121 ev22 fl_X12_50 rfl ?_
            refine jw_iload dX12_fits_124 rfl ?_
            obtain ⟨v23, ev23, hq⟩ := Option.bind_eq_some_iff.mp hq
            refine jw_iald (o := v22) dX12_fits_126 ev23 ?_
            obtain ⟨a24, ea24, hq⟩ := Option.bind_eq_some_iff.mp hq
            obtain ⟨eoa24, eta24⟩ := jw_rc_spec ea24
            obtain ⟨w26, h25, ew26, hq⟩ := jw_b2_spec hq
            refine jw_callV (As := [.int x1, .int x5, .int v23]) (S := []) (a := a24) (v := some (.int w26)) dX12_fits_127 mt_X12_isBack in_X12_isBack se_X12_isBack lk_X12_271 (c_X12_isBack ew26) eta24 (by decide) rfl rfl (by decide) (Nat.le_of_ble_eq_true rfl) (by cases eoa24; rfl) ?_
            rcases jw_if hq with ⟨c27, hq⟩ | ⟨c27, hq⟩
            · refine jw_if_ne_f (tgt := 135) dX12_fits_130 (by decide) c27 ?_
              refine jw_iconst dX12_fits_133 (v := (0 : Int32)) (by decide) ?_
              cases hq
              exact jw_iret (ty := .boolean) dX12_fits_134 rfl rfl
            · refine jw_if_ne_t (tgt := 135) dX12_fits_130 (by decide) c27 ?_
              refine jw_iload dX12_fits_135 rfl ?_
              refine jw_aload_n dX12_fits_137 (o := (some x0)) rfl ?_
              obtain ⟨v28, ev28, hq⟩ := Option.bind_eq_some_iff.mp hq
              refine jw_getR (o := (some x0)) dX12_fits_138 ev28 fl_X12_56 rfl ?_
              refine jw_aload_n dX12_fits_141 (o := (some x0)) rfl ?_
              obtain ⟨v29, ev29, hq⟩ := Option.bind_eq_some_iff.mp hq
              refine jw_getR (o := (some x0)) dX12_fits_142 ev29 fl_X12_50 rfl ?_
              refine jw_iload dX12_fits_145 rfl ?_
              obtain ⟨v30, ev30, hq⟩ := Option.bind_eq_some_iff.mp hq
              refine jw_iald (o := v29) dX12_fits_147 ev30 ?_
              obtain ⟨v31, ev31, hq⟩ := Option.bind_eq_some_iff.mp hq
              refine jw_iald (o := v28) dX12_fits_148 ev31 ?_
              refine jw_aload_n dX12_fits_149 (o := (some x0)) rfl ?_
              obtain ⟨v32, ev32, hq⟩ := Option.bind_eq_some_iff.mp hq
              refine jw_getR (o := (some x0)) dX12_fits_150 ev32 fl_X12_53 rfl ?_
              refine jw_aload_n dX12_fits_153 (o := (some x0)) rfl ?_
              obtain ⟨v33, ev33, hq⟩ := Option.bind_eq_some_iff.mp hq
              refine jw_getR (o := (some x0)) dX12_fits_154 ev33 fl_X12_50 rfl ?_
              refine jw_iload dX12_fits_157 rfl ?_
              obtain ⟨v34, ev34, hq⟩ := Option.bind_eq_some_iff.mp hq
              refine jw_iald (o := v33) dX12_fits_159 ev34 ?_
              obtain ⟨v35, ev35, hq⟩ := Option.bind_eq_some_iff.mp hq
              refine jw_iald (o := v32) dX12_fits_160 ev35 ?_
              refine jw_isub dX12_fits_161 ?_
              refine jw_iadd dX12_fits_162 ?_
              refine jw_istore (L' := [some (.ref x0), some (.int x1), none, some (.int x3), some (.int x4), some (.int (x5 + (v31 - v35))), some (.int x6), some (.int x7), some (.int x8), some (.int v8), none]) dX12_fits_163 (Nat.le_of_ble_eq_true rfl) rfl ?_
              refine jw_goto (tgt := 248) dX12_fits_165 (by decide) ?_
              refine jw_forget [true, true, true, true, true, true, true, true, true, false, true] (L' := [some (.ref x0), some (.int x1), none, some (.int x3), some (.int x4), some (.int (x5 + (v31 - v35))), some (.int x6), some (.int x7), some (.int x8), none, none]) rfl ?_
              exact l_X12_fits_b248 hk16 hq
          · refine jw_icmp_ne_t (tgt := 168) dX12_fits_113 (by decide) c12 ?_
            refine jw_iload dX12_fits_168 rfl ?_
            refine jw_iload dX12_fits_170 rfl ?_
            rcases jw_if hq with ⟨c13, hq⟩ | ⟨c13, hq⟩
            · refine jw_icmp_ge_t (tgt := 235) dX12_fits_172 (by decide) c13 ?_
              refine jw_forget [true, true, true, true, true, true, true, true, true, false, true] (L' := [some (.ref x0), some (.int x1), none, some (.int x3), some (.int x4), some (.int x5), some (.int x6), some (.int x7), some (.int x8), none, none]) rfl ?_
              exact l_X12_fits_b235 hk16 hq
            · refine jw_icmp_ge_f (tgt := 235) dX12_fits_172 (by decide) c13 ?_
              refine jw_iload dX12_fits_175 rfl ?_
              refine jw_iconst dX12_fits_177 (v := (2 : Int32)) (by decide) ?_
              rcases jw_if hq with ⟨c14, hq⟩ | ⟨c14, hq⟩
              · refine jw_icmp_eq_t (tgt := 231) dX12_fits_178 (by decide) c14 ?_
                refine jw_forget [true, true, true, true, true, true, true, true, true, false, true] (L' := [some (.ref x0), some (.int x1), none, some (.int x3), some (.int x4), some (.int x5), some (.int x6), some (.int x7), some (.int x8), none, none]) rfl ?_
                exact l_X12_fits_b231 hk16 hq
              · refine jw_icmp_eq_f (tgt := 231) dX12_fits_178 (by decide) c14 ?_
                refine jw_iload dX12_fits_181 rfl ?_
                refine jw_iconst dX12_fits_183 (v := (1 : Int32)) (by decide) ?_
                rcases jw_if hq with ⟨c15, hq⟩ | ⟨c15, hq⟩
                · refine jw_icmp_ne_f (tgt := 204) dX12_fits_184 (by decide) c15 ?_
                  refine jw_aload_n dX12_fits_187 (o := (some x0)) rfl ?_
                  refine jw_iload_n dX12_fits_188 rfl ?_
                  refine jw_iload dX12_fits_189 rfl ?_
                  obtain ⟨a16, ea16, hq⟩ := Option.bind_eq_some_iff.mp hq
                  obtain ⟨eoa16, eta16⟩ := jw_rc_spec ea16
                  obtain ⟨w18, h17, ew18, hq⟩ := jw_b2_spec hq
                  refine jw_callV (As := [.int x1, .int x5]) (S := []) (a := a16) (v := some (.int w18)) dX12_fits_191 mt_X12_sign in_X12_sign se_X12_sign lk_X12_113 (c_X12_sign ew18) eta16 (by decide) rfl rfl (by decide) (Nat.le_of_ble_eq_true rfl) (by cases eoa16; rfl) ?_
                  refine jw_aload_n dX12_fits_194 (o := (some x0)) rfl ?_
                  obtain ⟨v19, ev19, hq⟩ := Option.bind_eq_some_iff.mp hq
                  refine jw_getR (o := (some x0)) dX12_fits_195 ev19 fl_X12_50 rfl ?_
                  refine jw_iload dX12_fits_198 rfl ?_
                  obtain ⟨v20, ev20, hq⟩ := Option.bind_eq_some_iff.mp hq
                  refine jw_iald (o := v19) dX12_fits_200 ev20 ?_
                  rcases jw_if hq with ⟨c21, hq⟩ | ⟨c21, hq⟩
                  · refine jw_icmp_eq_t (tgt := 231) dX12_fits_201 (by decide) c21 ?_
                    refine jw_forget [true, true, true, true, true, true, true, true, true, false, true] (L' := [some (.ref x0), some (.int x1), none, some (.int x3), some (.int x4), some (.int x5), some (.int x6), some (.int x7), some (.int x8), none, none]) rfl ?_
                    exact l_X12_fits_b231 hk16 hq
                  · refine jw_icmp_eq_f (tgt := 231) dX12_fits_201 (by decide) c21 ?_
                    exact l_X12_fits_b204 hk16 hq
                · refine jw_icmp_ne_t (tgt := 204) dX12_fits_184 (by decide) c15 ?_
                  exact l_X12_fits_b204 hk16 hq

theorem l_X12_fits_b16 {hi : jw_H} : ∀ (n : Nat) (h : jw_H) (x0 : Nat) (x1 : Int32) (x3 : Int32) (x4 : Int32) (x5 : Int32) (x6 : Int32) (x7 : Int32) (x8 : Int32) (r : Int32) (h' : jw_H), f_X12_fits_b16  n h x0 x1 x3 x4 x5 x6 x7 x8 = some (r, h') → jw_E 2 uX12_fits hi 16 [some (.ref x0), some (.int x1), none, some (.int x3), some (.int x4), some (.int x5), some (.int x6), some (.int x7), some (.int x8), none, none] [] h (.inl (some (.int r))) h' := by
  intro n
  induction n with
  | zero => intro h x0 x1 x3 x4 x5 x6 x7 x8 r h' hq; exact nomatch hq
  | succ n ih => intro h x0 x1 x3 x4 x5 x6 x7 x8 r h' hq; exact l_X12_fits_b16g ih hq

set_option maxRecDepth 100000 in
set_option maxHeartbeats 4000000 in
theorem l_X12_fits {hi : jw_H} {h : jw_H} {x0 : Nat} {x1 : Int32} {x2 : Int32} {x3 : Int32} {x4 : Int32} {r : Int32} {h' : jw_H} (hq : f_X12_fits  h x0 x1 x2 x3 x4 = some (r, h')) : jw_E 2 uX12_fits hi 0 [some (.ref x0), some (.int x1), some (.int x2), some (.int x3), some (.int x4), none, none, none, none, none, none] [] h (.inl (some (.int r))) h' := by
  unfold f_X12_fits at hq
  refine jw_iload_n dX12_fits_0 rfl ?_
  refine jw_istore (L' := [some (.ref x0), some (.int x1), some (.int x2), some (.int x3), some (.int x4), some (.int x2), none, none, none, none, none]) dX12_fits_1 (Nat.le_of_ble_eq_true rfl) rfl ?_
  refine jw_iconst dX12_fits_3 (v := (0 : Int32)) (by decide) ?_
  refine jw_istore (L' := [some (.ref x0), some (.int x1), some (.int x2), some (.int x3), some (.int x4), some (.int x2), some (.int (0 : Int32)), none, none, none, none]) dX12_fits_4 (Nat.le_of_ble_eq_true rfl) rfl ?_
  refine jw_aload_n dX12_fits_6 (o := (some x0)) rfl ?_
  refine jw_iload_n dX12_fits_7 rfl ?_
  obtain ⟨a1, ea1, hq⟩ := Option.bind_eq_some_iff.mp hq
  obtain ⟨eoa1, eta1⟩ := jw_rc_spec ea1
  obtain ⟨w3, h2, ew3, hq⟩ := jw_b2_spec hq
  refine jw_callV (As := [.int x1]) (S := []) (a := a1) (v := some (.int w3)) dX12_fits_8 mt_X12_len in_X12_len se_X12_len lk_X12_109 (c_X12_len ew3) eta1 (by decide) rfl rfl (by decide) (Nat.le_of_ble_eq_true rfl) (by cases eoa1; rfl) ?_
  refine jw_istore (L' := [some (.ref x0), some (.int x1), some (.int x2), some (.int x3), some (.int x4), some (.int x2), some (.int (0 : Int32)), some (.int w3), none, none, none]) dX12_fits_11 (Nat.le_of_ble_eq_true rfl) rfl ?_
  refine jw_iconst dX12_fits_13 (v := (0 : Int32)) (by decide) ?_
  refine jw_istore (L' := [some (.ref x0), some (.int x1), some (.int x2), some (.int x3), some (.int x4), some (.int x2), some (.int (0 : Int32)), some (.int w3), some (.int (0 : Int32)), none, none]) dX12_fits_14 (Nat.le_of_ble_eq_true rfl) rfl ?_
  refine jw_forget [true, true, false, true, true, true, true, true, true, true, true] (L' := [some (.ref x0), some (.int x1), none, some (.int x3), some (.int x4), some (.int x2), some (.int (0 : Int32)), some (.int w3), some (.int (0 : Int32)), none, none]) rfl ?_
  exact l_X12_fits_b16  jw_FU _ _ _ _ _ _ _ _ _ _ _ hq

theorem c_X12_fits {h : jw_H} {x0 : Nat} {x1 : Int32} {x2 : Int32} {x3 : Int32} {x4 : Int32} {r : Int32} {h' : jw_H} (hq : f_X12_fits h x0 x1 x2 x3 x4 = some (r, h')) : jw_Con (Cond.code yX12_fits cX12_fits 11 (some .boolean)) yX12_fits 2 [.ref x0, .int x1, .int x2, .int x3, .int x4] h (.inl (some (.int r))) h' :=
  jw_con false (plainFor_of_name (by decide +kernel)) (fun z => nomatch z) (by simp [jw_ent, jw_sl0_nil, jw_sl0_int, jw_sl0_long, jw_sl0_ref, jw_sl0_rf, jw_sl0_scr, List.replicate]) (by simp [jw_sl0_nil, jw_sl0_int, jw_sl0_long, jw_sl0_ref, jw_sl0_rf, jw_sl0_scr]) (l_X12_fits hq)


/-! X12_matches -/
noncomputable def g_X12_matches_b58 (k35 : jw_H → Nat → Int32 → Int32 → Int32 → Int32 → Option (Int32 × jw_H)) (k58 : jw_H → Nat → Int32 → Int32 → Int32 → Int32 → Int32 → Option (Int32 × jw_H)) (h : jw_H) (x0 : Nat) (x1 : Int32) (x2 : Int32) (x3 : Int32) (x4 : Int32) (x5 : Int32) : Option (Int32 × jw_H) :=
 if x5 < 0 then (k35 h x0 x1 x2 x3 (x4 + (-1 : Int32)))
 else ((jw_rc h 12 (some x0)).bind fun a2 =>
 jw_b2 (f_X12_fits h a2 x1 x2 x4 x5) fun w4 h3 =>
 if w4 = 0 then (k58 h3 x0 x1 x2 x3 x4 (x5 + (-1 : Int32)))
 else (some ((1 : Int32), h3)))

noncomputable def f_X12_matches_b58 (k35 : jw_H → Nat → Int32 → Int32 → Int32 → Int32 → Option (Int32 × jw_H)) (n : Nat) : jw_H → Nat → Int32 → Int32 → Int32 → Int32 → Int32 → Option (Int32 × jw_H) :=
 Nat.rec (fun _ _ _ _ _ _ _ => none) (fun _ k58 => g_X12_matches_b58 k35 k58) n

noncomputable def g_X12_matches_b56 (k35 : jw_H → Nat → Int32 → Int32 → Int32 → Int32 → Option (Int32 × jw_H)) (h : jw_H) (x0 : Nat) (x1 : Int32) (x2 : Int32) (x3 : Int32) (x4 : Int32) (t0 : Int32) : Option (Int32 × jw_H) :=
 f_X12_matches_b58 k35 jw_FU h x0 x1 x2 x3 x4 t0

noncomputable def g_X12_matches_b35 (k35 : jw_H → Nat → Int32 → Int32 → Int32 → Int32 → Option (Int32 × jw_H)) (h : jw_H) (x0 : Nat) (x1 : Int32) (x2 : Int32) (x3 : Int32) (x4 : Int32) : Option (Int32 × jw_H) :=
 if x4 < 0 then (some ((0 : Int32), h))
 else ((jw_gI h 12 (some x0) 34).bind fun v2 =>
 if v2 ≤ (1 : Int32) then (g_X12_matches_b56 k35 h x0 x1 x2 x3 x4 (0 : Int32))
 else (g_X12_matches_b56 k35 h x0 x1 x2 x3 x4 (x3 - x4)))

noncomputable def f_X12_matches_b35 (n : Nat) : jw_H → Nat → Int32 → Int32 → Int32 → Int32 → Option (Int32 × jw_H) :=
 Nat.rec (fun _ _ _ _ _ _ => none) (fun _ k35 => g_X12_matches_b35 k35) n

noncomputable def g_X12_matches_b33 (h : jw_H) (x0 : Nat) (x1 : Int32) (x2 : Int32) (x3 : Int32) (t0 : Int32) : Option (Int32 × jw_H) :=
 f_X12_matches_b35  jw_FU h x0 x1 x2 x3 t0

noncomputable def g_X12_matches_b13 (h : jw_H) (x0 : Nat) (x1 : Int32) (x2 : Int32) : Option (Int32 × jw_H) :=
 (jw_rc h 12 (some x0)).bind fun a1 =>
 jw_b2 (f_X12_len h a1 x1) fun w3 h2 =>
 (jw_gI h2 12 (some x0) 34).bind fun v4 =>
 if v4 ≤ 0 then (g_X12_matches_b33  h2 x0 x1 x2 (w3 - x2) (0 : Int32))
 else (g_X12_matches_b33  h2 x0 x1 x2 (w3 - x2) (w3 - x2))

noncomputable def f_X12_matches (h : jw_H) (x0 : Nat) (x1 : Int32) (x2 : Int32) : Option (Int32 × jw_H) :=
 (jw_gI h 12 (some x0) 35).bind fun v1 =>
 if v1 = 0 then (g_X12_matches_b13  h x0 x1 x2)
 else (if x2 ≤ 0 then (g_X12_matches_b13  h x0 x1 x2)
 else (some ((0 : Int32), h)))

set_option maxRecDepth 100000 in
set_option maxHeartbeats 4000000 in
theorem l_X12_matches_b58g {hi : jw_H} {k35 : jw_H → Nat → Int32 → Int32 → Int32 → Int32 → Option (Int32 × jw_H)} (hk35 : ∀ (h : jw_H) (x0 : Nat) (x1 : Int32) (x2 : Int32) (x3 : Int32) (x4 : Int32) (r : Int32) (h' : jw_H), k35 h x0 x1 x2 x3 x4 = some (r, h') → jw_E 3 uX12_matches hi 35 [some (.ref x0), some (.int x1), some (.int x2), some (.int x3), some (.int x4), none] [] h (.inl (some (.int r))) h') {k58 : jw_H → Nat → Int32 → Int32 → Int32 → Int32 → Int32 → Option (Int32 × jw_H)} (hk58 : ∀ (h : jw_H) (x0 : Nat) (x1 : Int32) (x2 : Int32) (x3 : Int32) (x4 : Int32) (x5 : Int32) (r : Int32) (h' : jw_H), k58 h x0 x1 x2 x3 x4 x5 = some (r, h') → jw_E 3 uX12_matches hi 58 [some (.ref x0), some (.int x1), some (.int x2), some (.int x3), some (.int x4), some (.int x5)] [] h (.inl (some (.int r))) h') {h : jw_H} {x0 : Nat} {x1 : Int32} {x2 : Int32} {x3 : Int32} {x4 : Int32} {x5 : Int32} {r : Int32} {h' : jw_H} (hq : g_X12_matches_b58 k35 k58 h x0 x1 x2 x3 x4 x5 = some (r, h')) : jw_E 3 uX12_matches hi 58 [some (.ref x0), some (.int x1), some (.int x2), some (.int x3), some (.int x4), some (.int x5)] [] h (.inl (some (.int r))) h' := by
  unfold g_X12_matches_b58 at hq
  refine jw_iload dX12_matches_58 rfl ?_
  rcases jw_if hq with ⟨c1, hq⟩ | ⟨c1, hq⟩
  · refine jw_if_lt_t (tgt := 84) dX12_matches_60 (by decide) c1 ?_
    refine jw_iinc (L' := [some (.ref x0), some (.int x1), some (.int x2), some (.int x3), some (.int (x4 + (-1 : Int32))), some (.int x5)]) dX12_matches_84 rfl (v := (-1 : Int32)) (by decide) (Nat.le_of_ble_eq_true rfl) rfl ?_
    refine jw_goto (tgt := 35) dX12_matches_87 (by decide) ?_
    refine jw_forget [true, true, true, true, true, false] (L' := [some (.ref x0), some (.int x1), some (.int x2), some (.int x3), some (.int (x4 + (-1 : Int32))), none]) rfl ?_
    exact hk35 _ _ _ _ _ _ _ _ hq
  · refine jw_if_lt_f (tgt := 84) dX12_matches_60 (by decide) c1 ?_
    refine jw_aload_n dX12_matches_63 (o := (some x0)) rfl ?_
    refine jw_iload_n dX12_matches_64 rfl ?_
    refine jw_iload_n dX12_matches_65 rfl ?_
    refine jw_iload dX12_matches_66 rfl ?_
    refine jw_iload dX12_matches_68 rfl ?_
    obtain ⟨a2, ea2, hq⟩ := Option.bind_eq_some_iff.mp hq
    obtain ⟨eoa2, eta2⟩ := jw_rc_spec ea2
    obtain ⟨w4, h3, ew4, hq⟩ := jw_b2_spec hq
    refine jw_callV (As := [.int x1, .int x2, .int x4, .int x5]) (S := []) (a := a2) (v := some (.int w4)) dX12_matches_70 mt_X12_fits in_X12_fits se_X12_fits lk_X12_282 (c_X12_fits ew4) eta2 (by decide) rfl rfl (by decide) (Nat.le_of_ble_eq_true rfl) (by cases eoa2; rfl) ?_
    rcases jw_if hq with ⟨c5, hq⟩ | ⟨c5, hq⟩
    · refine jw_if_eq_t (tgt := 78) dX12_matches_73 (by decide) c5 ?_
      refine jw_iinc (L' := [some (.ref x0), some (.int x1), some (.int x2), some (.int x3), some (.int x4), some (.int (x5 + (-1 : Int32)))]) dX12_matches_78 rfl (v := (-1 : Int32)) (by decide) (Nat.le_of_ble_eq_true rfl) rfl ?_
      refine jw_goto (tgt := 58) dX12_matches_81 (by decide) ?_
      exact hk58 _ _ _ _ _ _ _ _ _ hq
    · refine jw_if_eq_f (tgt := 78) dX12_matches_73 (by decide) c5 ?_
      refine jw_iconst dX12_matches_76 (v := (1 : Int32)) (by decide) ?_
      cases hq
      exact jw_iret (ty := .boolean) dX12_matches_77 rfl rfl

theorem l_X12_matches_b58 {hi : jw_H} {k35 : jw_H → Nat → Int32 → Int32 → Int32 → Int32 → Option (Int32 × jw_H)} (hk35 : ∀ (h : jw_H) (x0 : Nat) (x1 : Int32) (x2 : Int32) (x3 : Int32) (x4 : Int32) (r : Int32) (h' : jw_H), k35 h x0 x1 x2 x3 x4 = some (r, h') → jw_E 3 uX12_matches hi 35 [some (.ref x0), some (.int x1), some (.int x2), some (.int x3), some (.int x4), none] [] h (.inl (some (.int r))) h') : ∀ (n : Nat) (h : jw_H) (x0 : Nat) (x1 : Int32) (x2 : Int32) (x3 : Int32) (x4 : Int32) (x5 : Int32) (r : Int32) (h' : jw_H), f_X12_matches_b58 k35 n h x0 x1 x2 x3 x4 x5 = some (r, h') → jw_E 3 uX12_matches hi 58 [some (.ref x0), some (.int x1), some (.int x2), some (.int x3), some (.int x4), some (.int x5)] [] h (.inl (some (.int r))) h' := by
  intro n
  induction n with
  | zero => intro h x0 x1 x2 x3 x4 x5 r h' hq; exact nomatch hq
  | succ n ih => intro h x0 x1 x2 x3 x4 x5 r h' hq; exact l_X12_matches_b58g hk35 ih hq

set_option maxRecDepth 100000 in
set_option maxHeartbeats 4000000 in
theorem l_X12_matches_b56 {hi : jw_H} {k35 : jw_H → Nat → Int32 → Int32 → Int32 → Int32 → Option (Int32 × jw_H)} (hk35 : ∀ (h : jw_H) (x0 : Nat) (x1 : Int32) (x2 : Int32) (x3 : Int32) (x4 : Int32) (r : Int32) (h' : jw_H), k35 h x0 x1 x2 x3 x4 = some (r, h') → jw_E 3 uX12_matches hi 35 [some (.ref x0), some (.int x1), some (.int x2), some (.int x3), some (.int x4), none] [] h (.inl (some (.int r))) h') {h : jw_H} {x0 : Nat} {x1 : Int32} {x2 : Int32} {x3 : Int32} {x4 : Int32} {t0 : Int32} {r : Int32} {h' : jw_H} (hq : g_X12_matches_b56 k35 h x0 x1 x2 x3 x4 t0 = some (r, h')) : jw_E 3 uX12_matches hi 56 [some (.ref x0), some (.int x1), some (.int x2), some (.int x3), some (.int x4), none] [.int t0] h (.inl (some (.int r))) h' := by
  unfold g_X12_matches_b56 at hq
  refine jw_istore (L' := [some (.ref x0), some (.int x1), some (.int x2), some (.int x3), some (.int x4), some (.int t0)]) dX12_matches_56 (Nat.le_of_ble_eq_true rfl) rfl ?_
  exact l_X12_matches_b58 hk35 jw_FU _ _ _ _ _ _ _ _ _ hq

set_option maxRecDepth 100000 in
set_option maxHeartbeats 4000000 in
theorem l_X12_matches_b35g {hi : jw_H} {k35 : jw_H → Nat → Int32 → Int32 → Int32 → Int32 → Option (Int32 × jw_H)} (hk35 : ∀ (h : jw_H) (x0 : Nat) (x1 : Int32) (x2 : Int32) (x3 : Int32) (x4 : Int32) (r : Int32) (h' : jw_H), k35 h x0 x1 x2 x3 x4 = some (r, h') → jw_E 3 uX12_matches hi 35 [some (.ref x0), some (.int x1), some (.int x2), some (.int x3), some (.int x4), none] [] h (.inl (some (.int r))) h') {h : jw_H} {x0 : Nat} {x1 : Int32} {x2 : Int32} {x3 : Int32} {x4 : Int32} {r : Int32} {h' : jw_H} (hq : g_X12_matches_b35 k35 h x0 x1 x2 x3 x4 = some (r, h')) : jw_E 3 uX12_matches hi 35 [some (.ref x0), some (.int x1), some (.int x2), some (.int x3), some (.int x4), none] [] h (.inl (some (.int r))) h' := by
  unfold g_X12_matches_b35 at hq
  refine jw_iload dX12_matches_35 rfl ?_
  rcases jw_if hq with ⟨c1, hq⟩ | ⟨c1, hq⟩
  · refine jw_if_lt_t (tgt := 90) dX12_matches_37 (by decide) c1 ?_
    refine jw_iconst dX12_matches_90 (v := (0 : Int32)) (by decide) ?_
    cases hq
    exact jw_iret (ty := .boolean) dX12_matches_91 rfl rfl
  · refine jw_if_lt_f (tgt := 90) dX12_matches_37 (by decide) c1 ?_
    refine jw_aload_n dX12_matches_40 (o := (some x0)) rfl ?_
    obtain ⟨v2, ev2, hq⟩ := Option.bind_eq_some_iff.mp hq
    refine jw_getI (o := (some x0)) dX12_matches_41 ev2 fl_X12_255 rfl ?_
    refine jw_iconst dX12_matches_44 (v := (1 : Int32)) (by decide) ?_
    rcases jw_if hq with ⟨c3, hq⟩ | ⟨c3, hq⟩
    · refine jw_icmp_le_t (tgt := 55) dX12_matches_45 (by decide) c3 ?_
      refine jw_iconst dX12_matches_55 (v := (0 : Int32)) (by decide) ?_
      exact l_X12_matches_b56 hk35 hq
    · refine jw_icmp_le_f (tgt := 55) dX12_matches_45 (by decide) c3 ?_
      refine jw_iload_n dX12_matches_48 rfl ?_
      refine jw_iload dX12_matches_49 rfl ?_
      refine jw_isub dX12_matches_51 ?_
      refine jw_goto (tgt := 56) dX12_matches_52 (by decide) ?_
      exact l_X12_matches_b56 hk35 hq

theorem l_X12_matches_b35 {hi : jw_H} : ∀ (n : Nat) (h : jw_H) (x0 : Nat) (x1 : Int32) (x2 : Int32) (x3 : Int32) (x4 : Int32) (r : Int32) (h' : jw_H), f_X12_matches_b35  n h x0 x1 x2 x3 x4 = some (r, h') → jw_E 3 uX12_matches hi 35 [some (.ref x0), some (.int x1), some (.int x2), some (.int x3), some (.int x4), none] [] h (.inl (some (.int r))) h' := by
  intro n
  induction n with
  | zero => intro h x0 x1 x2 x3 x4 r h' hq; exact nomatch hq
  | succ n ih => intro h x0 x1 x2 x3 x4 r h' hq; exact l_X12_matches_b35g ih hq

set_option maxRecDepth 100000 in
set_option maxHeartbeats 4000000 in
theorem l_X12_matches_b33 {hi : jw_H} {h : jw_H} {x0 : Nat} {x1 : Int32} {x2 : Int32} {x3 : Int32} {t0 : Int32} {r : Int32} {h' : jw_H} (hq : g_X12_matches_b33  h x0 x1 x2 x3 t0 = some (r, h')) : jw_E 3 uX12_matches hi 33 [some (.ref x0), some (.int x1), some (.int x2), some (.int x3), none, none] [.int t0] h (.inl (some (.int r))) h' := by
  unfold g_X12_matches_b33 at hq
  refine jw_istore (L' := [some (.ref x0), some (.int x1), some (.int x2), some (.int x3), some (.int t0), none]) dX12_matches_33 (Nat.le_of_ble_eq_true rfl) rfl ?_
  exact l_X12_matches_b35  jw_FU _ _ _ _ _ _ _ _ hq

set_option maxRecDepth 100000 in
set_option maxHeartbeats 4000000 in
theorem l_X12_matches_b13 {hi : jw_H} {h : jw_H} {x0 : Nat} {x1 : Int32} {x2 : Int32} {r : Int32} {h' : jw_H} (hq : g_X12_matches_b13  h x0 x1 x2 = some (r, h')) : jw_E 3 uX12_matches hi 13 [some (.ref x0), some (.int x1), some (.int x2), none, none, none] [] h (.inl (some (.int r))) h' := by
  unfold g_X12_matches_b13 at hq
  refine jw_aload_n dX12_matches_13 (o := (some x0)) rfl ?_
  refine jw_iload_n dX12_matches_14 rfl ?_
  obtain ⟨a1, ea1, hq⟩ := Option.bind_eq_some_iff.mp hq
  obtain ⟨eoa1, eta1⟩ := jw_rc_spec ea1
  obtain ⟨w3, h2, ew3, hq⟩ := jw_b2_spec hq
  refine jw_callV (As := [.int x1]) (S := []) (a := a1) (v := some (.int w3)) dX12_matches_15 mt_X12_len in_X12_len se_X12_len lk_X12_109 (c_X12_len ew3) eta1 (by decide) rfl rfl (by decide) (Nat.le_of_ble_eq_true rfl) (by cases eoa1; rfl) ?_
  refine jw_iload_n dX12_matches_18 rfl ?_
  refine jw_isub dX12_matches_19 ?_
  refine jw_istore_n (L' := [some (.ref x0), some (.int x1), some (.int x2), some (.int (w3 - x2)), none, none]) dX12_matches_20 (Nat.le_of_ble_eq_true rfl) rfl ?_
  refine jw_aload_n dX12_matches_21 (o := (some x0)) rfl ?_
  obtain ⟨v4, ev4, hq⟩ := Option.bind_eq_some_iff.mp hq
  refine jw_getI (o := (some x0)) dX12_matches_22 ev4 fl_X12_255 rfl ?_
  rcases jw_if hq with ⟨c5, hq⟩ | ⟨c5, hq⟩
  · refine jw_if_le_t (tgt := 32) dX12_matches_25 (by decide) c5 ?_
    refine jw_iconst dX12_matches_32 (v := (0 : Int32)) (by decide) ?_
    exact l_X12_matches_b33  hq
  · refine jw_if_le_f (tgt := 32) dX12_matches_25 (by decide) c5 ?_
    refine jw_iload_n dX12_matches_28 rfl ?_
    refine jw_goto (tgt := 33) dX12_matches_29 (by decide) ?_
    exact l_X12_matches_b33  hq

set_option maxRecDepth 100000 in
set_option maxHeartbeats 4000000 in
theorem l_X12_matches {hi : jw_H} {h : jw_H} {x0 : Nat} {x1 : Int32} {x2 : Int32} {r : Int32} {h' : jw_H} (hq : f_X12_matches  h x0 x1 x2 = some (r, h')) : jw_E 3 uX12_matches hi 0 [some (.ref x0), some (.int x1), some (.int x2), none, none, none] [] h (.inl (some (.int r))) h' := by
  unfold f_X12_matches at hq
  refine jw_aload_n dX12_matches_0 (o := (some x0)) rfl ?_
  obtain ⟨v1, ev1, hq⟩ := Option.bind_eq_some_iff.mp hq
  refine jw_getI (o := (some x0)) dX12_matches_1 ev1 fl_X12_258 rfl ?_
  rcases jw_if hq with ⟨c2, hq⟩ | ⟨c2, hq⟩
  · refine jw_if_eq_t (tgt := 13) dX12_matches_4 (by decide) c2 ?_
    exact l_X12_matches_b13  hq
  · refine jw_if_eq_f (tgt := 13) dX12_matches_4 (by decide) c2 ?_
    refine jw_iload_n dX12_matches_7 rfl ?_
    rcases jw_if hq with ⟨c3, hq⟩ | ⟨c3, hq⟩
    · refine jw_if_le_t (tgt := 13) dX12_matches_8 (by decide) c3 ?_
      exact l_X12_matches_b13  hq
    · refine jw_if_le_f (tgt := 13) dX12_matches_8 (by decide) c3 ?_
      refine jw_iconst dX12_matches_11 (v := (0 : Int32)) (by decide) ?_
      cases hq
      exact jw_iret (ty := .boolean) dX12_matches_12 rfl rfl

theorem c_X12_matches {h : jw_H} {x0 : Nat} {x1 : Int32} {x2 : Int32} {r : Int32} {h' : jw_H} (hq : f_X12_matches h x0 x1 x2 = some (r, h')) : jw_Con (Cond.code yX12_matches cX12_matches 6 (some .boolean)) yX12_matches 3 [.ref x0, .int x1, .int x2] h (.inl (some (.int r))) h' :=
  jw_con false (plainFor_of_name (by decide +kernel)) (fun z => nomatch z) (by simp [jw_ent, jw_sl0_nil, jw_sl0_int, jw_sl0_long, jw_sl0_ref, jw_sl0_rf, jw_sl0_scr, List.replicate]) (by simp [jw_sl0_nil, jw_sl0_int, jw_sl0_long, jw_sl0_ref, jw_sl0_rf, jw_sl0_scr]) (l_X12_matches hq)


/-! X12_finds -/
noncomputable def g_X12_finds_b2 (k2 : jw_H → Nat → Int32 → Int32 → Option (Int32 × jw_H)) (h : jw_H) (x0 : Nat) (x1 : Int32) (x3 : Int32) : Option (Int32 × jw_H) :=
 (jw_rc h 12 (some x0)).bind fun a1 =>
 jw_b2 (f_X12_len h a1 x1) fun w3 h2 =>
 if w3 < x3 then (some ((0 : Int32), h2))
 else ((jw_rc h2 12 (some x0)).bind fun a5 =>
 jw_b2 (f_X12_matches h2 a5 x1 x3) fun w7 h6 =>
 if w7 = 0 then (k2 h6 x0 x1 (x3 + (1 : Int32)))
 else ((jw_pI h6 12 (some x0) 40 x3).bind fun h9 =>
 some ((1 : Int32), h9)))

noncomputable def f_X12_finds_b2 (n : Nat) : jw_H → Nat → Int32 → Int32 → Option (Int32 × jw_H) :=
 Nat.rec (fun _ _ _ _ => none) (fun _ k2 => g_X12_finds_b2 k2) n

noncomputable def f_X12_finds (h : jw_H) (x0 : Nat) (x1 : Int32) (x2 : Int32) : Option (Int32 × jw_H) :=
 f_X12_finds_b2  jw_FU h x0 x1 x2

set_option maxRecDepth 100000 in
set_option maxHeartbeats 4000000 in
theorem l_X12_finds_b2g {hi : jw_H} {k2 : jw_H → Nat → Int32 → Int32 → Option (Int32 × jw_H)} (hk2 : ∀ (h : jw_H) (x0 : Nat) (x1 : Int32) (x3 : Int32) (r : Int32) (h' : jw_H), k2 h x0 x1 x3 = some (r, h') → jw_E 4 uX12_finds hi 2 [some (.ref x0), some (.int x1), none, some (.int x3)] [] h (.inl (some (.int r))) h') {h : jw_H} {x0 : Nat} {x1 : Int32} {x3 : Int32} {r : Int32} {h' : jw_H} (hq : g_X12_finds_b2 k2 h x0 x1 x3 = some (r, h')) : jw_E 4 uX12_finds hi 2 [some (.ref x0), some (.int x1), none, some (.int x3)] [] h (.inl (some (.int r))) h' := by
  unfold g_X12_finds_b2 at hq
  refine jw_iload_n dX12_finds_2 rfl ?_
  refine jw_aload_n dX12_finds_3 (o := (some x0)) rfl ?_
  refine jw_iload_n dX12_finds_4 rfl ?_
  obtain ⟨a1, ea1, hq⟩ := Option.bind_eq_some_iff.mp hq
  obtain ⟨eoa1, eta1⟩ := jw_rc_spec ea1
  obtain ⟨w3, h2, ew3, hq⟩ := jw_b2_spec hq
  refine jw_callV (As := [.int x1]) (S := [.int x3]) (a := a1) (v := some (.int w3)) dX12_finds_5 mt_X12_len in_X12_len se_X12_len lk_X12_109 (c_X12_len ew3) eta1 (by decide) rfl rfl (by decide) (Nat.le_of_ble_eq_true rfl) (by cases eoa1; rfl) ?_
  rcases jw_if hq with ⟨c4, hq⟩ | ⟨c4, hq⟩
  · refine jw_icmp_gt_t (tgt := 33) dX12_finds_8 (by decide) c4 ?_
    refine jw_iconst dX12_finds_33 (v := (0 : Int32)) (by decide) ?_
    cases hq
    exact jw_iret (ty := .boolean) dX12_finds_34 rfl rfl
  · refine jw_icmp_gt_f (tgt := 33) dX12_finds_8 (by decide) c4 ?_
    refine jw_aload_n dX12_finds_11 (o := (some x0)) rfl ?_
    refine jw_iload_n dX12_finds_12 rfl ?_
    refine jw_iload_n dX12_finds_13 rfl ?_
    obtain ⟨a5, ea5, hq⟩ := Option.bind_eq_some_iff.mp hq
    obtain ⟨eoa5, eta5⟩ := jw_rc_spec ea5
    obtain ⟨w7, h6, ew7, hq⟩ := jw_b2_spec hq
    refine jw_callV (As := [.int x1, .int x3]) (S := []) (a := a5) (v := some (.int w7)) dX12_finds_14 mt_X12_matches in_X12_matches se_X12_matches lk_X12_286 (c_X12_matches ew7) eta5 (by decide) rfl rfl (by decide) (Nat.le_of_ble_eq_true rfl) (by cases eoa5; rfl) ?_
    rcases jw_if hq with ⟨c8, hq⟩ | ⟨c8, hq⟩
    · refine jw_if_eq_t (tgt := 27) dX12_finds_17 (by decide) c8 ?_
      refine jw_iinc (L' := [some (.ref x0), some (.int x1), none, some (.int (x3 + (1 : Int32)))]) dX12_finds_27 rfl (v := (1 : Int32)) (by decide) (Nat.le_of_ble_eq_true rfl) rfl ?_
      refine jw_goto (tgt := 2) dX12_finds_30 (by decide) ?_
      exact hk2 _ _ _ _ _ _ hq
    · refine jw_if_eq_f (tgt := 27) dX12_finds_17 (by decide) c8 ?_
      refine jw_aload_n dX12_finds_20 (o := (some x0)) rfl ?_
      refine jw_iload_n dX12_finds_21 rfl ?_
      obtain ⟨h9, eh9, hq⟩ := Option.bind_eq_some_iff.mp hq
      refine jw_putI (o := (some x0)) dX12_finds_22 eh9 fl_X12_289 rfl rfl ?_
      refine jw_iconst dX12_finds_25 (v := (1 : Int32)) (by decide) ?_
      cases hq
      exact jw_iret (ty := .boolean) dX12_finds_26 rfl rfl

theorem l_X12_finds_b2 {hi : jw_H} : ∀ (n : Nat) (h : jw_H) (x0 : Nat) (x1 : Int32) (x3 : Int32) (r : Int32) (h' : jw_H), f_X12_finds_b2  n h x0 x1 x3 = some (r, h') → jw_E 4 uX12_finds hi 2 [some (.ref x0), some (.int x1), none, some (.int x3)] [] h (.inl (some (.int r))) h' := by
  intro n
  induction n with
  | zero => intro h x0 x1 x3 r h' hq; exact nomatch hq
  | succ n ih => intro h x0 x1 x3 r h' hq; exact l_X12_finds_b2g ih hq

set_option maxRecDepth 100000 in
set_option maxHeartbeats 4000000 in
theorem l_X12_finds {hi : jw_H} {h : jw_H} {x0 : Nat} {x1 : Int32} {x2 : Int32} {r : Int32} {h' : jw_H} (hq : f_X12_finds  h x0 x1 x2 = some (r, h')) : jw_E 4 uX12_finds hi 0 [some (.ref x0), some (.int x1), some (.int x2), none] [] h (.inl (some (.int r))) h' := by
  unfold f_X12_finds at hq
  refine jw_iload_n dX12_finds_0 rfl ?_
  refine jw_istore_n (L' := [some (.ref x0), some (.int x1), some (.int x2), some (.int x2)]) dX12_finds_1 (Nat.le_of_ble_eq_true rfl) rfl ?_
  refine jw_forget [true, true, false, true] (L' := [some (.ref x0), some (.int x1), none, some (.int x2)]) rfl ?_
  exact l_X12_finds_b2  jw_FU _ _ _ _ _ _ hq

theorem c_X12_finds {h : jw_H} {x0 : Nat} {x1 : Int32} {x2 : Int32} {r : Int32} {h' : jw_H} (hq : f_X12_finds h x0 x1 x2 = some (r, h')) : jw_Con (Cond.code yX12_finds cX12_finds 4 (some .boolean)) yX12_finds 4 [.ref x0, .int x1, .int x2] h (.inl (some (.int r))) h' :=
  jw_con false (plainFor_of_name (by decide +kernel)) (fun z => nomatch z) (by simp [jw_ent, jw_sl0_nil, jw_sl0_int, jw_sl0_long, jw_sl0_ref, jw_sl0_rf, jw_sl0_scr, List.replicate]) (by simp [jw_sl0_nil, jw_sl0_int, jw_sl0_long, jw_sl0_ref, jw_sl0_rf, jw_sl0_scr]) (l_X12_finds hq)


/-! X12_findsNext -/
noncomputable def g_X12_findsNext_b29 (h : jw_H) (x0 : Nat) (x1 : Int32) (x2 : Int32) : Option (Int32 × jw_H) :=
 (jw_rc h 12 (some x0)).bind fun a1 =>
 jw_b2 (f_X12_finds h a1 x1 (x2 + (1 : Int32))) fun w3 h2 =>
 (jw_rb w3).bind fun v4 =>
 some (w3, h2)

noncomputable def f_X12_findsNext (h : jw_H) (x0 : Nat) (x1 : Int32) : Option (Int32 × jw_H) :=
 (jw_gI h 12 (some x0) 41).bind fun v1 =>
 (jw_rc h 12 (some x0)).bind fun a2 =>
 jw_b2 (f_X12_matches h a2 x1 v1) fun w4 h3 =>
 if w4 = 0 then (g_X12_findsNext_b29  h3 x0 x1 v1)
 else ((jw_gI h3 12 (some x0) 41).bind fun v6 =>
 if v6 ≤ v1 then (g_X12_findsNext_b29  h3 x0 x1 v1)
 else ((jw_pI h3 12 (some x0) 40 v1).bind fun h8 =>
 some ((1 : Int32), h8)))

set_option maxRecDepth 100000 in
set_option maxHeartbeats 4000000 in
theorem l_X12_findsNext_b29 {hi : jw_H} {h : jw_H} {x0 : Nat} {x1 : Int32} {x2 : Int32} {r : Int32} {h' : jw_H} (hq : g_X12_findsNext_b29  h x0 x1 x2 = some (r, h')) : jw_E 5 uX12_findsNext hi 29 [some (.ref x0), some (.int x1), some (.int x2)] [] h (.inl (some (.int r))) h' := by
  unfold g_X12_findsNext_b29 at hq
  refine jw_aload_n dX12_findsNext_29 (o := (some x0)) rfl ?_
  refine jw_iload_n dX12_findsNext_30 rfl ?_
  refine jw_iload_n dX12_findsNext_31 rfl ?_
  refine jw_iconst dX12_findsNext_32 (v := (1 : Int32)) (by decide) ?_
  refine jw_iadd dX12_findsNext_33 ?_
  obtain ⟨a1, ea1, hq⟩ := Option.bind_eq_some_iff.mp hq
  obtain ⟨eoa1, eta1⟩ := jw_rc_spec ea1
  obtain ⟨w3, h2, ew3, hq⟩ := jw_b2_spec hq
  refine jw_callV (As := [.int x1, .int (x2 + (1 : Int32))]) (S := []) (a := a1) (v := some (.int w3)) dX12_findsNext_34 mt_X12_finds in_X12_finds se_X12_finds lk_X12_292 (c_X12_finds ew3) eta1 (by decide) rfl rfl (by decide) (Nat.le_of_ble_eq_true rfl) (by cases eoa1; rfl) ?_
  obtain ⟨v4, ev4, hq⟩ := Option.bind_eq_some_iff.mp hq
  cases hq
  exact jw_iret (ty := .boolean) dX12_findsNext_37 rfl (jw_rb_spec ev4)

set_option maxRecDepth 100000 in
set_option maxHeartbeats 4000000 in
theorem l_X12_findsNext {hi : jw_H} {h : jw_H} {x0 : Nat} {x1 : Int32} {r : Int32} {h' : jw_H} (hq : f_X12_findsNext  h x0 x1 = some (r, h')) : jw_E 5 uX12_findsNext hi 0 [some (.ref x0), some (.int x1), none] [] h (.inl (some (.int r))) h' := by
  unfold f_X12_findsNext at hq
  refine jw_aload_n dX12_findsNext_0 (o := (some x0)) rfl ?_
  obtain ⟨v1, ev1, hq⟩ := Option.bind_eq_some_iff.mp hq
  refine jw_getI (o := (some x0)) dX12_findsNext_1 ev1 fl_X12_279 rfl ?_
  refine jw_istore_n (L' := [some (.ref x0), some (.int x1), some (.int v1)]) dX12_findsNext_4 (Nat.le_of_ble_eq_true rfl) rfl ?_
  refine jw_aload_n dX12_findsNext_5 (o := (some x0)) rfl ?_
  refine jw_iload_n dX12_findsNext_6 rfl ?_
  refine jw_iload_n dX12_findsNext_7 rfl ?_
  obtain ⟨a2, ea2, hq⟩ := Option.bind_eq_some_iff.mp hq
  obtain ⟨eoa2, eta2⟩ := jw_rc_spec ea2
  obtain ⟨w4, h3, ew4, hq⟩ := jw_b2_spec hq
  refine jw_callV (As := [.int x1, .int v1]) (S := []) (a := a2) (v := some (.int w4)) dX12_findsNext_8 mt_X12_matches in_X12_matches se_X12_matches lk_X12_286 (c_X12_matches ew4) eta2 (by decide) rfl rfl (by decide) (Nat.le_of_ble_eq_true rfl) (by cases eoa2; rfl) ?_
  rcases jw_if hq with ⟨c5, hq⟩ | ⟨c5, hq⟩
  · refine jw_if_eq_t (tgt := 29) dX12_findsNext_11 (by decide) c5 ?_
    exact l_X12_findsNext_b29  hq
  · refine jw_if_eq_f (tgt := 29) dX12_findsNext_11 (by decide) c5 ?_
    refine jw_aload_n dX12_findsNext_14 (o := (some x0)) rfl ?_
    obtain ⟨v6, ev6, hq⟩ := Option.bind_eq_some_iff.mp hq
    refine jw_getI (o := (some x0)) dX12_findsNext_15 ev6 fl_X12_279 rfl ?_
    refine jw_iload_n dX12_findsNext_18 rfl ?_
    rcases jw_if hq with ⟨c7, hq⟩ | ⟨c7, hq⟩
    · refine jw_icmp_le_t (tgt := 29) dX12_findsNext_19 (by decide) c7 ?_
      exact l_X12_findsNext_b29  hq
    · refine jw_icmp_le_f (tgt := 29) dX12_findsNext_19 (by decide) c7 ?_
      refine jw_aload_n dX12_findsNext_22 (o := (some x0)) rfl ?_
      refine jw_iload_n dX12_findsNext_23 rfl ?_
      obtain ⟨h8, eh8, hq⟩ := Option.bind_eq_some_iff.mp hq
      refine jw_putI (o := (some x0)) dX12_findsNext_24 eh8 fl_X12_289 rfl rfl ?_
      refine jw_iconst dX12_findsNext_27 (v := (1 : Int32)) (by decide) ?_
      cases hq
      exact jw_iret (ty := .boolean) dX12_findsNext_28 rfl rfl

theorem c_X12_findsNext {h : jw_H} {x0 : Nat} {x1 : Int32} {r : Int32} {h' : jw_H} (hq : f_X12_findsNext h x0 x1 = some (r, h')) : jw_Con (Cond.code yX12_findsNext cX12_findsNext 3 (some .boolean)) yX12_findsNext 5 [.ref x0, .int x1] h (.inl (some (.int r))) h' :=
  jw_con false (plainFor_of_name (by decide +kernel)) (fun z => nomatch z) (by simp [jw_ent, jw_sl0_nil, jw_sl0_int, jw_sl0_long, jw_sl0_ref, jw_sl0_rf, jw_sl0_scr, List.replicate]) (by simp [jw_sl0_nil, jw_sl0_int, jw_sl0_long, jw_sl0_ref, jw_sl0_rf, jw_sl0_scr]) (l_X12_findsNext hq)


/-! X12_seek -/
noncomputable def g_X12_seek_b54 (k2 : jw_H → Nat → Int32 → Int32 → Option (Int32 × jw_H)) (h : jw_H) (x0 : Nat) (x1 : Int32) (x2 : Int32) (t0 : Int32) : Option (Int32 × jw_H) :=
 jw_b2 (f_X12_textRow h t0) fun w2 h1 =>
 (jw_rc h1 12 (some x0)).bind fun a3 =>
 jw_b2 (f_X12_finds h1 a3 w2 (0 : Int32)) fun w5 h4 =>
 if w5 = 0 then (k2 h4 x0 x1 (x2 + (1 : Int32)))
 else (some (t0, h4))

noncomputable def g_X12_seek_b2 (k2 : jw_H → Nat → Int32 → Int32 → Option (Int32 × jw_H)) (h : jw_H) (x0 : Nat) (x1 : Int32) (x2 : Int32) : Option (Int32 × jw_H) :=
 (jw_gI h 12 (some x0) 12).bind fun v1 =>
 if v1 < x2 then (some ((0 : Int32), h))
 else (if x1 = 0 then ((jw_gI h 12 (some x0) 16).bind fun v4 =>
 (jw_gI h 12 (some x0) 12).bind fun v5 =>
 (jw_nz v5).bind fun v6 =>
 g_X12_seek_b54 k2 h x0 x1 x2 ((((v4 - (1 : Int32)) + x2) - ((v4 - (1 : Int32)) + x2) / v5 * v5) + (1 : Int32)))
 else ((jw_gI h 12 (some x0) 16).bind fun v7 =>
 (jw_gI h 12 (some x0) 12).bind fun v8 =>
 (jw_gI h 12 (some x0) 12).bind fun v9 =>
 (jw_nz v9).bind fun v10 =>
 g_X12_seek_b54 k2 h x0 x1 x2 (((((v7 - (1 : Int32)) - x2) + ((2 : Int32) * v8)) - (((v7 - (1 : Int32)) - x2) + ((2 : Int32) * v8)) / v9 * v9) + (1 : Int32))))

noncomputable def f_X12_seek_b2 (n : Nat) : jw_H → Nat → Int32 → Int32 → Option (Int32 × jw_H) :=
 Nat.rec (fun _ _ _ _ => none) (fun _ k2 => g_X12_seek_b2 k2) n

noncomputable def f_X12_seek (h : jw_H) (x0 : Nat) (x1 : Int32) : Option (Int32 × jw_H) :=
 f_X12_seek_b2  jw_FU h x0 x1 (1 : Int32)

set_option maxRecDepth 100000 in
set_option maxHeartbeats 4000000 in
theorem l_X12_seek_b54 {hi : jw_H} {k2 : jw_H → Nat → Int32 → Int32 → Option (Int32 × jw_H)} (hk2 : ∀ (h : jw_H) (x0 : Nat) (x1 : Int32) (x2 : Int32) (r : Int32) (h' : jw_H), k2 h x0 x1 x2 = some (r, h') → jw_E 5 uX12_seek hi 2 [some (.ref x0), some (.int x1), some (.int x2), none] [] h (.inl (some (.int r))) h') {h : jw_H} {x0 : Nat} {x1 : Int32} {x2 : Int32} {t0 : Int32} {r : Int32} {h' : jw_H} (hq : g_X12_seek_b54 k2 h x0 x1 x2 t0 = some (r, h')) : jw_E 5 uX12_seek hi 54 [some (.ref x0), some (.int x1), some (.int x2), none] [.int t0] h (.inl (some (.int r))) h' := by
  unfold g_X12_seek_b54 at hq
  refine jw_istore_n (L' := [some (.ref x0), some (.int x1), some (.int x2), some (.int t0)]) dX12_seek_54 (Nat.le_of_ble_eq_true rfl) rfl ?_
  refine jw_aload_n dX12_seek_55 (o := (some x0)) rfl ?_
  refine jw_iload_n dX12_seek_56 rfl ?_
  obtain ⟨w2, h1, ew2, hq⟩ := jw_b2_spec hq
  refine jw_callS (As := [.int t0]) (S := [.ref x0]) (v := some (.int w2)) dX12_seek_57 mt_X12_textRow st_X12_textRow lk_X12_298 (c_X12_textRow ew2) rfl (by decide) (Nat.le_of_ble_eq_true rfl) rfl ?_
  refine jw_iconst dX12_seek_60 (v := (0 : Int32)) (by decide) ?_
  obtain ⟨a3, ea3, hq⟩ := Option.bind_eq_some_iff.mp hq
  obtain ⟨eoa3, eta3⟩ := jw_rc_spec ea3
  obtain ⟨w5, h4, ew5, hq⟩ := jw_b2_spec hq
  refine jw_callV (As := [.int w2, .int (0 : Int32)]) (S := []) (a := a3) (v := some (.int w5)) dX12_seek_61 mt_X12_finds in_X12_finds se_X12_finds lk_X12_292 (c_X12_finds ew5) eta3 (by decide) rfl rfl (by decide) (Nat.le_of_ble_eq_true rfl) (by cases eoa3; rfl) ?_
  rcases jw_if hq with ⟨c6, hq⟩ | ⟨c6, hq⟩
  · refine jw_if_eq_t (tgt := 69) dX12_seek_64 (by decide) c6 ?_
    refine jw_iinc (L' := [some (.ref x0), some (.int x1), some (.int (x2 + (1 : Int32))), some (.int t0)]) dX12_seek_69 rfl (v := (1 : Int32)) (by decide) (Nat.le_of_ble_eq_true rfl) rfl ?_
    refine jw_goto (tgt := 2) dX12_seek_72 (by decide) ?_
    refine jw_forget [true, true, true, false] (L' := [some (.ref x0), some (.int x1), some (.int (x2 + (1 : Int32))), none]) rfl ?_
    exact hk2 _ _ _ _ _ _ hq
  · refine jw_if_eq_f (tgt := 69) dX12_seek_64 (by decide) c6 ?_
    refine jw_iload_n dX12_seek_67 rfl ?_
    cases hq
    exact jw_iret (ty := .int) dX12_seek_68 rfl rfl

set_option maxRecDepth 100000 in
set_option maxHeartbeats 4000000 in
theorem l_X12_seek_b2g {hi : jw_H} {k2 : jw_H → Nat → Int32 → Int32 → Option (Int32 × jw_H)} (hk2 : ∀ (h : jw_H) (x0 : Nat) (x1 : Int32) (x2 : Int32) (r : Int32) (h' : jw_H), k2 h x0 x1 x2 = some (r, h') → jw_E 5 uX12_seek hi 2 [some (.ref x0), some (.int x1), some (.int x2), none] [] h (.inl (some (.int r))) h') {h : jw_H} {x0 : Nat} {x1 : Int32} {x2 : Int32} {r : Int32} {h' : jw_H} (hq : g_X12_seek_b2 k2 h x0 x1 x2 = some (r, h')) : jw_E 5 uX12_seek hi 2 [some (.ref x0), some (.int x1), some (.int x2), none] [] h (.inl (some (.int r))) h' := by
  unfold g_X12_seek_b2 at hq
  refine jw_iload_n dX12_seek_2 rfl ?_
  refine jw_aload_n dX12_seek_3 (o := (some x0)) rfl ?_
  obtain ⟨v1, ev1, hq⟩ := Option.bind_eq_some_iff.mp hq
  refine jw_getI (o := (some x0)) dX12_seek_4 ev1 fl_X12_124 rfl ?_
  rcases jw_if hq with ⟨c2, hq⟩ | ⟨c2, hq⟩
  · refine jw_icmp_gt_t (tgt := 75) dX12_seek_7 (by decide) c2 ?_
    refine jw_iconst dX12_seek_75 (v := (0 : Int32)) (by decide) ?_
    cases hq
    exact jw_iret (ty := .int) dX12_seek_76 rfl rfl
  · refine jw_icmp_gt_f (tgt := 75) dX12_seek_7 (by decide) c2 ?_
    refine jw_iload_n dX12_seek_10 rfl ?_
    rcases jw_if hq with ⟨c3, hq⟩ | ⟨c3, hq⟩
    · refine jw_if_eq_t (tgt := 39) dX12_seek_11 (by decide) c3 ?_
      refine jw_aload_n dX12_seek_39 (o := (some x0)) rfl ?_
      obtain ⟨v4, ev4, hq⟩ := Option.bind_eq_some_iff.mp hq
      refine jw_getI (o := (some x0)) dX12_seek_40 ev4 fl_X12_295 rfl ?_
      refine jw_iconst dX12_seek_43 (v := (1 : Int32)) (by decide) ?_
      refine jw_isub dX12_seek_44 ?_
      refine jw_iload_n dX12_seek_45 rfl ?_
      refine jw_iadd dX12_seek_46 ?_
      refine jw_aload_n dX12_seek_47 (o := (some x0)) rfl ?_
      obtain ⟨v5, ev5, hq⟩ := Option.bind_eq_some_iff.mp hq
      refine jw_getI (o := (some x0)) dX12_seek_48 ev5 fl_X12_124 rfl ?_
      obtain ⟨v6, ev6, hq⟩ := Option.bind_eq_some_iff.mp hq
      refine jw_irem dX12_seek_51 (jw_nz_spec ev6) ?_
      refine jw_iconst dX12_seek_52 (v := (1 : Int32)) (by decide) ?_
      refine jw_iadd dX12_seek_53 ?_
      exact l_X12_seek_b54 hk2 hq
    · refine jw_if_eq_f (tgt := 39) dX12_seek_11 (by decide) c3 ?_
      refine jw_aload_n dX12_seek_14 (o := (some x0)) rfl ?_
      obtain ⟨v7, ev7, hq⟩ := Option.bind_eq_some_iff.mp hq
      refine jw_getI (o := (some x0)) dX12_seek_15 ev7 fl_X12_295 rfl ?_
      refine jw_iconst dX12_seek_18 (v := (1 : Int32)) (by decide) ?_
      refine jw_isub dX12_seek_19 ?_
      refine jw_iload_n dX12_seek_20 rfl ?_
      refine jw_isub dX12_seek_21 ?_
      refine jw_iconst dX12_seek_22 (v := (2 : Int32)) (by decide) ?_
      refine jw_aload_n dX12_seek_23 (o := (some x0)) rfl ?_
      obtain ⟨v8, ev8, hq⟩ := Option.bind_eq_some_iff.mp hq
      refine jw_getI (o := (some x0)) dX12_seek_24 ev8 fl_X12_124 rfl ?_
      refine jw_imul dX12_seek_27 ?_
      refine jw_iadd dX12_seek_28 ?_
      refine jw_aload_n dX12_seek_29 (o := (some x0)) rfl ?_
      obtain ⟨v9, ev9, hq⟩ := Option.bind_eq_some_iff.mp hq
      refine jw_getI (o := (some x0)) dX12_seek_30 ev9 fl_X12_124 rfl ?_
      obtain ⟨v10, ev10, hq⟩ := Option.bind_eq_some_iff.mp hq
      refine jw_irem dX12_seek_33 (jw_nz_spec ev10) ?_
      refine jw_iconst dX12_seek_34 (v := (1 : Int32)) (by decide) ?_
      refine jw_iadd dX12_seek_35 ?_
      refine jw_goto (tgt := 54) dX12_seek_36 (by decide) ?_
      exact l_X12_seek_b54 hk2 hq

theorem l_X12_seek_b2 {hi : jw_H} : ∀ (n : Nat) (h : jw_H) (x0 : Nat) (x1 : Int32) (x2 : Int32) (r : Int32) (h' : jw_H), f_X12_seek_b2  n h x0 x1 x2 = some (r, h') → jw_E 5 uX12_seek hi 2 [some (.ref x0), some (.int x1), some (.int x2), none] [] h (.inl (some (.int r))) h' := by
  intro n
  induction n with
  | zero => intro h x0 x1 x2 r h' hq; exact nomatch hq
  | succ n ih => intro h x0 x1 x2 r h' hq; exact l_X12_seek_b2g ih hq

set_option maxRecDepth 100000 in
set_option maxHeartbeats 4000000 in
theorem l_X12_seek {hi : jw_H} {h : jw_H} {x0 : Nat} {x1 : Int32} {r : Int32} {h' : jw_H} (hq : f_X12_seek  h x0 x1 = some (r, h')) : jw_E 5 uX12_seek hi 0 [some (.ref x0), some (.int x1), none, none] [] h (.inl (some (.int r))) h' := by
  unfold f_X12_seek at hq
  refine jw_iconst dX12_seek_0 (v := (1 : Int32)) (by decide) ?_
  refine jw_istore_n (L' := [some (.ref x0), some (.int x1), some (.int (1 : Int32)), none]) dX12_seek_1 (Nat.le_of_ble_eq_true rfl) rfl ?_
  exact l_X12_seek_b2  jw_FU _ _ _ _ _ _ hq

theorem c_X12_seek {h : jw_H} {x0 : Nat} {x1 : Int32} {r : Int32} {h' : jw_H} (hq : f_X12_seek h x0 x1 = some (r, h')) : jw_Con (Cond.code yX12_seek cX12_seek 4 (some .int)) yX12_seek 5 [.ref x0, .int x1] h (.inl (some (.int r))) h' :=
  jw_con false (plainFor_of_name (by decide +kernel)) (fun z => nomatch z) (by simp [jw_ent, jw_sl0_nil, jw_sl0_int, jw_sl0_long, jw_sl0_ref, jw_sl0_rf, jw_sl0_scr, List.replicate]) (by simp [jw_sl0_nil, jw_sl0_int, jw_sl0_long, jw_sl0_ref, jw_sl0_rf, jw_sl0_scr]) (l_X12_seek hq)


/-! X12_line -/
noncomputable def g_X12_line_b204 (k143 : jw_H → Nat → Int32 → Int32 → Option (Int32 × jw_H)) (h : jw_H) (x0 : Nat) (x2 : Int32) (t0 : Int32) (t1 : Int32) : Option (Int32 × jw_H) :=
 (jw_rc h 12 (some x0)).bind fun a1 =>
 jw_b2 (f_X12_behindNumber h a1 (x2 + (1 : Int32))) fun w3 h2 =>
 k143 h2 x0 w3 (t0 + t1)

noncomputable def g_X12_line_b173 (k143 : jw_H → Nat → Int32 → Int32 → Option (Int32 × jw_H)) (h : jw_H) (x0 : Nat) (x2 : Int32) (x4 : Int32) : Option (Int32 × jw_H) :=
 (jw_gR h 12 (some x0) 21).bind fun v1 =>
 (jw_ai h 20 v1 x2).bind fun v2 =>
 if v2 = (43 : Int32) then ((jw_rc h 12 (some x0)).bind fun a7 =>
 jw_b2 (f_X12_numberAt h a7 (x2 + (1 : Int32))) fun w9 h8 =>
 g_X12_line_b204 k143 h8 x0 x2 x4 w9)
 else ((jw_rc h 12 (some x0)).bind fun a4 =>
 jw_b2 (f_X12_numberAt h a4 (x2 + (1 : Int32))) fun w6 h5 =>
 g_X12_line_b204 k143 h5 x0 x2 x4 (-w6))

noncomputable def g_X12_line_b238 (h : jw_H) (t0 : Int32) : Option (Int32 × jw_H) :=
 some (t0, h)

noncomputable def g_X12_line_b232 (h : jw_H)  : Option (Int32 × jw_H) :=
 g_X12_line_b238  h (-1 : Int32)

noncomputable def g_X12_line_b218 (h : jw_H) (x0 : Nat) (x4 : Int32) : Option (Int32 × jw_H) :=
 if x4 < 0 then (g_X12_line_b232  h )
 else ((jw_gI h 12 (some x0) 12).bind fun v2 =>
 if x4 ≤ v2 then (g_X12_line_b238  h x4)
 else (g_X12_line_b232  h ))

noncomputable def g_X12_line_b143 (k143 : jw_H → Nat → Int32 → Int32 → Option (Int32 × jw_H)) (h : jw_H) (x0 : Nat) (x2 : Int32) (x4 : Int32) : Option (Int32 × jw_H) :=
 (jw_gI h 12 (some x0) 22).bind fun v1 =>
 if v1 ≤ x2 then (g_X12_line_b218  h x0 x4)
 else ((jw_gR h 12 (some x0) 21).bind fun v3 =>
 (jw_ai h 20 v3 x2).bind fun v4 =>
 if v4 = (43 : Int32) then (g_X12_line_b173 k143 h x0 x2 x4)
 else ((jw_gR h 12 (some x0) 21).bind fun v6 =>
 (jw_ai h 20 v6 x2).bind fun v7 =>
 if v7 = (45 : Int32) then (g_X12_line_b173 k143 h x0 x2 x4)
 else (g_X12_line_b218  h x0 x4)))

noncomputable def f_X12_line_b143 (n : Nat) : jw_H → Nat → Int32 → Int32 → Option (Int32 × jw_H) :=
 Nat.rec (fun _ _ _ _ => none) (fun _ k143 => g_X12_line_b143 k143) n

noncomputable def g_X12_line_b130 (h : jw_H) (x0 : Nat) (x2 : Int32) (t0 : Nat) (t1 : Int32) : Option (Int32 × jw_H) :=
 (jw_rc h 12 (some t0)).bind fun a1 =>
 jw_b2 (f_X12_seek h a1 t1) fun w3 h2 =>
 if w3 = 0 then (some ((-2 : Int32), h2))
 else (f_X12_line_b143  jw_FU h2 x0 x2 w3)

noncomputable def f_X12_line (h : jw_H) (x0 : Nat) (x1 : Int32) : Option (Int32 × jw_H) :=
 (jw_gR h 12 (some x0) 21).bind fun v1 =>
 (jw_ai h 20 v1 x1).bind fun v2 =>
 (jw_gI h 12 (some x0) 16).bind fun v3 =>
 jw_b2 (f_X12_isDigit h v2) fun w5 h4 =>
 if w5 = 0 then (if v2 = (36 : Int32) then ((jw_gI h4 12 (some x0) 12).bind fun v23 =>
 f_X12_line_b143  jw_FU h4 x0 (x1 + (1 : Int32)) v23)
 else (if v2 = (39 : Int32) then ((jw_gR h4 12 (some x0) 10).bind fun v15 =>
 (jw_gR h4 12 (some x0) 21).bind fun v16 =>
 (jw_ai h4 20 v16 (x1 + (1 : Int32))).bind fun v17 =>
 (jw_ai h4 20 v15 (v17 - (97 : Int32))).bind fun v18 =>
 if 0 ≤ v18 then ((jw_rc h4 12 (some x0)).bind fun a20 =>
 jw_b2 (f_X12_lineWith h4 a20 v18) fun w22 h21 =>
 f_X12_line_b143  jw_FU h21 x0 ((x1 + (1 : Int32)) + (1 : Int32)) w22)
 else (some ((-3 : Int32), h4)))
 else (if v2 = (46 : Int32) then (f_X12_line_b143  jw_FU h4 x0 (x1 + (1 : Int32)) v3)
 else ((jw_rc h4 12 (some x0)).bind fun a10 =>
 jw_b2 (f_X12_compile h4 a10 (x1 + (1 : Int32)) v2) fun w12 h11 =>
 (jw_gI h11 12 (some x0) 37).bind fun v13 =>
 if v2 = (63 : Int32) then (g_X12_line_b130  h11 x0 (v13 + (1 : Int32)) x0 (1 : Int32))
 else (g_X12_line_b130  h11 x0 (v13 + (1 : Int32)) x0 (0 : Int32))))))
 else ((jw_rc h4 12 (some x0)).bind fun a24 =>
 jw_b2 (f_X12_numberAt h4 a24 x1) fun w26 h25 =>
 (jw_rc h25 12 (some x0)).bind fun a27 =>
 jw_b2 (f_X12_behindNumber h25 a27 x1) fun w29 h28 =>
 f_X12_line_b143  jw_FU h28 x0 w29 w26)

set_option maxRecDepth 100000 in
set_option maxHeartbeats 4000000 in
theorem l_X12_line_b204 {hi : jw_H} {k143 : jw_H → Nat → Int32 → Int32 → Option (Int32 × jw_H)} (hk143 : ∀ (h : jw_H) (x0 : Nat) (x2 : Int32) (x4 : Int32) (r : Int32) (h' : jw_H), k143 h x0 x2 x4 = some (r, h') → jw_E 6 uX12_line hi 143 [some (.ref x0), none, some (.int x2), none, some (.int x4), none] [] h (.inl (some (.int r))) h') {h : jw_H} {x0 : Nat} {x2 : Int32} {t0 : Int32} {t1 : Int32} {r : Int32} {h' : jw_H} (hq : g_X12_line_b204 k143 h x0 x2 t0 t1 = some (r, h')) : jw_E 6 uX12_line hi 204 [some (.ref x0), none, some (.int x2), none, none, none] [.int t1, .int t0] h (.inl (some (.int r))) h' := by
  unfold g_X12_line_b204 at hq
  refine jw_iadd dX12_line_204 ?_
  refine jw_istore (L' := [some (.ref x0), none, some (.int x2), none, some (.int (t0 + t1)), none]) dX12_line_205 (Nat.le_of_ble_eq_true rfl) rfl ?_
  refine jw_aload_n dX12_line_207 (o := (some x0)) rfl ?_
  refine jw_iload_n dX12_line_208 rfl ?_
  refine jw_iconst dX12_line_209 (v := (1 : Int32)) (by decide) ?_
  refine jw_iadd dX12_line_210 ?_
  obtain ⟨a1, ea1, hq⟩ := Option.bind_eq_some_iff.mp hq
  obtain ⟨eoa1, eta1⟩ := jw_rc_spec ea1
  obtain ⟨w3, h2, ew3, hq⟩ := jw_b2_spec hq
  refine jw_callV (As := [.int (x2 + (1 : Int32))]) (S := []) (a := a1) (v := some (.int w3)) dX12_line_211 mt_X12_behindNumber in_X12_behindNumber se_X12_behindNumber lk_X12_304 (c_X12_behindNumber ew3) eta1 (by decide) rfl rfl (by decide) (Nat.le_of_ble_eq_true rfl) (by cases eoa1; rfl) ?_
  refine jw_istore_n (L' := [some (.ref x0), none, some (.int w3), none, some (.int (t0 + t1)), none]) dX12_line_214 (Nat.le_of_ble_eq_true rfl) rfl ?_
  refine jw_goto (tgt := 143) dX12_line_215 (by decide) ?_
  exact hk143 _ _ _ _ _ _ hq

set_option maxRecDepth 100000 in
set_option maxHeartbeats 4000000 in
theorem l_X12_line_b173 {hi : jw_H} {k143 : jw_H → Nat → Int32 → Int32 → Option (Int32 × jw_H)} (hk143 : ∀ (h : jw_H) (x0 : Nat) (x2 : Int32) (x4 : Int32) (r : Int32) (h' : jw_H), k143 h x0 x2 x4 = some (r, h') → jw_E 6 uX12_line hi 143 [some (.ref x0), none, some (.int x2), none, some (.int x4), none] [] h (.inl (some (.int r))) h') {h : jw_H} {x0 : Nat} {x2 : Int32} {x4 : Int32} {r : Int32} {h' : jw_H} (hq : g_X12_line_b173 k143 h x0 x2 x4 = some (r, h')) : jw_E 6 uX12_line hi 173 [some (.ref x0), none, some (.int x2), none, some (.int x4), none] [] h (.inl (some (.int r))) h' := by
  unfold g_X12_line_b173 at hq
  refine jw_iload dX12_line_173 rfl ?_
  refine jw_aload_n dX12_line_175 (o := (some x0)) rfl ?_
  obtain ⟨v1, ev1, hq⟩ := Option.bind_eq_some_iff.mp hq
  refine jw_getR (o := (some x0)) dX12_line_176 ev1 fl_X12_44 rfl ?_
  refine jw_iload_n dX12_line_179 rfl ?_
  obtain ⟨v2, ev2, hq⟩ := Option.bind_eq_some_iff.mp hq
  refine jw_iald (o := v1) dX12_line_180 ev2 ?_
  refine jw_bipush dX12_line_181 (v := (43 : Int32)) (by decide) ?_
  rcases jw_if hq with ⟨c3, hq⟩ | ⟨c3, hq⟩
  · refine jw_icmp_ne_f (tgt := 196) dX12_line_183 (by decide) c3 ?_
    refine jw_aload_n dX12_line_186 (o := (some x0)) rfl ?_
    refine jw_iload_n dX12_line_187 rfl ?_
    refine jw_iconst dX12_line_188 (v := (1 : Int32)) (by decide) ?_
    refine jw_iadd dX12_line_189 ?_
    obtain ⟨a7, ea7, hq⟩ := Option.bind_eq_some_iff.mp hq
    obtain ⟨eoa7, eta7⟩ := jw_rc_spec ea7
    obtain ⟨w9, h8, ew9, hq⟩ := jw_b2_spec hq
    refine jw_callV (As := [.int (x2 + (1 : Int32))]) (S := [.int x4]) (a := a7) (v := some (.int w9)) dX12_line_190 mt_X12_numberAt in_X12_numberAt se_X12_numberAt lk_X12_301 (c_X12_numberAt ew9) eta7 (by decide) rfl rfl (by decide) (Nat.le_of_ble_eq_true rfl) (by cases eoa7; rfl) ?_
    refine jw_goto (tgt := 204) dX12_line_193 (by decide) ?_
    refine jw_forget [true, true, true, true, false, true] (L' := [some (.ref x0), none, some (.int x2), none, none, none]) rfl ?_
    exact l_X12_line_b204 hk143 hq
  · refine jw_icmp_ne_t (tgt := 196) dX12_line_183 (by decide) c3 ?_
    refine jw_aload_n dX12_line_196 (o := (some x0)) rfl ?_
    refine jw_iload_n dX12_line_197 rfl ?_
    refine jw_iconst dX12_line_198 (v := (1 : Int32)) (by decide) ?_
    refine jw_iadd dX12_line_199 ?_
    obtain ⟨a4, ea4, hq⟩ := Option.bind_eq_some_iff.mp hq
    obtain ⟨eoa4, eta4⟩ := jw_rc_spec ea4
    obtain ⟨w6, h5, ew6, hq⟩ := jw_b2_spec hq
    refine jw_callV (As := [.int (x2 + (1 : Int32))]) (S := [.int x4]) (a := a4) (v := some (.int w6)) dX12_line_200 mt_X12_numberAt in_X12_numberAt se_X12_numberAt lk_X12_301 (c_X12_numberAt ew6) eta4 (by decide) rfl rfl (by decide) (Nat.le_of_ble_eq_true rfl) (by cases eoa4; rfl) ?_
    refine jw_ineg dX12_line_203 ?_
    refine jw_forget [true, true, true, true, false, true] (L' := [some (.ref x0), none, some (.int x2), none, none, none]) rfl ?_
    exact l_X12_line_b204 hk143 hq

set_option maxRecDepth 100000 in
set_option maxHeartbeats 4000000 in
theorem l_X12_line_b238 {hi : jw_H} {h : jw_H} {t0 : Int32} {r : Int32} {h' : jw_H} (hq : g_X12_line_b238  h t0 = some (r, h')) : jw_E 6 uX12_line hi 238 [none, none, none, none, none, none] [.int t0] h (.inl (some (.int r))) h' := by
  unfold g_X12_line_b238 at hq
  cases hq
  exact jw_iret (ty := .int) dX12_line_238 rfl rfl

set_option maxRecDepth 100000 in
set_option maxHeartbeats 4000000 in
theorem l_X12_line_b232 {hi : jw_H} {h : jw_H}  {r : Int32} {h' : jw_H} (hq : g_X12_line_b232  h  = some (r, h')) : jw_E 6 uX12_line hi 232 [none, none, none, none, none, none] [] h (.inl (some (.int r))) h' := by
  unfold g_X12_line_b232 at hq
  refine jw_iconst dX12_line_232 (v := (-1 : Int32)) (by decide) ?_
  refine jw_goto (tgt := 238) dX12_line_233 (by decide) ?_
  exact l_X12_line_b238  hq

set_option maxRecDepth 100000 in
set_option maxHeartbeats 4000000 in
theorem l_X12_line_b218 {hi : jw_H} {h : jw_H} {x0 : Nat} {x4 : Int32} {r : Int32} {h' : jw_H} (hq : g_X12_line_b218  h x0 x4 = some (r, h')) : jw_E 6 uX12_line hi 218 [some (.ref x0), none, none, none, some (.int x4), none] [] h (.inl (some (.int r))) h' := by
  unfold g_X12_line_b218 at hq
  refine jw_iload dX12_line_218 rfl ?_
  rcases jw_if hq with ⟨c1, hq⟩ | ⟨c1, hq⟩
  · refine jw_if_lt_t (tgt := 232) dX12_line_220 (by decide) c1 ?_
    refine jw_forget [false, true, true, true, false, true] (L' := [none, none, none, none, none, none]) rfl ?_
    exact l_X12_line_b232  hq
  · refine jw_if_lt_f (tgt := 232) dX12_line_220 (by decide) c1 ?_
    refine jw_iload dX12_line_223 rfl ?_
    refine jw_aload_n dX12_line_225 (o := (some x0)) rfl ?_
    obtain ⟨v2, ev2, hq⟩ := Option.bind_eq_some_iff.mp hq
    refine jw_getI (o := (some x0)) dX12_line_226 ev2 fl_X12_124 rfl ?_
    rcases jw_if hq with ⟨c3, hq⟩ | ⟨c3, hq⟩
    · refine jw_icmp_le_t (tgt := 236) dX12_line_229 (by decide) c3 ?_
      refine jw_iload dX12_line_236 rfl ?_
      refine jw_forget [false, true, true, true, false, true] (L' := [none, none, none, none, none, none]) rfl ?_
      exact l_X12_line_b238  hq
    · refine jw_icmp_le_f (tgt := 236) dX12_line_229 (by decide) c3 ?_
      refine jw_forget [false, true, true, true, false, true] (L' := [none, none, none, none, none, none]) rfl ?_
      exact l_X12_line_b232  hq

set_option maxRecDepth 100000 in
set_option maxHeartbeats 4000000 in
theorem l_X12_line_b143g {hi : jw_H} {k143 : jw_H → Nat → Int32 → Int32 → Option (Int32 × jw_H)} (hk143 : ∀ (h : jw_H) (x0 : Nat) (x2 : Int32) (x4 : Int32) (r : Int32) (h' : jw_H), k143 h x0 x2 x4 = some (r, h') → jw_E 6 uX12_line hi 143 [some (.ref x0), none, some (.int x2), none, some (.int x4), none] [] h (.inl (some (.int r))) h') {h : jw_H} {x0 : Nat} {x2 : Int32} {x4 : Int32} {r : Int32} {h' : jw_H} (hq : g_X12_line_b143 k143 h x0 x2 x4 = some (r, h')) : jw_E 6 uX12_line hi 143 [some (.ref x0), none, some (.int x2), none, some (.int x4), none] [] h (.inl (some (.int r))) h' := by
  unfold g_X12_line_b143 at hq
  refine jw_iload_n dX12_line_143 rfl ?_
  refine jw_aload_n dX12_line_144 (o := (some x0)) rfl ?_
  obtain ⟨v1, ev1, hq⟩ := Option.bind_eq_some_iff.mp hq
  refine jw_getI (o := (some x0)) dX12_line_145 ev1 fl_X12_146 rfl ?_
  rcases jw_if hq with ⟨c2, hq⟩ | ⟨c2, hq⟩
  · refine jw_icmp_ge_t (tgt := 218) dX12_line_148 (by decide) c2 ?_
    refine jw_forget [true, true, false, true, true, true] (L' := [some (.ref x0), none, none, none, some (.int x4), none]) rfl ?_
    exact l_X12_line_b218  hq
  · refine jw_icmp_ge_f (tgt := 218) dX12_line_148 (by decide) c2 ?_
    refine jw_aload_n dX12_line_151 (o := (some x0)) rfl ?_
    obtain ⟨v3, ev3, hq⟩ := Option.bind_eq_some_iff.mp hq
    refine jw_getR (o := (some x0)) dX12_line_152 ev3 fl_X12_44 rfl ?_
    refine jw_iload_n dX12_line_155 rfl ?_
    obtain ⟨v4, ev4, hq⟩ := Option.bind_eq_some_iff.mp hq
    refine jw_iald (o := v3) dX12_line_156 ev4 ?_
    refine jw_bipush dX12_line_157 (v := (43 : Int32)) (by decide) ?_
    rcases jw_if hq with ⟨c5, hq⟩ | ⟨c5, hq⟩
    · refine jw_icmp_eq_t (tgt := 173) dX12_line_159 (by decide) c5 ?_
      exact l_X12_line_b173 hk143 hq
    · refine jw_icmp_eq_f (tgt := 173) dX12_line_159 (by decide) c5 ?_
      refine jw_aload_n dX12_line_162 (o := (some x0)) rfl ?_
      obtain ⟨v6, ev6, hq⟩ := Option.bind_eq_some_iff.mp hq
      refine jw_getR (o := (some x0)) dX12_line_163 ev6 fl_X12_44 rfl ?_
      refine jw_iload_n dX12_line_166 rfl ?_
      obtain ⟨v7, ev7, hq⟩ := Option.bind_eq_some_iff.mp hq
      refine jw_iald (o := v6) dX12_line_167 ev7 ?_
      refine jw_bipush dX12_line_168 (v := (45 : Int32)) (by decide) ?_
      rcases jw_if hq with ⟨c8, hq⟩ | ⟨c8, hq⟩
      · refine jw_icmp_ne_f (tgt := 218) dX12_line_170 (by decide) c8 ?_
        exact l_X12_line_b173 hk143 hq
      · refine jw_icmp_ne_t (tgt := 218) dX12_line_170 (by decide) c8 ?_
        refine jw_forget [true, true, false, true, true, true] (L' := [some (.ref x0), none, none, none, some (.int x4), none]) rfl ?_
        exact l_X12_line_b218  hq

theorem l_X12_line_b143 {hi : jw_H} : ∀ (n : Nat) (h : jw_H) (x0 : Nat) (x2 : Int32) (x4 : Int32) (r : Int32) (h' : jw_H), f_X12_line_b143  n h x0 x2 x4 = some (r, h') → jw_E 6 uX12_line hi 143 [some (.ref x0), none, some (.int x2), none, some (.int x4), none] [] h (.inl (some (.int r))) h' := by
  intro n
  induction n with
  | zero => intro h x0 x2 x4 r h' hq; exact nomatch hq
  | succ n ih => intro h x0 x2 x4 r h' hq; exact l_X12_line_b143g ih hq

set_option maxRecDepth 100000 in
set_option maxHeartbeats 4000000 in
theorem l_X12_line_b130 {hi : jw_H} {h : jw_H} {x0 : Nat} {x2 : Int32} {t0 : Nat} {t1 : Int32} {r : Int32} {h' : jw_H} (hq : g_X12_line_b130  h x0 x2 t0 t1 = some (r, h')) : jw_E 6 uX12_line hi 130 [some (.ref x0), none, some (.int x2), none, none, none] [.int t1, .ref t0] h (.inl (some (.int r))) h' := by
  unfold g_X12_line_b130 at hq
  obtain ⟨a1, ea1, hq⟩ := Option.bind_eq_some_iff.mp hq
  obtain ⟨eoa1, eta1⟩ := jw_rc_spec ea1
  obtain ⟨w3, h2, ew3, hq⟩ := jw_b2_spec hq
  refine jw_callV (As := [.int t1]) (S := []) (a := a1) (v := some (.int w3)) dX12_line_130 mt_X12_seek in_X12_seek se_X12_seek lk_X12_313 (c_X12_seek ew3) eta1 (by decide) rfl rfl (by decide) (Nat.le_of_ble_eq_true rfl) (by cases eoa1; rfl) ?_
  refine jw_istore (L' := [some (.ref x0), none, some (.int x2), none, some (.int w3), none]) dX12_line_133 (Nat.le_of_ble_eq_true rfl) rfl ?_
  refine jw_iload dX12_line_135 rfl ?_
  rcases jw_if hq with ⟨c4, hq⟩ | ⟨c4, hq⟩
  · refine jw_if_ne_f (tgt := 143) dX12_line_137 (by decide) c4 ?_
    refine jw_bipush dX12_line_140 (v := (-2 : Int32)) (by decide) ?_
    cases hq
    exact jw_iret (ty := .int) dX12_line_142 rfl rfl
  · refine jw_if_ne_t (tgt := 143) dX12_line_137 (by decide) c4 ?_
    exact l_X12_line_b143  jw_FU _ _ _ _ _ _ hq

set_option maxRecDepth 100000 in
set_option maxHeartbeats 4000000 in
theorem l_X12_line {hi : jw_H} {h : jw_H} {x0 : Nat} {x1 : Int32} {r : Int32} {h' : jw_H} (hq : f_X12_line  h x0 x1 = some (r, h')) : jw_E 6 uX12_line hi 0 [some (.ref x0), some (.int x1), none, none, none, none] [] h (.inl (some (.int r))) h' := by
  unfold f_X12_line at hq
  refine jw_iload_n dX12_line_0 rfl ?_
  refine jw_iconst dX12_line_1 (v := (1 : Int32)) (by decide) ?_
  refine jw_iadd dX12_line_2 ?_
  refine jw_istore_n (L' := [some (.ref x0), some (.int x1), some (.int (x1 + (1 : Int32))), none, none, none]) dX12_line_3 (Nat.le_of_ble_eq_true rfl) rfl ?_
  refine jw_aload_n dX12_line_4 (o := (some x0)) rfl ?_
  obtain ⟨v1, ev1, hq⟩ := Option.bind_eq_some_iff.mp hq
  refine jw_getR (o := (some x0)) dX12_line_5 ev1 fl_X12_44 rfl ?_
  refine jw_iload_n dX12_line_8 rfl ?_
  obtain ⟨v2, ev2, hq⟩ := Option.bind_eq_some_iff.mp hq
  refine jw_iald (o := v1) dX12_line_9 ev2 ?_
  refine jw_istore_n (L' := [some (.ref x0), some (.int x1), some (.int (x1 + (1 : Int32))), some (.int v2), none, none]) dX12_line_10 (Nat.le_of_ble_eq_true rfl) rfl ?_
  refine jw_aload_n dX12_line_11 (o := (some x0)) rfl ?_
  obtain ⟨v3, ev3, hq⟩ := Option.bind_eq_some_iff.mp hq
  refine jw_getI (o := (some x0)) dX12_line_12 ev3 fl_X12_295 rfl ?_
  refine jw_istore (L' := [some (.ref x0), some (.int x1), some (.int (x1 + (1 : Int32))), some (.int v2), some (.int v3), none]) dX12_line_15 (Nat.le_of_ble_eq_true rfl) rfl ?_
  refine jw_iload_n dX12_line_17 rfl ?_
  obtain ⟨w5, h4, ew5, hq⟩ := jw_b2_spec hq
  refine jw_callS (As := [.int v2]) (S := []) (v := some (.int w5)) dX12_line_18 mt_X12_isDigit st_X12_isDigit lk_X12_152 (c_X12_isDigit ew5) rfl (by decide) (Nat.le_of_ble_eq_true rfl) rfl ?_
  rcases jw_if hq with ⟨c6, hq⟩ | ⟨c6, hq⟩
  · refine jw_if_eq_t (tgt := 40) dX12_line_21 (by decide) c6 ?_
    refine jw_iload_n dX12_line_40 rfl ?_
    refine jw_bipush dX12_line_41 (v := (36 : Int32)) (by decide) ?_
    rcases jw_if hq with ⟨c7, hq⟩ | ⟨c7, hq⟩
    · refine jw_icmp_ne_f (tgt := 55) dX12_line_43 (by decide) c7 ?_
      refine jw_aload_n dX12_line_46 (o := (some x0)) rfl ?_
      obtain ⟨v23, ev23, hq⟩ := Option.bind_eq_some_iff.mp hq
      refine jw_getI (o := (some x0)) dX12_line_47 ev23 fl_X12_124 rfl ?_
      refine jw_istore (L' := [some (.ref x0), some (.int x1), some (.int (x1 + (1 : Int32))), some (.int v2), some (.int v23), none]) dX12_line_50 (Nat.le_of_ble_eq_true rfl) rfl ?_
      refine jw_goto (tgt := 143) dX12_line_52 (by decide) ?_
      refine jw_forget [true, false, true, false, true, true] (L' := [some (.ref x0), none, some (.int (x1 + (1 : Int32))), none, some (.int v23), none]) rfl ?_
      exact l_X12_line_b143  jw_FU _ _ _ _ _ _ hq
    · refine jw_icmp_ne_t (tgt := 55) dX12_line_43 (by decide) c7 ?_
      refine jw_iload_n dX12_line_55 rfl ?_
      refine jw_bipush dX12_line_56 (v := (39 : Int32)) (by decide) ?_
      rcases jw_if hq with ⟨c8, hq⟩ | ⟨c8, hq⟩
      · refine jw_icmp_ne_f (tgt := 99) dX12_line_58 (by decide) c8 ?_
        refine jw_aload_n dX12_line_61 (o := (some x0)) rfl ?_
        obtain ⟨v15, ev15, hq⟩ := Option.bind_eq_some_iff.mp hq
        refine jw_getR (o := (some x0)) dX12_line_62 ev15 fl_X12_35 rfl ?_
        refine jw_aload_n dX12_line_65 (o := (some x0)) rfl ?_
        obtain ⟨v16, ev16, hq⟩ := Option.bind_eq_some_iff.mp hq
        refine jw_getR (o := (some x0)) dX12_line_66 ev16 fl_X12_44 rfl ?_
        refine jw_iload_n dX12_line_69 rfl ?_
        obtain ⟨v17, ev17, hq⟩ := Option.bind_eq_some_iff.mp hq
        refine jw_iald (o := v16) dX12_line_70 ev17 ?_
        refine jw_bipush dX12_line_71 (v := (97 : Int32)) (by decide) ?_
        refine jw_isub dX12_line_73 ?_
        obtain ⟨v18, ev18, hq⟩ := Option.bind_eq_some_iff.mp hq
        refine jw_iald (o := v15) dX12_line_74 ev18 ?_
        refine jw_istore (L' := [some (.ref x0), some (.int x1), some (.int (x1 + (1 : Int32))), some (.int v2), some (.int v3), some (.int v18)]) dX12_line_75 (Nat.le_of_ble_eq_true rfl) rfl ?_
        refine jw_iinc (L' := [some (.ref x0), some (.int x1), some (.int ((x1 + (1 : Int32)) + (1 : Int32))), some (.int v2), some (.int v3), some (.int v18)]) dX12_line_77 rfl (v := (1 : Int32)) (by decide) (Nat.le_of_ble_eq_true rfl) rfl ?_
        refine jw_iload dX12_line_80 rfl ?_
        rcases jw_if hq with ⟨c19, hq⟩ | ⟨c19, hq⟩
        · refine jw_if_ge_t (tgt := 88) dX12_line_82 (by decide) c19 ?_
          refine jw_aload_n dX12_line_88 (o := (some x0)) rfl ?_
          refine jw_iload dX12_line_89 rfl ?_
          obtain ⟨a20, ea20, hq⟩ := Option.bind_eq_some_iff.mp hq
          obtain ⟨eoa20, eta20⟩ := jw_rc_spec ea20
          obtain ⟨w22, h21, ew22, hq⟩ := jw_b2_spec hq
          refine jw_callV (As := [.int v18]) (S := []) (a := a20) (v := some (.int w22)) dX12_line_91 mt_X12_lineWith in_X12_lineWith se_X12_lineWith lk_X12_307 (c_X12_lineWith ew22) eta20 (by decide) rfl rfl (by decide) (Nat.le_of_ble_eq_true rfl) (by cases eoa20; rfl) ?_
          refine jw_istore (L' := [some (.ref x0), some (.int x1), some (.int ((x1 + (1 : Int32)) + (1 : Int32))), some (.int v2), some (.int w22), some (.int v18)]) dX12_line_94 (Nat.le_of_ble_eq_true rfl) rfl ?_
          refine jw_goto (tgt := 143) dX12_line_96 (by decide) ?_
          refine jw_forget [true, false, true, false, true, false] (L' := [some (.ref x0), none, some (.int ((x1 + (1 : Int32)) + (1 : Int32))), none, some (.int w22), none]) rfl ?_
          exact l_X12_line_b143  jw_FU _ _ _ _ _ _ hq
        · refine jw_if_ge_f (tgt := 88) dX12_line_82 (by decide) c19 ?_
          refine jw_bipush dX12_line_85 (v := (-3 : Int32)) (by decide) ?_
          cases hq
          exact jw_iret (ty := .int) dX12_line_87 rfl rfl
      · refine jw_icmp_ne_t (tgt := 99) dX12_line_58 (by decide) c8 ?_
        refine jw_iload_n dX12_line_99 rfl ?_
        refine jw_bipush dX12_line_100 (v := (46 : Int32)) (by decide) ?_
        rcases jw_if hq with ⟨c9, hq⟩ | ⟨c9, hq⟩
        · refine jw_icmp_eq_t (tgt := 143) dX12_line_102 (by decide) c9 ?_
          refine jw_forget [true, false, true, false, true, true] (L' := [some (.ref x0), none, some (.int (x1 + (1 : Int32))), none, some (.int v3), none]) rfl ?_
          exact l_X12_line_b143  jw_FU _ _ _ _ _ _ hq
        · refine jw_icmp_eq_f (tgt := 143) dX12_line_102 (by decide) c9 ?_
          refine jw_aload_n dX12_line_105 (o := (some x0)) rfl ?_
          refine jw_iload_n dX12_line_106 rfl ?_
          refine jw_iload_n dX12_line_107 rfl ?_
          obtain ⟨a10, ea10, hq⟩ := Option.bind_eq_some_iff.mp hq
          obtain ⟨eoa10, eta10⟩ := jw_rc_spec ea10
          obtain ⟨w12, h11, ew12, hq⟩ := jw_b2_spec hq
          refine jw_callV (As := [.int (x1 + (1 : Int32)), .int v2]) (S := []) (a := a10) (v := none) dX12_line_108 mt_X12_compile in_X12_compile se_X12_compile lk_X12_310 (c_X12_compile ew12) eta10 (by decide) rfl rfl (by decide) (Nat.le_of_ble_eq_true rfl) (by cases eoa10; rfl) ?_
          refine jw_aload_n dX12_line_111 (o := (some x0)) rfl ?_
          obtain ⟨v13, ev13, hq⟩ := Option.bind_eq_some_iff.mp hq
          refine jw_getI (o := (some x0)) dX12_line_112 ev13 fl_X12_268 rfl ?_
          refine jw_iconst dX12_line_115 (v := (1 : Int32)) (by decide) ?_
          refine jw_iadd dX12_line_116 ?_
          refine jw_istore_n (L' := [some (.ref x0), some (.int x1), some (.int (v13 + (1 : Int32))), some (.int v2), some (.int v3), none]) dX12_line_117 (Nat.le_of_ble_eq_true rfl) rfl ?_
          refine jw_aload_n dX12_line_118 (o := (some x0)) rfl ?_
          refine jw_iload_n dX12_line_119 rfl ?_
          refine jw_bipush dX12_line_120 (v := (63 : Int32)) (by decide) ?_
          rcases jw_if hq with ⟨c14, hq⟩ | ⟨c14, hq⟩
          · refine jw_icmp_ne_f (tgt := 129) dX12_line_122 (by decide) c14 ?_
            refine jw_iconst dX12_line_125 (v := (1 : Int32)) (by decide) ?_
            refine jw_goto (tgt := 130) dX12_line_126 (by decide) ?_
            refine jw_forget [true, false, true, false, false, true] (L' := [some (.ref x0), none, some (.int (v13 + (1 : Int32))), none, none, none]) rfl ?_
            exact l_X12_line_b130  hq
          · refine jw_icmp_ne_t (tgt := 129) dX12_line_122 (by decide) c14 ?_
            refine jw_iconst dX12_line_129 (v := (0 : Int32)) (by decide) ?_
            refine jw_forget [true, false, true, false, false, true] (L' := [some (.ref x0), none, some (.int (v13 + (1 : Int32))), none, none, none]) rfl ?_
            exact l_X12_line_b130  hq
  · refine jw_if_eq_f (tgt := 40) dX12_line_21 (by decide) c6 ?_
    refine jw_aload_n dX12_line_24 (o := (some x0)) rfl ?_
    refine jw_iload_n dX12_line_25 rfl ?_
    obtain ⟨a24, ea24, hq⟩ := Option.bind_eq_some_iff.mp hq
    obtain ⟨eoa24, eta24⟩ := jw_rc_spec ea24
    obtain ⟨w26, h25, ew26, hq⟩ := jw_b2_spec hq
    refine jw_callV (As := [.int x1]) (S := []) (a := a24) (v := some (.int w26)) dX12_line_26 mt_X12_numberAt in_X12_numberAt se_X12_numberAt lk_X12_301 (c_X12_numberAt ew26) eta24 (by decide) rfl rfl (by decide) (Nat.le_of_ble_eq_true rfl) (by cases eoa24; rfl) ?_
    refine jw_istore (L' := [some (.ref x0), some (.int x1), some (.int (x1 + (1 : Int32))), some (.int v2), some (.int w26), none]) dX12_line_29 (Nat.le_of_ble_eq_true rfl) rfl ?_
    refine jw_aload_n dX12_line_31 (o := (some x0)) rfl ?_
    refine jw_iload_n dX12_line_32 rfl ?_
    obtain ⟨a27, ea27, hq⟩ := Option.bind_eq_some_iff.mp hq
    obtain ⟨eoa27, eta27⟩ := jw_rc_spec ea27
    obtain ⟨w29, h28, ew29, hq⟩ := jw_b2_spec hq
    refine jw_callV (As := [.int x1]) (S := []) (a := a27) (v := some (.int w29)) dX12_line_33 mt_X12_behindNumber in_X12_behindNumber se_X12_behindNumber lk_X12_304 (c_X12_behindNumber ew29) eta27 (by decide) rfl rfl (by decide) (Nat.le_of_ble_eq_true rfl) (by cases eoa27; rfl) ?_
    refine jw_istore_n (L' := [some (.ref x0), some (.int x1), some (.int w29), some (.int v2), some (.int w26), none]) dX12_line_36 (Nat.le_of_ble_eq_true rfl) rfl ?_
    refine jw_goto (tgt := 143) dX12_line_37 (by decide) ?_
    refine jw_forget [true, false, true, false, true, true] (L' := [some (.ref x0), none, some (.int w29), none, some (.int w26), none]) rfl ?_
    exact l_X12_line_b143  jw_FU _ _ _ _ _ _ hq

theorem c_X12_line {h : jw_H} {x0 : Nat} {x1 : Int32} {r : Int32} {h' : jw_H} (hq : f_X12_line h x0 x1 = some (r, h')) : jw_Con (Cond.code yX12_line cX12_line 6 (some .int)) yX12_line 6 [.ref x0, .int x1] h (.inl (some (.int r))) h' :=
  jw_con false (plainFor_of_name (by decide +kernel)) (fun z => nomatch z) (by simp [jw_ent, jw_sl0_nil, jw_sl0_int, jw_sl0_long, jw_sl0_ref, jw_sl0_rf, jw_sl0_scr, List.replicate]) (by simp [jw_sl0_nil, jw_sl0_int, jw_sl0_long, jw_sl0_ref, jw_sl0_rf, jw_sl0_scr]) (l_X12_line hq)


/-! X12_range -/
noncomputable def g_X12_range_b82 (h : jw_H) (t0 : Int32) : Option (Int32 × jw_H) :=
 some (t0, h)

noncomputable def g_X12_range_b81 (h : jw_H)  : Option (Int32 × jw_H) :=
 g_X12_range_b82  h (0 : Int32)

noncomputable def g_X12_range_b53 (h : jw_H) (x0 : Nat) (x2 : Int32) : Option (Int32 × jw_H) :=
 (jw_pI h 12 (some x0) 42 (1 : Int32)).bind fun h1 =>
 (jw_gI h1 12 (some x0) 12).bind fun v2 =>
 (jw_pI h1 12 (some x0) 43 v2).bind fun h3 =>
 (jw_gI h3 12 (some x0) 12).bind fun v4 =>
 if v4 = 0 then (if x2 = 0 then (g_X12_range_b82  h3 (1 : Int32))
 else (g_X12_range_b81  h3 ))
 else (g_X12_range_b81  h3 )

noncomputable def g_X12_range_b234 (h : jw_H) (t0 : Int32) : Option (Int32 × jw_H) :=
 some (t0, h)

noncomputable def g_X12_range_b229 (h : jw_H)  : Option (Int32 × jw_H) :=
 g_X12_range_b234  h (1 : Int32)

noncomputable def g_X12_range_b233 (h : jw_H)  : Option (Int32 × jw_H) :=
 g_X12_range_b234  h (0 : Int32)

noncomputable def g_X12_range_b209 (h : jw_H) (x0 : Nat) (t0 : Int32) : Option (Int32 × jw_H) :=
 (jw_gI h 12 (some x0) 42).bind fun v1 =>
 if v1 = 0 then (if t0 = 0 then (g_X12_range_b229  h )
 else ((jw_gI h 12 (some x0) 27).bind fun v4 =>
 if v4 = (3 : Int32) then (g_X12_range_b229  h )
 else (g_X12_range_b233  h )))
 else (g_X12_range_b233  h )

noncomputable def g_X12_range_b204 (h : jw_H) (x0 : Nat) : Option (Int32 × jw_H) :=
 g_X12_range_b209  h x0 (1 : Int32)

noncomputable def g_X12_range_b186 (h : jw_H) (x0 : Nat) (x1 : Int32) : Option (Int32 × jw_H) :=
 if x1 = (97 : Int32) then (g_X12_range_b204  h x0)
 else (if x1 = (114 : Int32) then (g_X12_range_b204  h x0)
 else (if x1 = (117 : Int32) then (g_X12_range_b204  h x0)
 else (g_X12_range_b209  h x0 (0 : Int32))))

noncomputable def g_X12_range_b140 (h : jw_H) (x0 : Nat) (x1 : Int32) : Option (Int32 × jw_H) :=
 (jw_gI h 12 (some x0) 27).bind fun v1 =>
 if v1 = (3 : Int32) then ((jw_gI h 12 (some x0) 29).bind fun v3 =>
 (jw_rc h 12 (some x0)).bind fun a4 =>
 jw_b2 (f_X12_line h a4 v3) fun w6 h5 =>
 (jw_pI h5 12 (some x0) 43 w6).bind fun h7 =>
 (jw_gI h7 12 (some x0) 43).bind fun v8 =>
 if 0 ≤ v8 then ((jw_gI h7 12 (some x0) 42).bind fun v10 =>
 (jw_gI h7 12 (some x0) 43).bind fun v11 =>
 if v10 ≤ v11 then (g_X12_range_b186  h7 x0 x1)
 else (some ((1 : Int32), h7)))
 else ((jw_gI h7 12 (some x0) 43).bind fun v13 =>
 some ((-v13), h7)))
 else (g_X12_range_b186  h x0 x1)

noncomputable def g_X12_range_b83 (h : jw_H) (x0 : Nat) (x1 : Int32) : Option (Int32 × jw_H) :=
 (jw_gI h 12 (some x0) 16).bind fun v1 =>
 (jw_pI h 12 (some x0) 42 v1).bind fun h2 =>
 (jw_gI h2 12 (some x0) 16).bind fun v3 =>
 (jw_pI h2 12 (some x0) 43 v3).bind fun h4 =>
 (jw_gI h4 12 (some x0) 27).bind fun v5 =>
 if v5 < (2 : Int32) then (g_X12_range_b140  h4 x0 x1)
 else ((jw_gI h4 12 (some x0) 28).bind fun v7 =>
 (jw_rc h4 12 (some x0)).bind fun a8 =>
 jw_b2 (f_X12_line h4 a8 v7) fun w10 h9 =>
 (jw_pI h9 12 (some x0) 42 w10).bind fun h11 =>
 (jw_gI h11 12 (some x0) 42).bind fun v12 =>
 if 0 ≤ v12 then ((jw_gI h11 12 (some x0) 42).bind fun v14 =>
 (jw_pI h11 12 (some x0) 43 v14).bind fun h15 =>
 g_X12_range_b140  h15 x0 x1)
 else ((jw_gI h11 12 (some x0) 42).bind fun v16 =>
 some ((-v16), h11)))

noncomputable def g_X12_range_b33 (h : jw_H) (x0 : Nat) (x1 : Int32) (t0 : Int32) : Option (Int32 × jw_H) :=
 (jw_gI h 12 (some x0) 27).bind fun v1 =>
 if v1 = (1 : Int32) then (g_X12_range_b53  h x0 t0)
 else ((jw_gI h 12 (some x0) 27).bind fun v3 =>
 if v3 = 0 then (if t0 = 0 then (g_X12_range_b83  h x0 x1)
 else (g_X12_range_b53  h x0 t0))
 else (g_X12_range_b83  h x0 x1))

noncomputable def g_X12_range_b28 (h : jw_H) (x0 : Nat) (x1 : Int32) : Option (Int32 × jw_H) :=
 g_X12_range_b33  h x0 x1 (1 : Int32)

noncomputable def f_X12_range (h : jw_H) (x0 : Nat) : Option (Int32 × jw_H) :=
 (jw_gR h 12 (some x0) 21).bind fun v1 =>
 (jw_gI h 12 (some x0) 30).bind fun v2 =>
 (jw_ai h 20 v1 v2).bind fun v3 =>
 if v3 = (103 : Int32) then (g_X12_range_b28  h x0 v3)
 else (if v3 = (71 : Int32) then (g_X12_range_b28  h x0 v3)
 else (if v3 = (119 : Int32) then (g_X12_range_b28  h x0 v3)
 else (g_X12_range_b33  h x0 v3 (0 : Int32))))

set_option maxRecDepth 100000 in
set_option maxHeartbeats 4000000 in
theorem l_X12_range_b82 {hi : jw_H} {h : jw_H} {t0 : Int32} {r : Int32} {h' : jw_H} (hq : g_X12_range_b82  h t0 = some (r, h')) : jw_E 7 uX12_range hi 82 [none, none, none, none] [.int t0] h (.inl (some (.int r))) h' := by
  unfold g_X12_range_b82 at hq
  cases hq
  exact jw_iret (ty := .int) dX12_range_82 rfl rfl

set_option maxRecDepth 100000 in
set_option maxHeartbeats 4000000 in
theorem l_X12_range_b81 {hi : jw_H} {h : jw_H}  {r : Int32} {h' : jw_H} (hq : g_X12_range_b81  h  = some (r, h')) : jw_E 7 uX12_range hi 81 [none, none, none, none] [] h (.inl (some (.int r))) h' := by
  unfold g_X12_range_b81 at hq
  refine jw_iconst dX12_range_81 (v := (0 : Int32)) (by decide) ?_
  exact l_X12_range_b82  hq

set_option maxRecDepth 100000 in
set_option maxHeartbeats 4000000 in
theorem l_X12_range_b53 {hi : jw_H} {h : jw_H} {x0 : Nat} {x2 : Int32} {r : Int32} {h' : jw_H} (hq : g_X12_range_b53  h x0 x2 = some (r, h')) : jw_E 7 uX12_range hi 53 [some (.ref x0), none, some (.int x2), none] [] h (.inl (some (.int r))) h' := by
  unfold g_X12_range_b53 at hq
  refine jw_aload_n dX12_range_53 (o := (some x0)) rfl ?_
  refine jw_iconst dX12_range_54 (v := (1 : Int32)) (by decide) ?_
  obtain ⟨h1, eh1, hq⟩ := Option.bind_eq_some_iff.mp hq
  refine jw_putI (o := (some x0)) dX12_range_55 eh1 fl_X12_317 rfl rfl ?_
  refine jw_aload_n dX12_range_58 (o := (some x0)) rfl ?_
  refine jw_aload_n dX12_range_59 (o := (some x0)) rfl ?_
  obtain ⟨v2, ev2, hq⟩ := Option.bind_eq_some_iff.mp hq
  refine jw_getI (o := (some x0)) dX12_range_60 ev2 fl_X12_124 rfl ?_
  obtain ⟨h3, eh3, hq⟩ := Option.bind_eq_some_iff.mp hq
  refine jw_putI (o := (some x0)) dX12_range_63 eh3 fl_X12_320 rfl rfl ?_
  refine jw_aload_n dX12_range_66 (o := (some x0)) rfl ?_
  obtain ⟨v4, ev4, hq⟩ := Option.bind_eq_some_iff.mp hq
  refine jw_getI (o := (some x0)) dX12_range_67 ev4 fl_X12_124 rfl ?_
  rcases jw_if hq with ⟨c5, hq⟩ | ⟨c5, hq⟩
  · refine jw_if_ne_f (tgt := 81) dX12_range_70 (by decide) c5 ?_
    refine jw_iload_n dX12_range_73 rfl ?_
    rcases jw_if hq with ⟨c6, hq⟩ | ⟨c6, hq⟩
    · refine jw_if_ne_f (tgt := 81) dX12_range_74 (by decide) c6 ?_
      refine jw_iconst dX12_range_77 (v := (1 : Int32)) (by decide) ?_
      refine jw_goto (tgt := 82) dX12_range_78 (by decide) ?_
      refine jw_forget [false, true, false, true] (L' := [none, none, none, none]) rfl ?_
      exact l_X12_range_b82  hq
    · refine jw_if_ne_t (tgt := 81) dX12_range_74 (by decide) c6 ?_
      refine jw_forget [false, true, false, true] (L' := [none, none, none, none]) rfl ?_
      exact l_X12_range_b81  hq
  · refine jw_if_ne_t (tgt := 81) dX12_range_70 (by decide) c5 ?_
    refine jw_forget [false, true, false, true] (L' := [none, none, none, none]) rfl ?_
    exact l_X12_range_b81  hq

set_option maxRecDepth 100000 in
set_option maxHeartbeats 4000000 in
theorem l_X12_range_b234 {hi : jw_H} {h : jw_H} {t0 : Int32} {r : Int32} {h' : jw_H} (hq : g_X12_range_b234  h t0 = some (r, h')) : jw_E 7 uX12_range hi 234 [none, none, none, none] [.int t0] h (.inl (some (.int r))) h' := by
  unfold g_X12_range_b234 at hq
  cases hq
  exact jw_iret (ty := .int) dX12_range_234 rfl rfl

set_option maxRecDepth 100000 in
set_option maxHeartbeats 4000000 in
theorem l_X12_range_b229 {hi : jw_H} {h : jw_H}  {r : Int32} {h' : jw_H} (hq : g_X12_range_b229  h  = some (r, h')) : jw_E 7 uX12_range hi 229 [none, none, none, none] [] h (.inl (some (.int r))) h' := by
  unfold g_X12_range_b229 at hq
  refine jw_iconst dX12_range_229 (v := (1 : Int32)) (by decide) ?_
  refine jw_goto (tgt := 234) dX12_range_230 (by decide) ?_
  exact l_X12_range_b234  hq

set_option maxRecDepth 100000 in
set_option maxHeartbeats 4000000 in
theorem l_X12_range_b233 {hi : jw_H} {h : jw_H}  {r : Int32} {h' : jw_H} (hq : g_X12_range_b233  h  = some (r, h')) : jw_E 7 uX12_range hi 233 [none, none, none, none] [] h (.inl (some (.int r))) h' := by
  unfold g_X12_range_b233 at hq
  refine jw_iconst dX12_range_233 (v := (0 : Int32)) (by decide) ?_
  exact l_X12_range_b234  hq

set_option maxRecDepth 100000 in
set_option maxHeartbeats 4000000 in
theorem l_X12_range_b209 {hi : jw_H} {h : jw_H} {x0 : Nat} {t0 : Int32} {r : Int32} {h' : jw_H} (hq : g_X12_range_b209  h x0 t0 = some (r, h')) : jw_E 7 uX12_range hi 209 [some (.ref x0), none, none, none] [.int t0] h (.inl (some (.int r))) h' := by
  unfold g_X12_range_b209 at hq
  refine jw_istore_n (L' := [some (.ref x0), none, none, some (.int t0)]) dX12_range_209 (Nat.le_of_ble_eq_true rfl) rfl ?_
  refine jw_aload_n dX12_range_210 (o := (some x0)) rfl ?_
  obtain ⟨v1, ev1, hq⟩ := Option.bind_eq_some_iff.mp hq
  refine jw_getI (o := (some x0)) dX12_range_211 ev1 fl_X12_317 rfl ?_
  rcases jw_if hq with ⟨c2, hq⟩ | ⟨c2, hq⟩
  · refine jw_if_ne_f (tgt := 233) dX12_range_214 (by decide) c2 ?_
    refine jw_iload_n dX12_range_217 rfl ?_
    rcases jw_if hq with ⟨c3, hq⟩ | ⟨c3, hq⟩
    · refine jw_if_eq_t (tgt := 229) dX12_range_218 (by decide) c3 ?_
      refine jw_forget [false, true, true, false] (L' := [none, none, none, none]) rfl ?_
      exact l_X12_range_b229  hq
    · refine jw_if_eq_f (tgt := 229) dX12_range_218 (by decide) c3 ?_
      refine jw_aload_n dX12_range_221 (o := (some x0)) rfl ?_
      obtain ⟨v4, ev4, hq⟩ := Option.bind_eq_some_iff.mp hq
      refine jw_getI (o := (some x0)) dX12_range_222 ev4 fl_X12_203 rfl ?_
      refine jw_iconst dX12_range_225 (v := (3 : Int32)) (by decide) ?_
      rcases jw_if hq with ⟨c5, hq⟩ | ⟨c5, hq⟩
      · refine jw_icmp_ne_f (tgt := 233) dX12_range_226 (by decide) c5 ?_
        refine jw_forget [false, true, true, false] (L' := [none, none, none, none]) rfl ?_
        exact l_X12_range_b229  hq
      · refine jw_icmp_ne_t (tgt := 233) dX12_range_226 (by decide) c5 ?_
        refine jw_forget [false, true, true, false] (L' := [none, none, none, none]) rfl ?_
        exact l_X12_range_b233  hq
  · refine jw_if_ne_t (tgt := 233) dX12_range_214 (by decide) c2 ?_
    refine jw_forget [false, true, true, false] (L' := [none, none, none, none]) rfl ?_
    exact l_X12_range_b233  hq

set_option maxRecDepth 100000 in
set_option maxHeartbeats 4000000 in
theorem l_X12_range_b204 {hi : jw_H} {h : jw_H} {x0 : Nat} {r : Int32} {h' : jw_H} (hq : g_X12_range_b204  h x0 = some (r, h')) : jw_E 7 uX12_range hi 204 [some (.ref x0), none, none, none] [] h (.inl (some (.int r))) h' := by
  unfold g_X12_range_b204 at hq
  refine jw_iconst dX12_range_204 (v := (1 : Int32)) (by decide) ?_
  refine jw_goto (tgt := 209) dX12_range_205 (by decide) ?_
  exact l_X12_range_b209  hq

set_option maxRecDepth 100000 in
set_option maxHeartbeats 4000000 in
theorem l_X12_range_b186 {hi : jw_H} {h : jw_H} {x0 : Nat} {x1 : Int32} {r : Int32} {h' : jw_H} (hq : g_X12_range_b186  h x0 x1 = some (r, h')) : jw_E 7 uX12_range hi 186 [some (.ref x0), some (.int x1), none, none] [] h (.inl (some (.int r))) h' := by
  unfold g_X12_range_b186 at hq
  refine jw_iload_n dX12_range_186 rfl ?_
  refine jw_bipush dX12_range_187 (v := (97 : Int32)) (by decide) ?_
  rcases jw_if hq with ⟨c1, hq⟩ | ⟨c1, hq⟩
  · refine jw_icmp_eq_t (tgt := 204) dX12_range_189 (by decide) c1 ?_
    refine jw_forget [true, false, true, true] (L' := [some (.ref x0), none, none, none]) rfl ?_
    exact l_X12_range_b204  hq
  · refine jw_icmp_eq_f (tgt := 204) dX12_range_189 (by decide) c1 ?_
    refine jw_iload_n dX12_range_192 rfl ?_
    refine jw_bipush dX12_range_193 (v := (114 : Int32)) (by decide) ?_
    rcases jw_if hq with ⟨c2, hq⟩ | ⟨c2, hq⟩
    · refine jw_icmp_eq_t (tgt := 204) dX12_range_195 (by decide) c2 ?_
      refine jw_forget [true, false, true, true] (L' := [some (.ref x0), none, none, none]) rfl ?_
      exact l_X12_range_b204  hq
    · refine jw_icmp_eq_f (tgt := 204) dX12_range_195 (by decide) c2 ?_
      refine jw_iload_n dX12_range_198 rfl ?_
      refine jw_bipush dX12_range_199 (v := (117 : Int32)) (by decide) ?_
      rcases jw_if hq with ⟨c3, hq⟩ | ⟨c3, hq⟩
      · refine jw_icmp_ne_f (tgt := 208) dX12_range_201 (by decide) c3 ?_
        refine jw_forget [true, false, true, true] (L' := [some (.ref x0), none, none, none]) rfl ?_
        exact l_X12_range_b204  hq
      · refine jw_icmp_ne_t (tgt := 208) dX12_range_201 (by decide) c3 ?_
        refine jw_iconst dX12_range_208 (v := (0 : Int32)) (by decide) ?_
        refine jw_forget [true, false, true, true] (L' := [some (.ref x0), none, none, none]) rfl ?_
        exact l_X12_range_b209  hq

set_option maxRecDepth 100000 in
set_option maxHeartbeats 4000000 in
theorem l_X12_range_b140 {hi : jw_H} {h : jw_H} {x0 : Nat} {x1 : Int32} {r : Int32} {h' : jw_H} (hq : g_X12_range_b140  h x0 x1 = some (r, h')) : jw_E 7 uX12_range hi 140 [some (.ref x0), some (.int x1), none, none] [] h (.inl (some (.int r))) h' := by
  unfold g_X12_range_b140 at hq
  refine jw_aload_n dX12_range_140 (o := (some x0)) rfl ?_
  obtain ⟨v1, ev1, hq⟩ := Option.bind_eq_some_iff.mp hq
  refine jw_getI (o := (some x0)) dX12_range_141 ev1 fl_X12_203 rfl ?_
  refine jw_iconst dX12_range_144 (v := (3 : Int32)) (by decide) ?_
  rcases jw_if hq with ⟨c2, hq⟩ | ⟨c2, hq⟩
  · refine jw_icmp_ne_f (tgt := 186) dX12_range_145 (by decide) c2 ?_
    refine jw_aload_n dX12_range_148 (o := (some x0)) rfl ?_
    refine jw_aload_n dX12_range_149 (o := (some x0)) rfl ?_
    refine jw_aload_n dX12_range_150 (o := (some x0)) rfl ?_
    obtain ⟨v3, ev3, hq⟩ := Option.bind_eq_some_iff.mp hq
    refine jw_getI (o := (some x0)) dX12_range_151 ev3 fl_X12_215 rfl ?_
    obtain ⟨a4, ea4, hq⟩ := Option.bind_eq_some_iff.mp hq
    obtain ⟨eoa4, eta4⟩ := jw_rc_spec ea4
    obtain ⟨w6, h5, ew6, hq⟩ := jw_b2_spec hq
    refine jw_callV (As := [.int v3]) (S := [.ref x0]) (a := a4) (v := some (.int w6)) dX12_range_154 mt_X12_line in_X12_line se_X12_line lk_X12_323 (c_X12_line ew6) eta4 (by decide) rfl rfl (by decide) (Nat.le_of_ble_eq_true rfl) (by cases eoa4; rfl) ?_
    obtain ⟨h7, eh7, hq⟩ := Option.bind_eq_some_iff.mp hq
    refine jw_putI (o := (some x0)) dX12_range_157 eh7 fl_X12_320 rfl rfl ?_
    refine jw_aload_n dX12_range_160 (o := (some x0)) rfl ?_
    obtain ⟨v8, ev8, hq⟩ := Option.bind_eq_some_iff.mp hq
    refine jw_getI (o := (some x0)) dX12_range_161 ev8 fl_X12_320 rfl ?_
    rcases jw_if hq with ⟨c9, hq⟩ | ⟨c9, hq⟩
    · refine jw_if_ge_t (tgt := 173) dX12_range_164 (by decide) c9 ?_
      refine jw_aload_n dX12_range_173 (o := (some x0)) rfl ?_
      obtain ⟨v10, ev10, hq⟩ := Option.bind_eq_some_iff.mp hq
      refine jw_getI (o := (some x0)) dX12_range_174 ev10 fl_X12_317 rfl ?_
      refine jw_aload_n dX12_range_177 (o := (some x0)) rfl ?_
      obtain ⟨v11, ev11, hq⟩ := Option.bind_eq_some_iff.mp hq
      refine jw_getI (o := (some x0)) dX12_range_178 ev11 fl_X12_320 rfl ?_
      rcases jw_if hq with ⟨c12, hq⟩ | ⟨c12, hq⟩
      · refine jw_icmp_le_t (tgt := 186) dX12_range_181 (by decide) c12 ?_
        exact l_X12_range_b186  hq
      · refine jw_icmp_le_f (tgt := 186) dX12_range_181 (by decide) c12 ?_
        refine jw_iconst dX12_range_184 (v := (1 : Int32)) (by decide) ?_
        cases hq
        exact jw_iret (ty := .int) dX12_range_185 rfl rfl
    · refine jw_if_ge_f (tgt := 173) dX12_range_164 (by decide) c9 ?_
      refine jw_aload_n dX12_range_167 (o := (some x0)) rfl ?_
      obtain ⟨v13, ev13, hq⟩ := Option.bind_eq_some_iff.mp hq
      refine jw_getI (o := (some x0)) dX12_range_168 ev13 fl_X12_320 rfl ?_
      refine jw_ineg dX12_range_171 ?_
      cases hq
      exact jw_iret (ty := .int) dX12_range_172 rfl rfl
  · refine jw_icmp_ne_t (tgt := 186) dX12_range_145 (by decide) c2 ?_
    exact l_X12_range_b186  hq

set_option maxRecDepth 100000 in
set_option maxHeartbeats 4000000 in
theorem l_X12_range_b83 {hi : jw_H} {h : jw_H} {x0 : Nat} {x1 : Int32} {r : Int32} {h' : jw_H} (hq : g_X12_range_b83  h x0 x1 = some (r, h')) : jw_E 7 uX12_range hi 83 [some (.ref x0), some (.int x1), none, none] [] h (.inl (some (.int r))) h' := by
  unfold g_X12_range_b83 at hq
  refine jw_aload_n dX12_range_83 (o := (some x0)) rfl ?_
  refine jw_aload_n dX12_range_84 (o := (some x0)) rfl ?_
  obtain ⟨v1, ev1, hq⟩ := Option.bind_eq_some_iff.mp hq
  refine jw_getI (o := (some x0)) dX12_range_85 ev1 fl_X12_295 rfl ?_
  obtain ⟨h2, eh2, hq⟩ := Option.bind_eq_some_iff.mp hq
  refine jw_putI (o := (some x0)) dX12_range_88 eh2 fl_X12_317 rfl rfl ?_
  refine jw_aload_n dX12_range_91 (o := (some x0)) rfl ?_
  refine jw_aload_n dX12_range_92 (o := (some x0)) rfl ?_
  obtain ⟨v3, ev3, hq⟩ := Option.bind_eq_some_iff.mp hq
  refine jw_getI (o := (some x0)) dX12_range_93 ev3 fl_X12_295 rfl ?_
  obtain ⟨h4, eh4, hq⟩ := Option.bind_eq_some_iff.mp hq
  refine jw_putI (o := (some x0)) dX12_range_96 eh4 fl_X12_320 rfl rfl ?_
  refine jw_aload_n dX12_range_99 (o := (some x0)) rfl ?_
  obtain ⟨v5, ev5, hq⟩ := Option.bind_eq_some_iff.mp hq
  refine jw_getI (o := (some x0)) dX12_range_100 ev5 fl_X12_203 rfl ?_
  refine jw_iconst dX12_range_103 (v := (2 : Int32)) (by decide) ?_
  rcases jw_if hq with ⟨c6, hq⟩ | ⟨c6, hq⟩
  · refine jw_icmp_lt_t (tgt := 140) dX12_range_104 (by decide) c6 ?_
    exact l_X12_range_b140  hq
  · refine jw_icmp_lt_f (tgt := 140) dX12_range_104 (by decide) c6 ?_
    refine jw_aload_n dX12_range_107 (o := (some x0)) rfl ?_
    refine jw_aload_n dX12_range_108 (o := (some x0)) rfl ?_
    refine jw_aload_n dX12_range_109 (o := (some x0)) rfl ?_
    obtain ⟨v7, ev7, hq⟩ := Option.bind_eq_some_iff.mp hq
    refine jw_getI (o := (some x0)) dX12_range_110 ev7 fl_X12_209 rfl ?_
    obtain ⟨a8, ea8, hq⟩ := Option.bind_eq_some_iff.mp hq
    obtain ⟨eoa8, eta8⟩ := jw_rc_spec ea8
    obtain ⟨w10, h9, ew10, hq⟩ := jw_b2_spec hq
    refine jw_callV (As := [.int v7]) (S := [.ref x0]) (a := a8) (v := some (.int w10)) dX12_range_113 mt_X12_line in_X12_line se_X12_line lk_X12_323 (c_X12_line ew10) eta8 (by decide) rfl rfl (by decide) (Nat.le_of_ble_eq_true rfl) (by cases eoa8; rfl) ?_
    obtain ⟨h11, eh11, hq⟩ := Option.bind_eq_some_iff.mp hq
    refine jw_putI (o := (some x0)) dX12_range_116 eh11 fl_X12_317 rfl rfl ?_
    refine jw_aload_n dX12_range_119 (o := (some x0)) rfl ?_
    obtain ⟨v12, ev12, hq⟩ := Option.bind_eq_some_iff.mp hq
    refine jw_getI (o := (some x0)) dX12_range_120 ev12 fl_X12_317 rfl ?_
    rcases jw_if hq with ⟨c13, hq⟩ | ⟨c13, hq⟩
    · refine jw_if_ge_t (tgt := 132) dX12_range_123 (by decide) c13 ?_
      refine jw_aload_n dX12_range_132 (o := (some x0)) rfl ?_
      refine jw_aload_n dX12_range_133 (o := (some x0)) rfl ?_
      obtain ⟨v14, ev14, hq⟩ := Option.bind_eq_some_iff.mp hq
      refine jw_getI (o := (some x0)) dX12_range_134 ev14 fl_X12_317 rfl ?_
      obtain ⟨h15, eh15, hq⟩ := Option.bind_eq_some_iff.mp hq
      refine jw_putI (o := (some x0)) dX12_range_137 eh15 fl_X12_320 rfl rfl ?_
      exact l_X12_range_b140  hq
    · refine jw_if_ge_f (tgt := 132) dX12_range_123 (by decide) c13 ?_
      refine jw_aload_n dX12_range_126 (o := (some x0)) rfl ?_
      obtain ⟨v16, ev16, hq⟩ := Option.bind_eq_some_iff.mp hq
      refine jw_getI (o := (some x0)) dX12_range_127 ev16 fl_X12_317 rfl ?_
      refine jw_ineg dX12_range_130 ?_
      cases hq
      exact jw_iret (ty := .int) dX12_range_131 rfl rfl

set_option maxRecDepth 100000 in
set_option maxHeartbeats 4000000 in
theorem l_X12_range_b33 {hi : jw_H} {h : jw_H} {x0 : Nat} {x1 : Int32} {t0 : Int32} {r : Int32} {h' : jw_H} (hq : g_X12_range_b33  h x0 x1 t0 = some (r, h')) : jw_E 7 uX12_range hi 33 [some (.ref x0), some (.int x1), none, none] [.int t0] h (.inl (some (.int r))) h' := by
  unfold g_X12_range_b33 at hq
  refine jw_istore_n (L' := [some (.ref x0), some (.int x1), some (.int t0), none]) dX12_range_33 (Nat.le_of_ble_eq_true rfl) rfl ?_
  refine jw_aload_n dX12_range_34 (o := (some x0)) rfl ?_
  obtain ⟨v1, ev1, hq⟩ := Option.bind_eq_some_iff.mp hq
  refine jw_getI (o := (some x0)) dX12_range_35 ev1 fl_X12_203 rfl ?_
  refine jw_iconst dX12_range_38 (v := (1 : Int32)) (by decide) ?_
  rcases jw_if hq with ⟨c2, hq⟩ | ⟨c2, hq⟩
  · refine jw_icmp_eq_t (tgt := 53) dX12_range_39 (by decide) c2 ?_
    refine jw_forget [true, false, true, true] (L' := [some (.ref x0), none, some (.int t0), none]) rfl ?_
    exact l_X12_range_b53  hq
  · refine jw_icmp_eq_f (tgt := 53) dX12_range_39 (by decide) c2 ?_
    refine jw_aload_n dX12_range_42 (o := (some x0)) rfl ?_
    obtain ⟨v3, ev3, hq⟩ := Option.bind_eq_some_iff.mp hq
    refine jw_getI (o := (some x0)) dX12_range_43 ev3 fl_X12_203 rfl ?_
    rcases jw_if hq with ⟨c4, hq⟩ | ⟨c4, hq⟩
    · refine jw_if_ne_f (tgt := 83) dX12_range_46 (by decide) c4 ?_
      refine jw_iload_n dX12_range_49 rfl ?_
      rcases jw_if hq with ⟨c5, hq⟩ | ⟨c5, hq⟩
      · refine jw_if_eq_t (tgt := 83) dX12_range_50 (by decide) c5 ?_
        refine jw_forget [true, true, false, true] (L' := [some (.ref x0), some (.int x1), none, none]) rfl ?_
        exact l_X12_range_b83  hq
      · refine jw_if_eq_f (tgt := 83) dX12_range_50 (by decide) c5 ?_
        refine jw_forget [true, false, true, true] (L' := [some (.ref x0), none, some (.int t0), none]) rfl ?_
        exact l_X12_range_b53  hq
    · refine jw_if_ne_t (tgt := 83) dX12_range_46 (by decide) c4 ?_
      refine jw_forget [true, true, false, true] (L' := [some (.ref x0), some (.int x1), none, none]) rfl ?_
      exact l_X12_range_b83  hq

set_option maxRecDepth 100000 in
set_option maxHeartbeats 4000000 in
theorem l_X12_range_b28 {hi : jw_H} {h : jw_H} {x0 : Nat} {x1 : Int32} {r : Int32} {h' : jw_H} (hq : g_X12_range_b28  h x0 x1 = some (r, h')) : jw_E 7 uX12_range hi 28 [some (.ref x0), some (.int x1), none, none] [] h (.inl (some (.int r))) h' := by
  unfold g_X12_range_b28 at hq
  refine jw_iconst dX12_range_28 (v := (1 : Int32)) (by decide) ?_
  refine jw_goto (tgt := 33) dX12_range_29 (by decide) ?_
  exact l_X12_range_b33  hq

set_option maxRecDepth 100000 in
set_option maxHeartbeats 4000000 in
theorem l_X12_range {hi : jw_H} {h : jw_H} {x0 : Nat} {r : Int32} {h' : jw_H} (hq : f_X12_range  h x0 = some (r, h')) : jw_E 7 uX12_range hi 0 [some (.ref x0), none, none, none] [] h (.inl (some (.int r))) h' := by
  unfold f_X12_range at hq
  refine jw_aload_n dX12_range_0 (o := (some x0)) rfl ?_
  obtain ⟨v1, ev1, hq⟩ := Option.bind_eq_some_iff.mp hq
  refine jw_getR (o := (some x0)) dX12_range_1 ev1 fl_X12_44 rfl ?_
  refine jw_aload_n dX12_range_4 (o := (some x0)) rfl ?_
  obtain ⟨v2, ev2, hq⟩ := Option.bind_eq_some_iff.mp hq
  refine jw_getI (o := (some x0)) dX12_range_5 ev2 fl_X12_218 rfl ?_
  obtain ⟨v3, ev3, hq⟩ := Option.bind_eq_some_iff.mp hq
  refine jw_iald (o := v1) dX12_range_8 ev3 ?_
  refine jw_istore_n (L' := [some (.ref x0), some (.int v3), none, none]) dX12_range_9 (Nat.le_of_ble_eq_true rfl) rfl ?_
  refine jw_iload_n dX12_range_10 rfl ?_
  refine jw_bipush dX12_range_11 (v := (103 : Int32)) (by decide) ?_
  rcases jw_if hq with ⟨c4, hq⟩ | ⟨c4, hq⟩
  · refine jw_icmp_eq_t (tgt := 28) dX12_range_13 (by decide) c4 ?_
    exact l_X12_range_b28  hq
  · refine jw_icmp_eq_f (tgt := 28) dX12_range_13 (by decide) c4 ?_
    refine jw_iload_n dX12_range_16 rfl ?_
    refine jw_bipush dX12_range_17 (v := (71 : Int32)) (by decide) ?_
    rcases jw_if hq with ⟨c5, hq⟩ | ⟨c5, hq⟩
    · refine jw_icmp_eq_t (tgt := 28) dX12_range_19 (by decide) c5 ?_
      exact l_X12_range_b28  hq
    · refine jw_icmp_eq_f (tgt := 28) dX12_range_19 (by decide) c5 ?_
      refine jw_iload_n dX12_range_22 rfl ?_
      refine jw_bipush dX12_range_23 (v := (119 : Int32)) (by decide) ?_
      rcases jw_if hq with ⟨c6, hq⟩ | ⟨c6, hq⟩
      · refine jw_icmp_ne_f (tgt := 32) dX12_range_25 (by decide) c6 ?_
        exact l_X12_range_b28  hq
      · refine jw_icmp_ne_t (tgt := 32) dX12_range_25 (by decide) c6 ?_
        refine jw_iconst dX12_range_32 (v := (0 : Int32)) (by decide) ?_
        exact l_X12_range_b33  hq

theorem c_X12_range {h : jw_H} {x0 : Nat} {r : Int32} {h' : jw_H} (hq : f_X12_range h x0 = some (r, h')) : jw_Con (Cond.code yX12_range cX12_range 4 (some .int)) yX12_range 7 [.ref x0] h (.inl (some (.int r))) h' :=
  jw_con false (plainFor_of_name (by decide +kernel)) (fun z => nomatch z) (by simp [jw_ent, jw_sl0_nil, jw_sl0_int, jw_sl0_long, jw_sl0_ref, jw_sl0_rf, jw_sl0_scr, List.replicate]) (by simp [jw_sl0_nil, jw_sl0_int, jw_sl0_long, jw_sl0_ref, jw_sl0_rf, jw_sl0_scr]) (l_X12_range hq)


/-! X12_rowsAt -/
noncomputable def g_X12_rowsAt_b52 (k4 : jw_H → Nat → Int32 → Int32 → Option (Int32 × jw_H)) (h : jw_H) (x0 : Nat) (x3 : Int32) (t0 : Int32) (t1 : Int32) : Option (Int32 × jw_H) :=
 k4 h x0 (t0 + t1) (x3 + (1 : Int32))

noncomputable def g_X12_rowsAt_b35 (k4 : jw_H → Nat → Int32 → Int32 → Option (Int32 × jw_H)) (h : jw_H) (x0 : Nat) (x2 : Int32) (x3 : Int32) : Option (Int32 × jw_H) :=
 (jw_gR h 12 (some x0) 21).bind fun v1 =>
 (jw_ai h 20 v1 x3).bind fun v2 =>
 if v2 = (124 : Int32) then (g_X12_rowsAt_b52 k4 h x0 x3 x2 (1 : Int32))
 else (g_X12_rowsAt_b52 k4 h x0 x3 x2 (0 : Int32))

noncomputable def g_X12_rowsAt_b4 (k4 : jw_H → Nat → Int32 → Int32 → Option (Int32 × jw_H)) (h : jw_H) (x0 : Nat) (x2 : Int32) (x3 : Int32) : Option (Int32 × jw_H) :=
 (jw_gI h 12 (some x0) 22).bind fun v1 =>
 if v1 ≤ x3 then (some (x2, h))
 else ((jw_gR h 12 (some x0) 21).bind fun v3 =>
 (jw_ai h 20 v3 x3).bind fun v4 =>
 jw_b2 (f_X12_isChar h v4) fun w6 h5 =>
 if w6 = 0 then ((jw_gR h5 12 (some x0) 21).bind fun v8 =>
 (jw_ai h5 20 v8 x3).bind fun v9 =>
 if v9 = (124 : Int32) then (g_X12_rowsAt_b35 k4 h5 x0 x2 x3)
 else (some (x2, h5)))
 else (g_X12_rowsAt_b35 k4 h5 x0 x2 x3))

noncomputable def f_X12_rowsAt_b4 (n : Nat) : jw_H → Nat → Int32 → Int32 → Option (Int32 × jw_H) :=
 Nat.rec (fun _ _ _ _ => none) (fun _ k4 => g_X12_rowsAt_b4 k4) n

noncomputable def f_X12_rowsAt (h : jw_H) (x0 : Nat) (x1 : Int32) : Option (Int32 × jw_H) :=
 f_X12_rowsAt_b4  jw_FU h x0 (1 : Int32) x1

set_option maxRecDepth 100000 in
set_option maxHeartbeats 4000000 in
theorem l_X12_rowsAt_b52 {hi : jw_H} {k4 : jw_H → Nat → Int32 → Int32 → Option (Int32 × jw_H)} (hk4 : ∀ (h : jw_H) (x0 : Nat) (x2 : Int32) (x3 : Int32) (r : Int32) (h' : jw_H), k4 h x0 x2 x3 = some (r, h') → jw_E 2 uX12_rowsAt hi 4 [some (.ref x0), none, some (.int x2), some (.int x3)] [] h (.inl (some (.int r))) h') {h : jw_H} {x0 : Nat} {x3 : Int32} {t0 : Int32} {t1 : Int32} {r : Int32} {h' : jw_H} (hq : g_X12_rowsAt_b52 k4 h x0 x3 t0 t1 = some (r, h')) : jw_E 2 uX12_rowsAt hi 52 [some (.ref x0), none, none, some (.int x3)] [.int t1, .int t0] h (.inl (some (.int r))) h' := by
  unfold g_X12_rowsAt_b52 at hq
  refine jw_iadd dX12_rowsAt_52 ?_
  refine jw_istore_n (L' := [some (.ref x0), none, some (.int (t0 + t1)), some (.int x3)]) dX12_rowsAt_53 (Nat.le_of_ble_eq_true rfl) rfl ?_
  refine jw_iinc (L' := [some (.ref x0), none, some (.int (t0 + t1)), some (.int (x3 + (1 : Int32)))]) dX12_rowsAt_54 rfl (v := (1 : Int32)) (by decide) (Nat.le_of_ble_eq_true rfl) rfl ?_
  refine jw_goto (tgt := 4) dX12_rowsAt_57 (by decide) ?_
  exact hk4 _ _ _ _ _ _ hq

set_option maxRecDepth 100000 in
set_option maxHeartbeats 4000000 in
theorem l_X12_rowsAt_b35 {hi : jw_H} {k4 : jw_H → Nat → Int32 → Int32 → Option (Int32 × jw_H)} (hk4 : ∀ (h : jw_H) (x0 : Nat) (x2 : Int32) (x3 : Int32) (r : Int32) (h' : jw_H), k4 h x0 x2 x3 = some (r, h') → jw_E 2 uX12_rowsAt hi 4 [some (.ref x0), none, some (.int x2), some (.int x3)] [] h (.inl (some (.int r))) h') {h : jw_H} {x0 : Nat} {x2 : Int32} {x3 : Int32} {r : Int32} {h' : jw_H} (hq : g_X12_rowsAt_b35 k4 h x0 x2 x3 = some (r, h')) : jw_E 2 uX12_rowsAt hi 35 [some (.ref x0), none, some (.int x2), some (.int x3)] [] h (.inl (some (.int r))) h' := by
  unfold g_X12_rowsAt_b35 at hq
  refine jw_iload_n dX12_rowsAt_35 rfl ?_
  refine jw_aload_n dX12_rowsAt_36 (o := (some x0)) rfl ?_
  obtain ⟨v1, ev1, hq⟩ := Option.bind_eq_some_iff.mp hq
  refine jw_getR (o := (some x0)) dX12_rowsAt_37 ev1 fl_X12_44 rfl ?_
  refine jw_iload_n dX12_rowsAt_40 rfl ?_
  obtain ⟨v2, ev2, hq⟩ := Option.bind_eq_some_iff.mp hq
  refine jw_iald (o := v1) dX12_rowsAt_41 ev2 ?_
  refine jw_bipush dX12_rowsAt_42 (v := (124 : Int32)) (by decide) ?_
  rcases jw_if hq with ⟨c3, hq⟩ | ⟨c3, hq⟩
  · refine jw_icmp_ne_f (tgt := 51) dX12_rowsAt_44 (by decide) c3 ?_
    refine jw_iconst dX12_rowsAt_47 (v := (1 : Int32)) (by decide) ?_
    refine jw_goto (tgt := 52) dX12_rowsAt_48 (by decide) ?_
    refine jw_forget [true, true, false, true] (L' := [some (.ref x0), none, none, some (.int x3)]) rfl ?_
    exact l_X12_rowsAt_b52 hk4 hq
  · refine jw_icmp_ne_t (tgt := 51) dX12_rowsAt_44 (by decide) c3 ?_
    refine jw_iconst dX12_rowsAt_51 (v := (0 : Int32)) (by decide) ?_
    refine jw_forget [true, true, false, true] (L' := [some (.ref x0), none, none, some (.int x3)]) rfl ?_
    exact l_X12_rowsAt_b52 hk4 hq

set_option maxRecDepth 100000 in
set_option maxHeartbeats 4000000 in
theorem l_X12_rowsAt_b4g {hi : jw_H} {k4 : jw_H → Nat → Int32 → Int32 → Option (Int32 × jw_H)} (hk4 : ∀ (h : jw_H) (x0 : Nat) (x2 : Int32) (x3 : Int32) (r : Int32) (h' : jw_H), k4 h x0 x2 x3 = some (r, h') → jw_E 2 uX12_rowsAt hi 4 [some (.ref x0), none, some (.int x2), some (.int x3)] [] h (.inl (some (.int r))) h') {h : jw_H} {x0 : Nat} {x2 : Int32} {x3 : Int32} {r : Int32} {h' : jw_H} (hq : g_X12_rowsAt_b4 k4 h x0 x2 x3 = some (r, h')) : jw_E 2 uX12_rowsAt hi 4 [some (.ref x0), none, some (.int x2), some (.int x3)] [] h (.inl (some (.int r))) h' := by
  unfold g_X12_rowsAt_b4 at hq
  refine jw_iload_n dX12_rowsAt_4 rfl ?_
  refine jw_aload_n dX12_rowsAt_5 (o := (some x0)) rfl ?_
  obtain ⟨v1, ev1, hq⟩ := Option.bind_eq_some_iff.mp hq
  refine jw_getI (o := (some x0)) dX12_rowsAt_6 ev1 fl_X12_146 rfl ?_
  rcases jw_if hq with ⟨c2, hq⟩ | ⟨c2, hq⟩
  · refine jw_icmp_ge_t (tgt := 60) dX12_rowsAt_9 (by decide) c2 ?_
    refine jw_iload_n dX12_rowsAt_60 rfl ?_
    cases hq
    exact jw_iret (ty := .int) dX12_rowsAt_61 rfl rfl
  · refine jw_icmp_ge_f (tgt := 60) dX12_rowsAt_9 (by decide) c2 ?_
    refine jw_aload_n dX12_rowsAt_12 (o := (some x0)) rfl ?_
    obtain ⟨v3, ev3, hq⟩ := Option.bind_eq_some_iff.mp hq
    refine jw_getR (o := (some x0)) dX12_rowsAt_13 ev3 fl_X12_44 rfl ?_
    refine jw_iload_n dX12_rowsAt_16 rfl ?_
    obtain ⟨v4, ev4, hq⟩ := Option.bind_eq_some_iff.mp hq
    refine jw_iald (o := v3) dX12_rowsAt_17 ev4 ?_
    obtain ⟨w6, h5, ew6, hq⟩ := jw_b2_spec hq
    refine jw_callS (As := [.int v4]) (S := []) (v := some (.int w6)) dX12_rowsAt_18 mt_X12_isChar st_X12_isChar lk_X12_173 (c_X12_isChar ew6) rfl (by decide) (Nat.le_of_ble_eq_true rfl) rfl ?_
    rcases jw_if hq with ⟨c7, hq⟩ | ⟨c7, hq⟩
    · refine jw_if_ne_f (tgt := 35) dX12_rowsAt_21 (by decide) c7 ?_
      refine jw_aload_n dX12_rowsAt_24 (o := (some x0)) rfl ?_
      obtain ⟨v8, ev8, hq⟩ := Option.bind_eq_some_iff.mp hq
      refine jw_getR (o := (some x0)) dX12_rowsAt_25 ev8 fl_X12_44 rfl ?_
      refine jw_iload_n dX12_rowsAt_28 rfl ?_
      obtain ⟨v9, ev9, hq⟩ := Option.bind_eq_some_iff.mp hq
      refine jw_iald (o := v8) dX12_rowsAt_29 ev9 ?_
      refine jw_bipush dX12_rowsAt_30 (v := (124 : Int32)) (by decide) ?_
      rcases jw_if hq with ⟨c10, hq⟩ | ⟨c10, hq⟩
      · refine jw_icmp_ne_f (tgt := 60) dX12_rowsAt_32 (by decide) c10 ?_
        exact l_X12_rowsAt_b35 hk4 hq
      · refine jw_icmp_ne_t (tgt := 60) dX12_rowsAt_32 (by decide) c10 ?_
        refine jw_iload_n dX12_rowsAt_60 rfl ?_
        cases hq
        exact jw_iret (ty := .int) dX12_rowsAt_61 rfl rfl
    · refine jw_if_ne_t (tgt := 35) dX12_rowsAt_21 (by decide) c7 ?_
      exact l_X12_rowsAt_b35 hk4 hq

theorem l_X12_rowsAt_b4 {hi : jw_H} : ∀ (n : Nat) (h : jw_H) (x0 : Nat) (x2 : Int32) (x3 : Int32) (r : Int32) (h' : jw_H), f_X12_rowsAt_b4  n h x0 x2 x3 = some (r, h') → jw_E 2 uX12_rowsAt hi 4 [some (.ref x0), none, some (.int x2), some (.int x3)] [] h (.inl (some (.int r))) h' := by
  intro n
  induction n with
  | zero => intro h x0 x2 x3 r h' hq; exact nomatch hq
  | succ n ih => intro h x0 x2 x3 r h' hq; exact l_X12_rowsAt_b4g ih hq

set_option maxRecDepth 100000 in
set_option maxHeartbeats 4000000 in
theorem l_X12_rowsAt {hi : jw_H} {h : jw_H} {x0 : Nat} {x1 : Int32} {r : Int32} {h' : jw_H} (hq : f_X12_rowsAt  h x0 x1 = some (r, h')) : jw_E 2 uX12_rowsAt hi 0 [some (.ref x0), some (.int x1), none, none] [] h (.inl (some (.int r))) h' := by
  unfold f_X12_rowsAt at hq
  refine jw_iconst dX12_rowsAt_0 (v := (1 : Int32)) (by decide) ?_
  refine jw_istore_n (L' := [some (.ref x0), some (.int x1), some (.int (1 : Int32)), none]) dX12_rowsAt_1 (Nat.le_of_ble_eq_true rfl) rfl ?_
  refine jw_iload_n dX12_rowsAt_2 rfl ?_
  refine jw_istore_n (L' := [some (.ref x0), some (.int x1), some (.int (1 : Int32)), some (.int x1)]) dX12_rowsAt_3 (Nat.le_of_ble_eq_true rfl) rfl ?_
  refine jw_forget [true, false, true, true] (L' := [some (.ref x0), none, some (.int (1 : Int32)), some (.int x1)]) rfl ?_
  exact l_X12_rowsAt_b4  jw_FU _ _ _ _ _ _ hq

theorem c_X12_rowsAt {h : jw_H} {x0 : Nat} {x1 : Int32} {r : Int32} {h' : jw_H} (hq : f_X12_rowsAt h x0 x1 = some (r, h')) : jw_Con (Cond.code yX12_rowsAt cX12_rowsAt 4 (some .int)) yX12_rowsAt 2 [.ref x0, .int x1] h (.inl (some (.int r))) h' :=
  jw_con false (plainFor_of_name (by decide +kernel)) (fun z => nomatch z) (by simp [jw_ent, jw_sl0_nil, jw_sl0_int, jw_sl0_long, jw_sl0_ref, jw_sl0_rf, jw_sl0_scr, List.replicate]) (by simp [jw_sl0_nil, jw_sl0_int, jw_sl0_long, jw_sl0_ref, jw_sl0_rf, jw_sl0_scr]) (l_X12_rowsAt hq)


/-! X12_makeTold -/
noncomputable def g_X12_makeTold_b7 (k7 : jw_H → Nat → Int32 → Option (Int32 × jw_H)) (h : jw_H) (x0 : Nat) (x2 : Int32) : Option (Int32 × jw_H) :=
 (jw_gI h 12 (some x0) 22).bind fun v1 =>
 if v1 ≤ x2 then (some (x2, h))
 else ((jw_gR h 12 (some x0) 21).bind fun v3 =>
 (jw_ai h 20 v3 x2).bind fun v4 =>
 jw_b2 (f_X12_isChar h v4) fun w6 h5 =>
 if w6 = 0 then (some (x2, h5))
 else ((jw_gR h5 12 (some x0) 21).bind fun v8 =>
 (jw_ai h5 20 v8 x2).bind fun v9 =>
 (jw_rc h5 12 (some x0)).bind fun a10 =>
 jw_b2 (f_X12_makes h5 a10 v9) fun w12 h11 =>
 k7 h11 x0 (x2 + (1 : Int32))))

noncomputable def f_X12_makeTold_b7 (n : Nat) : jw_H → Nat → Int32 → Option (Int32 × jw_H) :=
 Nat.rec (fun _ _ _ => none) (fun _ k7 => g_X12_makeTold_b7 k7) n

noncomputable def f_X12_makeTold (h : jw_H) (x0 : Nat) (x1 : Int32) : Option (Int32 × jw_H) :=
 (jw_pI h 12 (some x0) 20 (0 : Int32)).bind fun h1 =>
 f_X12_makeTold_b7  jw_FU h1 x0 x1

set_option maxRecDepth 100000 in
set_option maxHeartbeats 4000000 in
theorem l_X12_makeTold_b7g {hi : jw_H} {k7 : jw_H → Nat → Int32 → Option (Int32 × jw_H)} (hk7 : ∀ (h : jw_H) (x0 : Nat) (x2 : Int32) (r : Int32) (h' : jw_H), k7 h x0 x2 = some (r, h') → jw_E 2 uX12_makeTold hi 7 [some (.ref x0), none, some (.int x2)] [] h (.inl (some (.int r))) h') {h : jw_H} {x0 : Nat} {x2 : Int32} {r : Int32} {h' : jw_H} (hq : g_X12_makeTold_b7 k7 h x0 x2 = some (r, h')) : jw_E 2 uX12_makeTold hi 7 [some (.ref x0), none, some (.int x2)] [] h (.inl (some (.int r))) h' := by
  unfold g_X12_makeTold_b7 at hq
  refine jw_iload_n dX12_makeTold_7 rfl ?_
  refine jw_aload_n dX12_makeTold_8 (o := (some x0)) rfl ?_
  obtain ⟨v1, ev1, hq⟩ := Option.bind_eq_some_iff.mp hq
  refine jw_getI (o := (some x0)) dX12_makeTold_9 ev1 fl_X12_146 rfl ?_
  rcases jw_if hq with ⟨c2, hq⟩ | ⟨c2, hq⟩
  · refine jw_icmp_ge_t (tgt := 43) dX12_makeTold_12 (by decide) c2 ?_
    refine jw_iload_n dX12_makeTold_43 rfl ?_
    cases hq
    exact jw_iret (ty := .int) dX12_makeTold_44 rfl rfl
  · refine jw_icmp_ge_f (tgt := 43) dX12_makeTold_12 (by decide) c2 ?_
    refine jw_aload_n dX12_makeTold_15 (o := (some x0)) rfl ?_
    obtain ⟨v3, ev3, hq⟩ := Option.bind_eq_some_iff.mp hq
    refine jw_getR (o := (some x0)) dX12_makeTold_16 ev3 fl_X12_44 rfl ?_
    refine jw_iload_n dX12_makeTold_19 rfl ?_
    obtain ⟨v4, ev4, hq⟩ := Option.bind_eq_some_iff.mp hq
    refine jw_iald (o := v3) dX12_makeTold_20 ev4 ?_
    obtain ⟨w6, h5, ew6, hq⟩ := jw_b2_spec hq
    refine jw_callS (As := [.int v4]) (S := []) (v := some (.int w6)) dX12_makeTold_21 mt_X12_isChar st_X12_isChar lk_X12_173 (c_X12_isChar ew6) rfl (by decide) (Nat.le_of_ble_eq_true rfl) rfl ?_
    rcases jw_if hq with ⟨c7, hq⟩ | ⟨c7, hq⟩
    · refine jw_if_eq_t (tgt := 43) dX12_makeTold_24 (by decide) c7 ?_
      refine jw_iload_n dX12_makeTold_43 rfl ?_
      cases hq
      exact jw_iret (ty := .int) dX12_makeTold_44 rfl rfl
    · refine jw_if_eq_f (tgt := 43) dX12_makeTold_24 (by decide) c7 ?_
      refine jw_aload_n dX12_makeTold_27 (o := (some x0)) rfl ?_
      refine jw_aload_n dX12_makeTold_28 (o := (some x0)) rfl ?_
      obtain ⟨v8, ev8, hq⟩ := Option.bind_eq_some_iff.mp hq
      refine jw_getR (o := (some x0)) dX12_makeTold_29 ev8 fl_X12_44 rfl ?_
      refine jw_iload_n dX12_makeTold_32 rfl ?_
      obtain ⟨v9, ev9, hq⟩ := Option.bind_eq_some_iff.mp hq
      refine jw_iald (o := v8) dX12_makeTold_33 ev9 ?_
      obtain ⟨a10, ea10, hq⟩ := Option.bind_eq_some_iff.mp hq
      obtain ⟨eoa10, eta10⟩ := jw_rc_spec ea10
      obtain ⟨w12, h11, ew12, hq⟩ := jw_b2_spec hq
      refine jw_callV (As := [.int v9]) (S := []) (a := a10) (v := none) dX12_makeTold_34 mt_X12_makes in_X12_makes se_X12_makes lk_X12_120 (c_X12_makes ew12) eta10 (by decide) rfl rfl (by decide) (Nat.le_of_ble_eq_true rfl) (by cases eoa10; rfl) ?_
      refine jw_iinc (L' := [some (.ref x0), none, some (.int (x2 + (1 : Int32)))]) dX12_makeTold_37 rfl (v := (1 : Int32)) (by decide) (Nat.le_of_ble_eq_true rfl) rfl ?_
      refine jw_goto (tgt := 7) dX12_makeTold_40 (by decide) ?_
      exact hk7 _ _ _ _ _ hq

theorem l_X12_makeTold_b7 {hi : jw_H} : ∀ (n : Nat) (h : jw_H) (x0 : Nat) (x2 : Int32) (r : Int32) (h' : jw_H), f_X12_makeTold_b7  n h x0 x2 = some (r, h') → jw_E 2 uX12_makeTold hi 7 [some (.ref x0), none, some (.int x2)] [] h (.inl (some (.int r))) h' := by
  intro n
  induction n with
  | zero => intro h x0 x2 r h' hq; exact nomatch hq
  | succ n ih => intro h x0 x2 r h' hq; exact l_X12_makeTold_b7g ih hq

set_option maxRecDepth 100000 in
set_option maxHeartbeats 4000000 in
theorem l_X12_makeTold {hi : jw_H} {h : jw_H} {x0 : Nat} {x1 : Int32} {r : Int32} {h' : jw_H} (hq : f_X12_makeTold  h x0 x1 = some (r, h')) : jw_E 2 uX12_makeTold hi 0 [some (.ref x0), some (.int x1), none] [] h (.inl (some (.int r))) h' := by
  unfold f_X12_makeTold at hq
  refine jw_iload_n dX12_makeTold_0 rfl ?_
  refine jw_istore_n (L' := [some (.ref x0), some (.int x1), some (.int x1)]) dX12_makeTold_1 (Nat.le_of_ble_eq_true rfl) rfl ?_
  refine jw_aload_n dX12_makeTold_2 (o := (some x0)) rfl ?_
  refine jw_iconst dX12_makeTold_3 (v := (0 : Int32)) (by decide) ?_
  obtain ⟨h1, eh1, hq⟩ := Option.bind_eq_some_iff.mp hq
  refine jw_putI (o := (some x0)) dX12_makeTold_4 eh1 fl_X12_117 rfl rfl ?_
  refine jw_forget [true, false, true] (L' := [some (.ref x0), none, some (.int x1)]) rfl ?_
  exact l_X12_makeTold_b7  jw_FU _ _ _ _ _ hq

theorem c_X12_makeTold {h : jw_H} {x0 : Nat} {x1 : Int32} {r : Int32} {h' : jw_H} (hq : f_X12_makeTold h x0 x1 = some (r, h')) : jw_Con (Cond.code yX12_makeTold cX12_makeTold 3 (some .int)) yX12_makeTold 2 [.ref x0, .int x1] h (.inl (some (.int r))) h' :=
  jw_con false (plainFor_of_name (by decide +kernel)) (fun z => nomatch z) (by simp [jw_ent, jw_sl0_nil, jw_sl0_int, jw_sl0_long, jw_sl0_ref, jw_sl0_rf, jw_sl0_scr, List.replicate]) (by simp [jw_sl0_nil, jw_sl0_int, jw_sl0_long, jw_sl0_ref, jw_sl0_rf, jw_sl0_scr]) (l_X12_makeTold hq)


/-! X12_bringTold -/
noncomputable def g_X12_bringTold_b6 (k6 : jw_H → Nat → Int32 → Int32 → Int32 → Int32 → Option (Unit × jw_H)) (h : jw_H) (x0 : Nat) (x2 : Int32) (x3 : Int32) (x4 : Int32) (x5 : Int32) : Option (Unit × jw_H) :=
 if x2 ≤ x5 then (some ((), h))
 else ((jw_rc h 12 (some x0)).bind fun a2 =>
 jw_b2 (f_X12_makeTold h a2 x4) fun w4 h3 =>
 (jw_rc h3 12 (some x0)).bind fun a5 =>
 jw_b2 (f_X12_lays h3 a5 (429 : Int32)) fun w7 h6 =>
 (jw_rc h6 12 (some x0)).bind fun a8 =>
 jw_b2 (f_X12_bring h6 a8 (429 : Int32) (x3 + x5)) fun w10 h9 =>
 k6 h9 x0 x2 x3 (w4 + (1 : Int32)) (x5 + (1 : Int32)))

noncomputable def f_X12_bringTold_b6 (n : Nat) : jw_H → Nat → Int32 → Int32 → Int32 → Int32 → Option (Unit × jw_H) :=
 Nat.rec (fun _ _ _ _ _ _ => none) (fun _ k6 => g_X12_bringTold_b6 k6) n

noncomputable def f_X12_bringTold (h : jw_H) (x0 : Nat) (x1 : Int32) (x2 : Int32) (x3 : Int32) : Option (Unit × jw_H) :=
 f_X12_bringTold_b6  jw_FU h x0 x2 x3 x1 (0 : Int32)

set_option maxRecDepth 100000 in
set_option maxHeartbeats 4000000 in
theorem l_X12_bringTold_b6g {hi : jw_H} {k6 : jw_H → Nat → Int32 → Int32 → Int32 → Int32 → Option (Unit × jw_H)} (hk6 : ∀ (h : jw_H) (x0 : Nat) (x2 : Int32) (x3 : Int32) (x4 : Int32) (x5 : Int32) (r : Unit) (h' : jw_H), k6 h x0 x2 x3 x4 x5 = some (r, h') → jw_E 3 uX12_bringTold hi 6 [some (.ref x0), none, some (.int x2), some (.int x3), some (.int x4), some (.int x5)] [] h (.inl none) h') {h : jw_H} {x0 : Nat} {x2 : Int32} {x3 : Int32} {x4 : Int32} {x5 : Int32} {r : Unit} {h' : jw_H} (hq : g_X12_bringTold_b6 k6 h x0 x2 x3 x4 x5 = some (r, h')) : jw_E 3 uX12_bringTold hi 6 [some (.ref x0), none, some (.int x2), some (.int x3), some (.int x4), some (.int x5)] [] h (.inl none) h' := by
  unfold g_X12_bringTold_b6 at hq
  refine jw_iload dX12_bringTold_6 rfl ?_
  refine jw_iload_n dX12_bringTold_8 rfl ?_
  rcases jw_if hq with ⟨c1, hq⟩ | ⟨c1, hq⟩
  · refine jw_icmp_ge_t (tgt := 47) dX12_bringTold_9 (by decide) c1 ?_
    cases hq
    exact jw_vret dX12_bringTold_47 rfl
  · refine jw_icmp_ge_f (tgt := 47) dX12_bringTold_9 (by decide) c1 ?_
    refine jw_aload_n dX12_bringTold_12 (o := (some x0)) rfl ?_
    refine jw_iload dX12_bringTold_13 rfl ?_
    obtain ⟨a2, ea2, hq⟩ := Option.bind_eq_some_iff.mp hq
    obtain ⟨eoa2, eta2⟩ := jw_rc_spec ea2
    obtain ⟨w4, h3, ew4, hq⟩ := jw_b2_spec hq
    refine jw_callV (As := [.int x4]) (S := []) (a := a2) (v := some (.int w4)) dX12_bringTold_15 mt_X12_makeTold in_X12_makeTold se_X12_makeTold lk_X12_326 (c_X12_makeTold ew4) eta2 (by decide) rfl rfl (by decide) (Nat.le_of_ble_eq_true rfl) (by cases eoa2; rfl) ?_
    refine jw_iconst dX12_bringTold_18 (v := (1 : Int32)) (by decide) ?_
    refine jw_iadd dX12_bringTold_19 ?_
    refine jw_istore (L' := [some (.ref x0), none, some (.int x2), some (.int x3), some (.int (w4 + (1 : Int32))), some (.int x5)]) dX12_bringTold_20 (Nat.le_of_ble_eq_true rfl) rfl ?_
    refine jw_aload_n dX12_bringTold_22 (o := (some x0)) rfl ?_
    refine jw_sipush dX12_bringTold_23 (v := (429 : Int32)) (by decide) ?_
    obtain ⟨a5, ea5, hq⟩ := Option.bind_eq_some_iff.mp hq
    obtain ⟨eoa5, eta5⟩ := jw_rc_spec ea5
    obtain ⟨w7, h6, ew7, hq⟩ := jw_b2_spec hq
    refine jw_callV (As := [.int (429 : Int32)]) (S := []) (a := a5) (v := some (.int w7)) dX12_bringTold_26 mt_X12_lays in_X12_lays se_X12_lays lk_X12_329 (c_X12_lays ew7) eta5 (by decide) rfl rfl (by decide) (Nat.le_of_ble_eq_true rfl) (by cases eoa5; rfl) ?_
    refine jw_pop dX12_bringTold_29 rfl ?_
    refine jw_aload_n dX12_bringTold_30 (o := (some x0)) rfl ?_
    refine jw_sipush dX12_bringTold_31 (v := (429 : Int32)) (by decide) ?_
    refine jw_iload_n dX12_bringTold_34 rfl ?_
    refine jw_iload dX12_bringTold_35 rfl ?_
    refine jw_iadd dX12_bringTold_37 ?_
    obtain ⟨a8, ea8, hq⟩ := Option.bind_eq_some_iff.mp hq
    obtain ⟨eoa8, eta8⟩ := jw_rc_spec ea8
    obtain ⟨w10, h9, ew10, hq⟩ := jw_b2_spec hq
    refine jw_callV (As := [.int (429 : Int32), .int (x3 + x5)]) (S := []) (a := a8) (v := none) dX12_bringTold_38 mt_X12_bring in_X12_bring se_X12_bring lk_X12_332 (c_X12_bring ew10) eta8 (by decide) rfl rfl (by decide) (Nat.le_of_ble_eq_true rfl) (by cases eoa8; rfl) ?_
    refine jw_iinc (L' := [some (.ref x0), none, some (.int x2), some (.int x3), some (.int (w4 + (1 : Int32))), some (.int (x5 + (1 : Int32)))]) dX12_bringTold_41 rfl (v := (1 : Int32)) (by decide) (Nat.le_of_ble_eq_true rfl) rfl ?_
    refine jw_goto (tgt := 6) dX12_bringTold_44 (by decide) ?_
    exact hk6 _ _ _ _ _ _ _ _ hq

theorem l_X12_bringTold_b6 {hi : jw_H} : ∀ (n : Nat) (h : jw_H) (x0 : Nat) (x2 : Int32) (x3 : Int32) (x4 : Int32) (x5 : Int32) (r : Unit) (h' : jw_H), f_X12_bringTold_b6  n h x0 x2 x3 x4 x5 = some (r, h') → jw_E 3 uX12_bringTold hi 6 [some (.ref x0), none, some (.int x2), some (.int x3), some (.int x4), some (.int x5)] [] h (.inl none) h' := by
  intro n
  induction n with
  | zero => intro h x0 x2 x3 x4 x5 r h' hq; exact nomatch hq
  | succ n ih => intro h x0 x2 x3 x4 x5 r h' hq; exact l_X12_bringTold_b6g ih hq

set_option maxRecDepth 100000 in
set_option maxHeartbeats 4000000 in
theorem l_X12_bringTold {hi : jw_H} {h : jw_H} {x0 : Nat} {x1 : Int32} {x2 : Int32} {x3 : Int32} {r : Unit} {h' : jw_H} (hq : f_X12_bringTold  h x0 x1 x2 x3 = some (r, h')) : jw_E 3 uX12_bringTold hi 0 [some (.ref x0), some (.int x1), some (.int x2), some (.int x3), none, none] [] h (.inl none) h' := by
  unfold f_X12_bringTold at hq
  refine jw_iload_n dX12_bringTold_0 rfl ?_
  refine jw_istore (L' := [some (.ref x0), some (.int x1), some (.int x2), some (.int x3), some (.int x1), none]) dX12_bringTold_1 (Nat.le_of_ble_eq_true rfl) rfl ?_
  refine jw_iconst dX12_bringTold_3 (v := (0 : Int32)) (by decide) ?_
  refine jw_istore (L' := [some (.ref x0), some (.int x1), some (.int x2), some (.int x3), some (.int x1), some (.int (0 : Int32))]) dX12_bringTold_4 (Nat.le_of_ble_eq_true rfl) rfl ?_
  refine jw_forget [true, false, true, true, true, true] (L' := [some (.ref x0), none, some (.int x2), some (.int x3), some (.int x1), some (.int (0 : Int32))]) rfl ?_
  exact l_X12_bringTold_b6  jw_FU _ _ _ _ _ _ _ _ hq

theorem c_X12_bringTold {h : jw_H} {x0 : Nat} {x1 : Int32} {x2 : Int32} {x3 : Int32} {r : Unit} {h' : jw_H} (hq : f_X12_bringTold h x0 x1 x2 x3 = some (r, h')) : jw_Con (Cond.code yX12_bringTold cX12_bringTold 6 none) yX12_bringTold 3 [.ref x0, .int x1, .int x2, .int x3] h (.inl none) h' :=
  jw_con false (plainFor_of_name (by decide +kernel)) (fun z => nomatch z) (by simp [jw_ent, jw_sl0_nil, jw_sl0_int, jw_sl0_long, jw_sl0_ref, jw_sl0_rf, jw_sl0_scr, List.replicate]) (by simp [jw_sl0_nil, jw_sl0_int, jw_sl0_long, jw_sl0_ref, jw_sl0_rf, jw_sl0_scr]) (l_X12_bringTold hq)


/-! X12_append -/
noncomputable def f_X12_append (h : jw_H) (x0 : Nat) (x1 : Int32) (x2 : Int32) : Option (Int32 × jw_H) :=
 (jw_rc h 12 (some x0)).bind fun a1 =>
 jw_b2 (f_X12_rowsAt h a1 x1) fun w3 h2 =>
 (jw_gI h2 12 (some x0) 12).bind fun v4 =>
 if (v4 + w3) ≤ (40 : Int32) then ((jw_rc h2 12 (some x0)).bind fun a6 =>
 jw_b2 (f_X12_bringTold h2 a6 x1 w3 x2) fun w8 h7 =>
 (jw_pI h7 12 (some x0) 16 (x2 + w3)).bind fun h9 =>
 some ((0 : Int32), h9))
 else (some ((4 : Int32), h2))

set_option maxRecDepth 100000 in
set_option maxHeartbeats 4000000 in
theorem l_X12_append {hi : jw_H} {h : jw_H} {x0 : Nat} {x1 : Int32} {x2 : Int32} {r : Int32} {h' : jw_H} (hq : f_X12_append  h x0 x1 x2 = some (r, h')) : jw_E 4 uX12_append hi 0 [some (.ref x0), some (.int x1), some (.int x2), none] [] h (.inl (some (.int r))) h' := by
  unfold f_X12_append at hq
  refine jw_aload_n dX12_append_0 (o := (some x0)) rfl ?_
  refine jw_iload_n dX12_append_1 rfl ?_
  obtain ⟨a1, ea1, hq⟩ := Option.bind_eq_some_iff.mp hq
  obtain ⟨eoa1, eta1⟩ := jw_rc_spec ea1
  obtain ⟨w3, h2, ew3, hq⟩ := jw_b2_spec hq
  refine jw_callV (As := [.int x1]) (S := []) (a := a1) (v := some (.int w3)) dX12_append_2 mt_X12_rowsAt in_X12_rowsAt se_X12_rowsAt lk_X12_335 (c_X12_rowsAt ew3) eta1 (by decide) rfl rfl (by decide) (Nat.le_of_ble_eq_true rfl) (by cases eoa1; rfl) ?_
  refine jw_istore_n (L' := [some (.ref x0), some (.int x1), some (.int x2), some (.int w3)]) dX12_append_5 (Nat.le_of_ble_eq_true rfl) rfl ?_
  refine jw_aload_n dX12_append_6 (o := (some x0)) rfl ?_
  obtain ⟨v4, ev4, hq⟩ := Option.bind_eq_some_iff.mp hq
  refine jw_getI (o := (some x0)) dX12_append_7 ev4 fl_X12_124 rfl ?_
  refine jw_iload_n dX12_append_10 rfl ?_
  refine jw_iadd dX12_append_11 ?_
  refine jw_bipush dX12_append_12 (v := (40 : Int32)) (by decide) ?_
  rcases jw_if hq with ⟨c5, hq⟩ | ⟨c5, hq⟩
  · refine jw_icmp_le_t (tgt := 19) dX12_append_14 (by decide) c5 ?_
    refine jw_aload_n dX12_append_19 (o := (some x0)) rfl ?_
    refine jw_iload_n dX12_append_20 rfl ?_
    refine jw_iload_n dX12_append_21 rfl ?_
    refine jw_iload_n dX12_append_22 rfl ?_
    obtain ⟨a6, ea6, hq⟩ := Option.bind_eq_some_iff.mp hq
    obtain ⟨eoa6, eta6⟩ := jw_rc_spec ea6
    obtain ⟨w8, h7, ew8, hq⟩ := jw_b2_spec hq
    refine jw_callV (As := [.int x1, .int w3, .int x2]) (S := []) (a := a6) (v := none) dX12_append_23 mt_X12_bringTold in_X12_bringTold se_X12_bringTold lk_X12_338 (c_X12_bringTold ew8) eta6 (by decide) rfl rfl (by decide) (Nat.le_of_ble_eq_true rfl) (by cases eoa6; rfl) ?_
    refine jw_aload_n dX12_append_26 (o := (some x0)) rfl ?_
    refine jw_iload_n dX12_append_27 rfl ?_
    refine jw_iload_n dX12_append_28 rfl ?_
    refine jw_iadd dX12_append_29 ?_
    obtain ⟨h9, eh9, hq⟩ := Option.bind_eq_some_iff.mp hq
    refine jw_putI (o := (some x0)) dX12_append_30 eh9 fl_X12_295 rfl rfl ?_
    refine jw_iconst dX12_append_33 (v := (0 : Int32)) (by decide) ?_
    cases hq
    exact jw_iret (ty := .int) dX12_append_34 rfl rfl
  · refine jw_icmp_le_f (tgt := 19) dX12_append_14 (by decide) c5 ?_
    refine jw_iconst dX12_append_17 (v := (4 : Int32)) (by decide) ?_
    cases hq
    exact jw_iret (ty := .int) dX12_append_18 rfl rfl

theorem c_X12_append {h : jw_H} {x0 : Nat} {x1 : Int32} {x2 : Int32} {r : Int32} {h' : jw_H} (hq : f_X12_append h x0 x1 x2 = some (r, h')) : jw_Con (Cond.code yX12_append cX12_append 4 (some .int)) yX12_append 4 [.ref x0, .int x1, .int x2] h (.inl (some (.int r))) h' :=
  jw_con false (plainFor_of_name (by decide +kernel)) (fun z => nomatch z) (by simp [jw_ent, jw_sl0_nil, jw_sl0_int, jw_sl0_long, jw_sl0_ref, jw_sl0_rf, jw_sl0_scr, List.replicate]) (by simp [jw_sl0_nil, jw_sl0_int, jw_sl0_long, jw_sl0_ref, jw_sl0_rf, jw_sl0_scr]) (l_X12_append hq)


/-! X12_goAll -/
noncomputable def g_X12_goAll_b5 (k5 : jw_H → Nat → Int32 → Option (Unit × jw_H)) (h : jw_H) (x0 : Nat) (x1 : Int32) : Option (Unit × jw_H) :=
 (jw_gI h 12 (some x0) 43).bind fun v1 =>
 if v1 < x1 then (some ((), h))
 else ((jw_gI h 12 (some x0) 42).bind fun v3 =>
 (jw_rc h 12 (some x0)).bind fun a4 =>
 jw_b2 (f_X12_goes h a4 v3) fun w6 h5 =>
 k5 h5 x0 (x1 + (1 : Int32)))

noncomputable def f_X12_goAll_b5 (n : Nat) : jw_H → Nat → Int32 → Option (Unit × jw_H) :=
 Nat.rec (fun _ _ _ => none) (fun _ k5 => g_X12_goAll_b5 k5) n

noncomputable def f_X12_goAll (h : jw_H) (x0 : Nat) : Option (Unit × jw_H) :=
 (jw_gI h 12 (some x0) 42).bind fun v1 =>
 f_X12_goAll_b5  jw_FU h x0 v1

set_option maxRecDepth 100000 in
set_option maxHeartbeats 4000000 in
theorem l_X12_goAll_b5g {hi : jw_H} {k5 : jw_H → Nat → Int32 → Option (Unit × jw_H)} (hk5 : ∀ (h : jw_H) (x0 : Nat) (x1 : Int32) (r : Unit) (h' : jw_H), k5 h x0 x1 = some (r, h') → jw_E 3 uX12_goAll hi 5 [some (.ref x0), some (.int x1)] [] h (.inl none) h') {h : jw_H} {x0 : Nat} {x1 : Int32} {r : Unit} {h' : jw_H} (hq : g_X12_goAll_b5 k5 h x0 x1 = some (r, h')) : jw_E 3 uX12_goAll hi 5 [some (.ref x0), some (.int x1)] [] h (.inl none) h' := by
  unfold g_X12_goAll_b5 at hq
  refine jw_iload_n dX12_goAll_5 rfl ?_
  refine jw_aload_n dX12_goAll_6 (o := (some x0)) rfl ?_
  obtain ⟨v1, ev1, hq⟩ := Option.bind_eq_some_iff.mp hq
  refine jw_getI (o := (some x0)) dX12_goAll_7 ev1 fl_X12_320 rfl ?_
  rcases jw_if hq with ⟨c2, hq⟩ | ⟨c2, hq⟩
  · refine jw_icmp_gt_t (tgt := 27) dX12_goAll_10 (by decide) c2 ?_
    cases hq
    exact jw_vret dX12_goAll_27 rfl
  · refine jw_icmp_gt_f (tgt := 27) dX12_goAll_10 (by decide) c2 ?_
    refine jw_aload_n dX12_goAll_13 (o := (some x0)) rfl ?_
    refine jw_aload_n dX12_goAll_14 (o := (some x0)) rfl ?_
    obtain ⟨v3, ev3, hq⟩ := Option.bind_eq_some_iff.mp hq
    refine jw_getI (o := (some x0)) dX12_goAll_15 ev3 fl_X12_317 rfl ?_
    obtain ⟨a4, ea4, hq⟩ := Option.bind_eq_some_iff.mp hq
    obtain ⟨eoa4, eta4⟩ := jw_rc_spec ea4
    obtain ⟨w6, h5, ew6, hq⟩ := jw_b2_spec hq
    refine jw_callV (As := [.int v3]) (S := []) (a := a4) (v := none) dX12_goAll_18 mt_X12_goes in_X12_goes se_X12_goes lk_X12_342 (c_X12_goes ew6) eta4 (by decide) rfl rfl (by decide) (Nat.le_of_ble_eq_true rfl) (by cases eoa4; rfl) ?_
    refine jw_iinc (L' := [some (.ref x0), some (.int (x1 + (1 : Int32)))]) dX12_goAll_21 rfl (v := (1 : Int32)) (by decide) (Nat.le_of_ble_eq_true rfl) rfl ?_
    refine jw_goto (tgt := 5) dX12_goAll_24 (by decide) ?_
    exact hk5 _ _ _ _ _ hq

theorem l_X12_goAll_b5 {hi : jw_H} : ∀ (n : Nat) (h : jw_H) (x0 : Nat) (x1 : Int32) (r : Unit) (h' : jw_H), f_X12_goAll_b5  n h x0 x1 = some (r, h') → jw_E 3 uX12_goAll hi 5 [some (.ref x0), some (.int x1)] [] h (.inl none) h' := by
  intro n
  induction n with
  | zero => intro h x0 x1 r h' hq; exact nomatch hq
  | succ n ih => intro h x0 x1 r h' hq; exact l_X12_goAll_b5g ih hq

set_option maxRecDepth 100000 in
set_option maxHeartbeats 4000000 in
theorem l_X12_goAll {hi : jw_H} {h : jw_H} {x0 : Nat} {r : Unit} {h' : jw_H} (hq : f_X12_goAll  h x0 = some (r, h')) : jw_E 3 uX12_goAll hi 0 [some (.ref x0), none] [] h (.inl none) h' := by
  unfold f_X12_goAll at hq
  refine jw_aload_n dX12_goAll_0 (o := (some x0)) rfl ?_
  obtain ⟨v1, ev1, hq⟩ := Option.bind_eq_some_iff.mp hq
  refine jw_getI (o := (some x0)) dX12_goAll_1 ev1 fl_X12_317 rfl ?_
  refine jw_istore_n (L' := [some (.ref x0), some (.int v1)]) dX12_goAll_4 (Nat.le_of_ble_eq_true rfl) rfl ?_
  exact l_X12_goAll_b5  jw_FU _ _ _ _ _ hq

theorem c_X12_goAll {h : jw_H} {x0 : Nat} {r : Unit} {h' : jw_H} (hq : f_X12_goAll h x0 = some (r, h')) : jw_Con (Cond.code yX12_goAll cX12_goAll 2 none) yX12_goAll 3 [.ref x0] h (.inl none) h' :=
  jw_con false (plainFor_of_name (by decide +kernel)) (fun z => nomatch z) (by simp [jw_ent, jw_sl0_nil, jw_sl0_int, jw_sl0_long, jw_sl0_ref, jw_sl0_rf, jw_sl0_scr, List.replicate]) (by simp [jw_sl0_nil, jw_sl0_int, jw_sl0_long, jw_sl0_ref, jw_sl0_rf, jw_sl0_scr]) (l_X12_goAll hq)


/-! X12_change -/
noncomputable def f_X12_change (h : jw_H) (x0 : Nat) (x1 : Int32) : Option (Int32 × jw_H) :=
 (jw_rc h 12 (some x0)).bind fun a1 =>
 jw_b2 (f_X12_rowsAt h a1 x1) fun w3 h2 =>
 (jw_gI h2 12 (some x0) 12).bind fun v4 =>
 (jw_gI h2 12 (some x0) 43).bind fun v5 =>
 (jw_gI h2 12 (some x0) 42).bind fun v6 =>
 if ((v4 - ((v5 - v6) + (1 : Int32))) + w3) ≤ (40 : Int32) then ((jw_rc h2 12 (some x0)).bind fun a8 =>
 jw_b2 (f_X12_goAll h2 a8) fun w10 h9 =>
 (jw_gI h9 12 (some x0) 42).bind fun v11 =>
 (jw_rc h9 12 (some x0)).bind fun a12 =>
 jw_b2 (f_X12_bringTold h9 a12 x1 w3 (v11 - (1 : Int32))) fun w14 h13 =>
 (jw_gI h13 12 (some x0) 42).bind fun v15 =>
 (jw_pI h13 12 (some x0) 16 ((v15 - (1 : Int32)) + w3)).bind fun h16 =>
 some ((0 : Int32), h16))
 else (some ((4 : Int32), h2))

set_option maxRecDepth 100000 in
set_option maxHeartbeats 4000000 in
theorem l_X12_change {hi : jw_H} {h : jw_H} {x0 : Nat} {x1 : Int32} {r : Int32} {h' : jw_H} (hq : f_X12_change  h x0 x1 = some (r, h')) : jw_E 4 uX12_change hi 0 [some (.ref x0), some (.int x1), none] [] h (.inl (some (.int r))) h' := by
  unfold f_X12_change at hq
  refine jw_aload_n dX12_change_0 (o := (some x0)) rfl ?_
  refine jw_iload_n dX12_change_1 rfl ?_
  obtain ⟨a1, ea1, hq⟩ := Option.bind_eq_some_iff.mp hq
  obtain ⟨eoa1, eta1⟩ := jw_rc_spec ea1
  obtain ⟨w3, h2, ew3, hq⟩ := jw_b2_spec hq
  refine jw_callV (As := [.int x1]) (S := []) (a := a1) (v := some (.int w3)) dX12_change_2 mt_X12_rowsAt in_X12_rowsAt se_X12_rowsAt lk_X12_335 (c_X12_rowsAt ew3) eta1 (by decide) rfl rfl (by decide) (Nat.le_of_ble_eq_true rfl) (by cases eoa1; rfl) ?_
  refine jw_istore_n (L' := [some (.ref x0), some (.int x1), some (.int w3)]) dX12_change_5 (Nat.le_of_ble_eq_true rfl) rfl ?_
  refine jw_aload_n dX12_change_6 (o := (some x0)) rfl ?_
  obtain ⟨v4, ev4, hq⟩ := Option.bind_eq_some_iff.mp hq
  refine jw_getI (o := (some x0)) dX12_change_7 ev4 fl_X12_124 rfl ?_
  refine jw_aload_n dX12_change_10 (o := (some x0)) rfl ?_
  obtain ⟨v5, ev5, hq⟩ := Option.bind_eq_some_iff.mp hq
  refine jw_getI (o := (some x0)) dX12_change_11 ev5 fl_X12_320 rfl ?_
  refine jw_aload_n dX12_change_14 (o := (some x0)) rfl ?_
  obtain ⟨v6, ev6, hq⟩ := Option.bind_eq_some_iff.mp hq
  refine jw_getI (o := (some x0)) dX12_change_15 ev6 fl_X12_317 rfl ?_
  refine jw_isub dX12_change_18 ?_
  refine jw_iconst dX12_change_19 (v := (1 : Int32)) (by decide) ?_
  refine jw_iadd dX12_change_20 ?_
  refine jw_isub dX12_change_21 ?_
  refine jw_iload_n dX12_change_22 rfl ?_
  refine jw_iadd dX12_change_23 ?_
  refine jw_bipush dX12_change_24 (v := (40 : Int32)) (by decide) ?_
  rcases jw_if hq with ⟨c7, hq⟩ | ⟨c7, hq⟩
  · refine jw_icmp_le_t (tgt := 31) dX12_change_26 (by decide) c7 ?_
    refine jw_aload_n dX12_change_31 (o := (some x0)) rfl ?_
    obtain ⟨a8, ea8, hq⟩ := Option.bind_eq_some_iff.mp hq
    obtain ⟨eoa8, eta8⟩ := jw_rc_spec ea8
    obtain ⟨w10, h9, ew10, hq⟩ := jw_b2_spec hq
    refine jw_callV (As := []) (S := []) (a := a8) (v := none) dX12_change_32 mt_X12_goAll in_X12_goAll se_X12_goAll lk_X12_345 (c_X12_goAll ew10) eta8 (by decide) rfl rfl (by decide) (Nat.le_of_ble_eq_true rfl) (by cases eoa8; rfl) ?_
    refine jw_aload_n dX12_change_35 (o := (some x0)) rfl ?_
    refine jw_iload_n dX12_change_36 rfl ?_
    refine jw_iload_n dX12_change_37 rfl ?_
    refine jw_aload_n dX12_change_38 (o := (some x0)) rfl ?_
    obtain ⟨v11, ev11, hq⟩ := Option.bind_eq_some_iff.mp hq
    refine jw_getI (o := (some x0)) dX12_change_39 ev11 fl_X12_317 rfl ?_
    refine jw_iconst dX12_change_42 (v := (1 : Int32)) (by decide) ?_
    refine jw_isub dX12_change_43 ?_
    obtain ⟨a12, ea12, hq⟩ := Option.bind_eq_some_iff.mp hq
    obtain ⟨eoa12, eta12⟩ := jw_rc_spec ea12
    obtain ⟨w14, h13, ew14, hq⟩ := jw_b2_spec hq
    refine jw_callV (As := [.int x1, .int w3, .int (v11 - (1 : Int32))]) (S := []) (a := a12) (v := none) dX12_change_44 mt_X12_bringTold in_X12_bringTold se_X12_bringTold lk_X12_338 (c_X12_bringTold ew14) eta12 (by decide) rfl rfl (by decide) (Nat.le_of_ble_eq_true rfl) (by cases eoa12; rfl) ?_
    refine jw_aload_n dX12_change_47 (o := (some x0)) rfl ?_
    refine jw_aload_n dX12_change_48 (o := (some x0)) rfl ?_
    obtain ⟨v15, ev15, hq⟩ := Option.bind_eq_some_iff.mp hq
    refine jw_getI (o := (some x0)) dX12_change_49 ev15 fl_X12_317 rfl ?_
    refine jw_iconst dX12_change_52 (v := (1 : Int32)) (by decide) ?_
    refine jw_isub dX12_change_53 ?_
    refine jw_iload_n dX12_change_54 rfl ?_
    refine jw_iadd dX12_change_55 ?_
    obtain ⟨h16, eh16, hq⟩ := Option.bind_eq_some_iff.mp hq
    refine jw_putI (o := (some x0)) dX12_change_56 eh16 fl_X12_295 rfl rfl ?_
    refine jw_iconst dX12_change_59 (v := (0 : Int32)) (by decide) ?_
    cases hq
    exact jw_iret (ty := .int) dX12_change_60 rfl rfl
  · refine jw_icmp_le_f (tgt := 31) dX12_change_26 (by decide) c7 ?_
    refine jw_iconst dX12_change_29 (v := (4 : Int32)) (by decide) ?_
    cases hq
    exact jw_iret (ty := .int) dX12_change_30 rfl rfl

theorem c_X12_change {h : jw_H} {x0 : Nat} {x1 : Int32} {r : Int32} {h' : jw_H} (hq : f_X12_change h x0 x1 = some (r, h')) : jw_Con (Cond.code yX12_change cX12_change 3 (some .int)) yX12_change 4 [.ref x0, .int x1] h (.inl (some (.int r))) h' :=
  jw_con false (plainFor_of_name (by decide +kernel)) (fun z => nomatch z) (by simp [jw_ent, jw_sl0_nil, jw_sl0_int, jw_sl0_long, jw_sl0_ref, jw_sl0_rf, jw_sl0_scr, List.replicate]) (by simp [jw_sl0_nil, jw_sl0_int, jw_sl0_long, jw_sl0_ref, jw_sl0_rf, jw_sl0_scr]) (l_X12_change hq)


/-! X12_delete -/
noncomputable def g_X12_delete_b27 (h : jw_H) (t0 : Nat) (t1 : Int32) : Option (Int32 × jw_H) :=
 (jw_pI h 12 (some t0) 16 t1).bind fun h1 =>
 some ((0 : Int32), h1)

noncomputable def f_X12_delete (h : jw_H) (x0 : Nat) : Option (Int32 × jw_H) :=
 (jw_rc h 12 (some x0)).bind fun a1 =>
 jw_b2 (f_X12_goAll h a1) fun w3 h2 =>
 (jw_gI h2 12 (some x0) 42).bind fun v4 =>
 (jw_gI h2 12 (some x0) 12).bind fun v5 =>
 if v5 < v4 then ((jw_gI h2 12 (some x0) 12).bind fun v7 =>
 g_X12_delete_b27  h2 x0 v7)
 else ((jw_gI h2 12 (some x0) 42).bind fun v8 =>
 g_X12_delete_b27  h2 x0 v8)

set_option maxRecDepth 100000 in
set_option maxHeartbeats 4000000 in
theorem l_X12_delete_b27 {hi : jw_H} {h : jw_H} {t0 : Nat} {t1 : Int32} {r : Int32} {h' : jw_H} (hq : g_X12_delete_b27  h t0 t1 = some (r, h')) : jw_E 4 uX12_delete hi 27 [none] [.int t1, .ref t0] h (.inl (some (.int r))) h' := by
  unfold g_X12_delete_b27 at hq
  obtain ⟨h1, eh1, hq⟩ := Option.bind_eq_some_iff.mp hq
  refine jw_putI (o := (some t0)) dX12_delete_27 eh1 fl_X12_295 rfl rfl ?_
  refine jw_iconst dX12_delete_30 (v := (0 : Int32)) (by decide) ?_
  cases hq
  exact jw_iret (ty := .int) dX12_delete_31 rfl rfl

set_option maxRecDepth 100000 in
set_option maxHeartbeats 4000000 in
theorem l_X12_delete {hi : jw_H} {h : jw_H} {x0 : Nat} {r : Int32} {h' : jw_H} (hq : f_X12_delete  h x0 = some (r, h')) : jw_E 4 uX12_delete hi 0 [some (.ref x0)] [] h (.inl (some (.int r))) h' := by
  unfold f_X12_delete at hq
  refine jw_aload_n dX12_delete_0 (o := (some x0)) rfl ?_
  obtain ⟨a1, ea1, hq⟩ := Option.bind_eq_some_iff.mp hq
  obtain ⟨eoa1, eta1⟩ := jw_rc_spec ea1
  obtain ⟨w3, h2, ew3, hq⟩ := jw_b2_spec hq
  refine jw_callV (As := []) (S := []) (a := a1) (v := none) dX12_delete_1 mt_X12_goAll in_X12_goAll se_X12_goAll lk_X12_345 (c_X12_goAll ew3) eta1 (by decide) rfl rfl (by decide) (Nat.le_of_ble_eq_true rfl) (by cases eoa1; rfl) ?_
  refine jw_aload_n dX12_delete_4 (o := (some x0)) rfl ?_
  refine jw_aload_n dX12_delete_5 (o := (some x0)) rfl ?_
  obtain ⟨v4, ev4, hq⟩ := Option.bind_eq_some_iff.mp hq
  refine jw_getI (o := (some x0)) dX12_delete_6 ev4 fl_X12_317 rfl ?_
  refine jw_aload_n dX12_delete_9 (o := (some x0)) rfl ?_
  obtain ⟨v5, ev5, hq⟩ := Option.bind_eq_some_iff.mp hq
  refine jw_getI (o := (some x0)) dX12_delete_10 ev5 fl_X12_124 rfl ?_
  rcases jw_if hq with ⟨c6, hq⟩ | ⟨c6, hq⟩
  · refine jw_icmp_gt_t (tgt := 23) dX12_delete_13 (by decide) c6 ?_
    refine jw_aload_n dX12_delete_23 (o := (some x0)) rfl ?_
    obtain ⟨v7, ev7, hq⟩ := Option.bind_eq_some_iff.mp hq
    refine jw_getI (o := (some x0)) dX12_delete_24 ev7 fl_X12_124 rfl ?_
    refine jw_forget [false] (L' := [none]) rfl ?_
    exact l_X12_delete_b27  hq
  · refine jw_icmp_gt_f (tgt := 23) dX12_delete_13 (by decide) c6 ?_
    refine jw_aload_n dX12_delete_16 (o := (some x0)) rfl ?_
    obtain ⟨v8, ev8, hq⟩ := Option.bind_eq_some_iff.mp hq
    refine jw_getI (o := (some x0)) dX12_delete_17 ev8 fl_X12_317 rfl ?_
    refine jw_goto (tgt := 27) dX12_delete_20 (by decide) ?_
    refine jw_forget [false] (L' := [none]) rfl ?_
    exact l_X12_delete_b27  hq

theorem c_X12_delete {h : jw_H} {x0 : Nat} {r : Int32} {h' : jw_H} (hq : f_X12_delete h x0 = some (r, h')) : jw_Con (Cond.code yX12_delete cX12_delete 1 (some .int)) yX12_delete 4 [.ref x0] h (.inl (some (.int r))) h' :=
  jw_con false (plainFor_of_name (by decide +kernel)) (fun z => nomatch z) (by simp [jw_ent, jw_sl0_nil, jw_sl0_int, jw_sl0_long, jw_sl0_ref, jw_sl0_rf, jw_sl0_scr, List.replicate]) (by simp [jw_sl0_nil, jw_sl0_int, jw_sl0_long, jw_sl0_ref, jw_sl0_rf, jw_sl0_scr]) (l_X12_delete hq)


/-! X12_join -/
noncomputable def g_X12_join_b114 (k114 : jw_H → Nat → Int32 → Option (Int32 × jw_H)) (h : jw_H) (x0 : Nat) (x1 : Int32) : Option (Int32 × jw_H) :=
 (jw_gI h 12 (some x0) 43).bind fun v1 =>
 if v1 ≤ x1 then ((jw_gI h 12 (some x0) 42).bind fun v3 =>
 (jw_pI h 12 (some x0) 16 v3).bind fun h4 =>
 some ((0 : Int32), h4))
 else ((jw_gI h 12 (some x0) 42).bind fun v5 =>
 (jw_rc h 12 (some x0)).bind fun a6 =>
 jw_b2 (f_X12_goes h a6 (v5 + (1 : Int32))) fun w8 h7 =>
 k114 h7 x0 (x1 + (1 : Int32)))

noncomputable def f_X12_join_b114 (n : Nat) : jw_H → Nat → Int32 → Option (Int32 × jw_H) :=
 Nat.rec (fun _ _ _ => none) (fun _ k114 => g_X12_join_b114 k114) n

noncomputable def g_X12_join_b62 (k62 : jw_H → Nat → Int32 → Option (Int32 × jw_H)) (h : jw_H) (x0 : Nat) (x1 : Int32) : Option (Int32 × jw_H) :=
 (jw_gI h 12 (some x0) 43).bind fun v1 =>
 if v1 < x1 then ((jw_gI h 12 (some x0) 42).bind fun v3 =>
 jw_b2 (f_X12_textRow h v3) fun w5 h4 =>
 (jw_rc h4 12 (some x0)).bind fun a6 =>
 jw_b2 (f_X12_lays h4 a6 w5) fun w8 h7 =>
 if w8 = 0 then (some ((4 : Int32), h7))
 else ((jw_gI h7 12 (some x0) 42).bind fun v10 =>
 f_X12_join_b114  jw_FU h7 x0 v10))
 else (jw_b2 (f_X12_textRow h x1) fun w12 h11 =>
 jw_b2 (f_X12_textRow h11 x1) fun w14 h13 =>
 (jw_rc h13 12 (some x0)).bind fun a15 =>
 jw_b2 (f_X12_len h13 a15 w14) fun w17 h16 =>
 (jw_rc h16 12 (some x0)).bind fun a18 =>
 jw_b2 (f_X12_makesRow h16 a18 w12 (0 : Int32) w17) fun w20 h19 =>
 k62 h19 x0 (x1 + (1 : Int32)))

noncomputable def f_X12_join_b62 (n : Nat) : jw_H → Nat → Int32 → Option (Int32 × jw_H) :=
 Nat.rec (fun _ _ _ => none) (fun _ k62 => g_X12_join_b62 k62) n

noncomputable def g_X12_join_b49 (h : jw_H) (x0 : Nat) (t0 : Nat) (t1 : Int32) : Option (Int32 × jw_H) :=
 (jw_pI h 12 (some t0) 43 t1).bind fun h1 =>
 (jw_pI h1 12 (some x0) 20 (0 : Int32)).bind fun h2 =>
 (jw_gI h2 12 (some x0) 42).bind fun v3 =>
 f_X12_join_b62  jw_FU h2 x0 v3

noncomputable def g_X12_join_b24 (h : jw_H) (x0 : Nat) : Option (Int32 × jw_H) :=
 (jw_gI h 12 (some x0) 42).bind fun v1 =>
 (jw_gI h 12 (some x0) 43).bind fun v2 =>
 if v1 = v2 then ((jw_gI h 12 (some x0) 42).bind fun v5 =>
 g_X12_join_b49  h x0 x0 (v5 + (1 : Int32)))
 else ((jw_gI h 12 (some x0) 43).bind fun v4 =>
 g_X12_join_b49  h x0 x0 v4)

noncomputable def f_X12_join (h : jw_H) (x0 : Nat) : Option (Int32 × jw_H) :=
 (jw_gI h 12 (some x0) 42).bind fun v1 =>
 (jw_gI h 12 (some x0) 43).bind fun v2 =>
 if v1 = v2 then ((jw_gI h 12 (some x0) 42).bind fun v4 =>
 (jw_gI h 12 (some x0) 12).bind fun v5 =>
 if v4 = v5 then (some ((1 : Int32), h))
 else (g_X12_join_b24  h x0))
 else (g_X12_join_b24  h x0)

set_option maxRecDepth 100000 in
set_option maxHeartbeats 4000000 in
theorem l_X12_join_b114g {hi : jw_H} {k114 : jw_H → Nat → Int32 → Option (Int32 × jw_H)} (hk114 : ∀ (h : jw_H) (x0 : Nat) (x1 : Int32) (r : Int32) (h' : jw_H), k114 h x0 x1 = some (r, h') → jw_E 3 uX12_join hi 114 [some (.ref x0), some (.int x1)] [] h (.inl (some (.int r))) h') {h : jw_H} {x0 : Nat} {x1 : Int32} {r : Int32} {h' : jw_H} (hq : g_X12_join_b114 k114 h x0 x1 = some (r, h')) : jw_E 3 uX12_join hi 114 [some (.ref x0), some (.int x1)] [] h (.inl (some (.int r))) h' := by
  unfold g_X12_join_b114 at hq
  refine jw_iload_n dX12_join_114 rfl ?_
  refine jw_aload_n dX12_join_115 (o := (some x0)) rfl ?_
  obtain ⟨v1, ev1, hq⟩ := Option.bind_eq_some_iff.mp hq
  refine jw_getI (o := (some x0)) dX12_join_116 ev1 fl_X12_320 rfl ?_
  rcases jw_if hq with ⟨c2, hq⟩ | ⟨c2, hq⟩
  · refine jw_icmp_ge_t (tgt := 138) dX12_join_119 (by decide) c2 ?_
    refine jw_aload_n dX12_join_138 (o := (some x0)) rfl ?_
    refine jw_aload_n dX12_join_139 (o := (some x0)) rfl ?_
    obtain ⟨v3, ev3, hq⟩ := Option.bind_eq_some_iff.mp hq
    refine jw_getI (o := (some x0)) dX12_join_140 ev3 fl_X12_317 rfl ?_
    obtain ⟨h4, eh4, hq⟩ := Option.bind_eq_some_iff.mp hq
    refine jw_putI (o := (some x0)) dX12_join_143 eh4 fl_X12_295 rfl rfl ?_
    refine jw_iconst dX12_join_146 (v := (0 : Int32)) (by decide) ?_
    cases hq
    exact jw_iret (ty := .int) dX12_join_147 rfl rfl
  · refine jw_icmp_ge_f (tgt := 138) dX12_join_119 (by decide) c2 ?_
    refine jw_aload_n dX12_join_122 (o := (some x0)) rfl ?_
    refine jw_aload_n dX12_join_123 (o := (some x0)) rfl ?_
    obtain ⟨v5, ev5, hq⟩ := Option.bind_eq_some_iff.mp hq
    refine jw_getI (o := (some x0)) dX12_join_124 ev5 fl_X12_317 rfl ?_
    refine jw_iconst dX12_join_127 (v := (1 : Int32)) (by decide) ?_
    refine jw_iadd dX12_join_128 ?_
    obtain ⟨a6, ea6, hq⟩ := Option.bind_eq_some_iff.mp hq
    obtain ⟨eoa6, eta6⟩ := jw_rc_spec ea6
    obtain ⟨w8, h7, ew8, hq⟩ := jw_b2_spec hq
    refine jw_callV (As := [.int (v5 + (1 : Int32))]) (S := []) (a := a6) (v := none) dX12_join_129 mt_X12_goes in_X12_goes se_X12_goes lk_X12_342 (c_X12_goes ew8) eta6 (by decide) rfl rfl (by decide) (Nat.le_of_ble_eq_true rfl) (by cases eoa6; rfl) ?_
    refine jw_iinc (L' := [some (.ref x0), some (.int (x1 + (1 : Int32)))]) dX12_join_132 rfl (v := (1 : Int32)) (by decide) (Nat.le_of_ble_eq_true rfl) rfl ?_
    refine jw_goto (tgt := 114) dX12_join_135 (by decide) ?_
    exact hk114 _ _ _ _ _ hq

theorem l_X12_join_b114 {hi : jw_H} : ∀ (n : Nat) (h : jw_H) (x0 : Nat) (x1 : Int32) (r : Int32) (h' : jw_H), f_X12_join_b114  n h x0 x1 = some (r, h') → jw_E 3 uX12_join hi 114 [some (.ref x0), some (.int x1)] [] h (.inl (some (.int r))) h' := by
  intro n
  induction n with
  | zero => intro h x0 x1 r h' hq; exact nomatch hq
  | succ n ih => intro h x0 x1 r h' hq; exact l_X12_join_b114g ih hq

set_option maxRecDepth 100000 in
set_option maxHeartbeats 4000000 in
theorem l_X12_join_b62g {hi : jw_H} {k62 : jw_H → Nat → Int32 → Option (Int32 × jw_H)} (hk62 : ∀ (h : jw_H) (x0 : Nat) (x1 : Int32) (r : Int32) (h' : jw_H), k62 h x0 x1 = some (r, h') → jw_E 3 uX12_join hi 62 [some (.ref x0), some (.int x1)] [] h (.inl (some (.int r))) h') {h : jw_H} {x0 : Nat} {x1 : Int32} {r : Int32} {h' : jw_H} (hq : g_X12_join_b62 k62 h x0 x1 = some (r, h')) : jw_E 3 uX12_join hi 62 [some (.ref x0), some (.int x1)] [] h (.inl (some (.int r))) h' := by
  unfold g_X12_join_b62 at hq
  refine jw_iload_n dX12_join_62 rfl ?_
  refine jw_aload_n dX12_join_63 (o := (some x0)) rfl ?_
  obtain ⟨v1, ev1, hq⟩ := Option.bind_eq_some_iff.mp hq
  refine jw_getI (o := (some x0)) dX12_join_64 ev1 fl_X12_320 rfl ?_
  rcases jw_if hq with ⟨c2, hq⟩ | ⟨c2, hq⟩
  · refine jw_icmp_gt_t (tgt := 93) dX12_join_67 (by decide) c2 ?_
    refine jw_aload_n dX12_join_93 (o := (some x0)) rfl ?_
    refine jw_aload_n dX12_join_94 (o := (some x0)) rfl ?_
    obtain ⟨v3, ev3, hq⟩ := Option.bind_eq_some_iff.mp hq
    refine jw_getI (o := (some x0)) dX12_join_95 ev3 fl_X12_317 rfl ?_
    obtain ⟨w5, h4, ew5, hq⟩ := jw_b2_spec hq
    refine jw_callS (As := [.int v3]) (S := [.ref x0]) (v := some (.int w5)) dX12_join_98 mt_X12_textRow st_X12_textRow lk_X12_298 (c_X12_textRow ew5) rfl (by decide) (Nat.le_of_ble_eq_true rfl) rfl ?_
    obtain ⟨a6, ea6, hq⟩ := Option.bind_eq_some_iff.mp hq
    obtain ⟨eoa6, eta6⟩ := jw_rc_spec ea6
    obtain ⟨w8, h7, ew8, hq⟩ := jw_b2_spec hq
    refine jw_callV (As := [.int w5]) (S := []) (a := a6) (v := some (.int w8)) dX12_join_101 mt_X12_lays in_X12_lays se_X12_lays lk_X12_329 (c_X12_lays ew8) eta6 (by decide) rfl rfl (by decide) (Nat.le_of_ble_eq_true rfl) (by cases eoa6; rfl) ?_
    rcases jw_if hq with ⟨c9, hq⟩ | ⟨c9, hq⟩
    · refine jw_if_ne_f (tgt := 109) dX12_join_104 (by decide) c9 ?_
      refine jw_iconst dX12_join_107 (v := (4 : Int32)) (by decide) ?_
      cases hq
      exact jw_iret (ty := .int) dX12_join_108 rfl rfl
    · refine jw_if_ne_t (tgt := 109) dX12_join_104 (by decide) c9 ?_
      refine jw_aload_n dX12_join_109 (o := (some x0)) rfl ?_
      obtain ⟨v10, ev10, hq⟩ := Option.bind_eq_some_iff.mp hq
      refine jw_getI (o := (some x0)) dX12_join_110 ev10 fl_X12_317 rfl ?_
      refine jw_istore_n (L' := [some (.ref x0), some (.int v10)]) dX12_join_113 (Nat.le_of_ble_eq_true rfl) rfl ?_
      exact l_X12_join_b114  jw_FU _ _ _ _ _ hq
  · refine jw_icmp_gt_f (tgt := 93) dX12_join_67 (by decide) c2 ?_
    refine jw_aload_n dX12_join_70 (o := (some x0)) rfl ?_
    refine jw_iload_n dX12_join_71 rfl ?_
    obtain ⟨w12, h11, ew12, hq⟩ := jw_b2_spec hq
    refine jw_callS (As := [.int x1]) (S := [.ref x0]) (v := some (.int w12)) dX12_join_72 mt_X12_textRow st_X12_textRow lk_X12_298 (c_X12_textRow ew12) rfl (by decide) (Nat.le_of_ble_eq_true rfl) rfl ?_
    refine jw_iconst dX12_join_75 (v := (0 : Int32)) (by decide) ?_
    refine jw_aload_n dX12_join_76 (o := (some x0)) rfl ?_
    refine jw_iload_n dX12_join_77 rfl ?_
    obtain ⟨w14, h13, ew14, hq⟩ := jw_b2_spec hq
    refine jw_callS (As := [.int x1]) (S := [.ref x0, .int (0 : Int32), .int w12, .ref x0]) (v := some (.int w14)) dX12_join_78 mt_X12_textRow st_X12_textRow lk_X12_298 (c_X12_textRow ew14) rfl (by decide) (Nat.le_of_ble_eq_true rfl) rfl ?_
    obtain ⟨a15, ea15, hq⟩ := Option.bind_eq_some_iff.mp hq
    obtain ⟨eoa15, eta15⟩ := jw_rc_spec ea15
    obtain ⟨w17, h16, ew17, hq⟩ := jw_b2_spec hq
    refine jw_callV (As := [.int w14]) (S := [.int (0 : Int32), .int w12, .ref x0]) (a := a15) (v := some (.int w17)) dX12_join_81 mt_X12_len in_X12_len se_X12_len lk_X12_109 (c_X12_len ew17) eta15 (by decide) rfl rfl (by decide) (Nat.le_of_ble_eq_true rfl) (by cases eoa15; rfl) ?_
    obtain ⟨a18, ea18, hq⟩ := Option.bind_eq_some_iff.mp hq
    obtain ⟨eoa18, eta18⟩ := jw_rc_spec ea18
    obtain ⟨w20, h19, ew20, hq⟩ := jw_b2_spec hq
    refine jw_callV (As := [.int w12, .int (0 : Int32), .int w17]) (S := []) (a := a18) (v := none) dX12_join_84 mt_X12_makesRow in_X12_makesRow se_X12_makesRow lk_X12_348 (c_X12_makesRow ew20) eta18 (by decide) rfl rfl (by decide) (Nat.le_of_ble_eq_true rfl) (by cases eoa18; rfl) ?_
    refine jw_iinc (L' := [some (.ref x0), some (.int (x1 + (1 : Int32)))]) dX12_join_87 rfl (v := (1 : Int32)) (by decide) (Nat.le_of_ble_eq_true rfl) rfl ?_
    refine jw_goto (tgt := 62) dX12_join_90 (by decide) ?_
    exact hk62 _ _ _ _ _ hq

theorem l_X12_join_b62 {hi : jw_H} : ∀ (n : Nat) (h : jw_H) (x0 : Nat) (x1 : Int32) (r : Int32) (h' : jw_H), f_X12_join_b62  n h x0 x1 = some (r, h') → jw_E 3 uX12_join hi 62 [some (.ref x0), some (.int x1)] [] h (.inl (some (.int r))) h' := by
  intro n
  induction n with
  | zero => intro h x0 x1 r h' hq; exact nomatch hq
  | succ n ih => intro h x0 x1 r h' hq; exact l_X12_join_b62g ih hq

set_option maxRecDepth 100000 in
set_option maxHeartbeats 4000000 in
theorem l_X12_join_b49 {hi : jw_H} {h : jw_H} {x0 : Nat} {t0 : Nat} {t1 : Int32} {r : Int32} {h' : jw_H} (hq : g_X12_join_b49  h x0 t0 t1 = some (r, h')) : jw_E 3 uX12_join hi 49 [some (.ref x0), none] [.int t1, .ref t0] h (.inl (some (.int r))) h' := by
  unfold g_X12_join_b49 at hq
  obtain ⟨h1, eh1, hq⟩ := Option.bind_eq_some_iff.mp hq
  refine jw_putI (o := (some t0)) dX12_join_49 eh1 fl_X12_320 rfl rfl ?_
  refine jw_aload_n dX12_join_52 (o := (some x0)) rfl ?_
  refine jw_iconst dX12_join_53 (v := (0 : Int32)) (by decide) ?_
  obtain ⟨h2, eh2, hq⟩ := Option.bind_eq_some_iff.mp hq
  refine jw_putI (o := (some x0)) dX12_join_54 eh2 fl_X12_117 rfl rfl ?_
  refine jw_aload_n dX12_join_57 (o := (some x0)) rfl ?_
  obtain ⟨v3, ev3, hq⟩ := Option.bind_eq_some_iff.mp hq
  refine jw_getI (o := (some x0)) dX12_join_58 ev3 fl_X12_317 rfl ?_
  refine jw_istore_n (L' := [some (.ref x0), some (.int v3)]) dX12_join_61 (Nat.le_of_ble_eq_true rfl) rfl ?_
  exact l_X12_join_b62  jw_FU _ _ _ _ _ hq

set_option maxRecDepth 100000 in
set_option maxHeartbeats 4000000 in
theorem l_X12_join_b24 {hi : jw_H} {h : jw_H} {x0 : Nat} {r : Int32} {h' : jw_H} (hq : g_X12_join_b24  h x0 = some (r, h')) : jw_E 3 uX12_join hi 24 [some (.ref x0), none] [] h (.inl (some (.int r))) h' := by
  unfold g_X12_join_b24 at hq
  refine jw_aload_n dX12_join_24 (o := (some x0)) rfl ?_
  refine jw_aload_n dX12_join_25 (o := (some x0)) rfl ?_
  obtain ⟨v1, ev1, hq⟩ := Option.bind_eq_some_iff.mp hq
  refine jw_getI (o := (some x0)) dX12_join_26 ev1 fl_X12_317 rfl ?_
  refine jw_aload_n dX12_join_29 (o := (some x0)) rfl ?_
  obtain ⟨v2, ev2, hq⟩ := Option.bind_eq_some_iff.mp hq
  refine jw_getI (o := (some x0)) dX12_join_30 ev2 fl_X12_320 rfl ?_
  rcases jw_if hq with ⟨c3, hq⟩ | ⟨c3, hq⟩
  · refine jw_icmp_ne_f (tgt := 45) dX12_join_33 (by decide) c3 ?_
    refine jw_aload_n dX12_join_36 (o := (some x0)) rfl ?_
    obtain ⟨v5, ev5, hq⟩ := Option.bind_eq_some_iff.mp hq
    refine jw_getI (o := (some x0)) dX12_join_37 ev5 fl_X12_317 rfl ?_
    refine jw_iconst dX12_join_40 (v := (1 : Int32)) (by decide) ?_
    refine jw_iadd dX12_join_41 ?_
    refine jw_goto (tgt := 49) dX12_join_42 (by decide) ?_
    exact l_X12_join_b49  hq
  · refine jw_icmp_ne_t (tgt := 45) dX12_join_33 (by decide) c3 ?_
    refine jw_aload_n dX12_join_45 (o := (some x0)) rfl ?_
    obtain ⟨v4, ev4, hq⟩ := Option.bind_eq_some_iff.mp hq
    refine jw_getI (o := (some x0)) dX12_join_46 ev4 fl_X12_320 rfl ?_
    exact l_X12_join_b49  hq

set_option maxRecDepth 100000 in
set_option maxHeartbeats 4000000 in
theorem l_X12_join {hi : jw_H} {h : jw_H} {x0 : Nat} {r : Int32} {h' : jw_H} (hq : f_X12_join  h x0 = some (r, h')) : jw_E 3 uX12_join hi 0 [some (.ref x0), none] [] h (.inl (some (.int r))) h' := by
  unfold f_X12_join at hq
  refine jw_aload_n dX12_join_0 (o := (some x0)) rfl ?_
  obtain ⟨v1, ev1, hq⟩ := Option.bind_eq_some_iff.mp hq
  refine jw_getI (o := (some x0)) dX12_join_1 ev1 fl_X12_317 rfl ?_
  refine jw_aload_n dX12_join_4 (o := (some x0)) rfl ?_
  obtain ⟨v2, ev2, hq⟩ := Option.bind_eq_some_iff.mp hq
  refine jw_getI (o := (some x0)) dX12_join_5 ev2 fl_X12_320 rfl ?_
  rcases jw_if hq with ⟨c3, hq⟩ | ⟨c3, hq⟩
  · refine jw_icmp_ne_f (tgt := 24) dX12_join_8 (by decide) c3 ?_
    refine jw_aload_n dX12_join_11 (o := (some x0)) rfl ?_
    obtain ⟨v4, ev4, hq⟩ := Option.bind_eq_some_iff.mp hq
    refine jw_getI (o := (some x0)) dX12_join_12 ev4 fl_X12_317 rfl ?_
    refine jw_aload_n dX12_join_15 (o := (some x0)) rfl ?_
    obtain ⟨v5, ev5, hq⟩ := Option.bind_eq_some_iff.mp hq
    refine jw_getI (o := (some x0)) dX12_join_16 ev5 fl_X12_124 rfl ?_
    rcases jw_if hq with ⟨c6, hq⟩ | ⟨c6, hq⟩
    · refine jw_icmp_ne_f (tgt := 24) dX12_join_19 (by decide) c6 ?_
      refine jw_iconst dX12_join_22 (v := (1 : Int32)) (by decide) ?_
      cases hq
      exact jw_iret (ty := .int) dX12_join_23 rfl rfl
    · refine jw_icmp_ne_t (tgt := 24) dX12_join_19 (by decide) c6 ?_
      exact l_X12_join_b24  hq
  · refine jw_icmp_ne_t (tgt := 24) dX12_join_8 (by decide) c3 ?_
    exact l_X12_join_b24  hq

theorem c_X12_join {h : jw_H} {x0 : Nat} {r : Int32} {h' : jw_H} (hq : f_X12_join h x0 = some (r, h')) : jw_Con (Cond.code yX12_join cX12_join 2 (some .int)) yX12_join 3 [.ref x0] h (.inl (some (.int r))) h' :=
  jw_con false (plainFor_of_name (by decide +kernel)) (fun z => nomatch z) (by simp [jw_ent, jw_sl0_nil, jw_sl0_int, jw_sl0_long, jw_sl0_ref, jw_sl0_rf, jw_sl0_scr, List.replicate]) (by simp [jw_sl0_nil, jw_sl0_int, jw_sl0_long, jw_sl0_ref, jw_sl0_rf, jw_sl0_scr]) (l_X12_join hq)


/-! X12_part -/
noncomputable def g_X12_part_b91 (k10 : jw_H → Nat → Int32 → Int32 → Int32 → Option (Int32 × jw_H)) (h : jw_H) (x0 : Nat) (x1 : Int32) (x2 : Int32) (x3 : Int32) : Option (Int32 × jw_H) :=
 k10 h x0 x1 (x2 + (1 : Int32)) x3

noncomputable def g_X12_part_b10 (k10 : jw_H → Nat → Int32 → Int32 → Int32 → Option (Int32 × jw_H)) (h : jw_H) (x0 : Nat) (x1 : Int32) (x2 : Int32) (x3 : Int32) : Option (Int32 × jw_H) :=
 if x3 < x2 then ((jw_pI h 12 (some x0) 16 x3).bind fun h2 =>
 some ((0 : Int32), h2))
 else (jw_b2 (f_X12_textRow h x2) fun w4 h3 =>
 (jw_rc h3 12 (some x0)).bind fun a5 =>
 jw_b2 (f_X12_len h3 a5 w4) fun w7 h6 =>
 if w7 ≤ x1 then (g_X12_part_b91 k10 h6 x0 x1 x2 x3)
 else ((jw_gI h6 12 (some x0) 12).bind fun v9 =>
 if v9 = (40 : Int32) then (some ((4 : Int32), h6))
 else ((jw_pI h6 12 (some x0) 20 (0 : Int32)).bind fun h11 =>
 jw_b2 (f_X12_textRow h11 x2) fun w13 h12 =>
 jw_b2 (f_X12_textRow h12 x2) fun w15 h14 =>
 (jw_rc h14 12 (some x0)).bind fun a16 =>
 jw_b2 (f_X12_len h14 a16 w15) fun w18 h17 =>
 (jw_rc h17 12 (some x0)).bind fun a19 =>
 jw_b2 (f_X12_makesRow h17 a19 w13 x1 w18) fun w21 h20 =>
 (jw_rc h20 12 (some x0)).bind fun a22 =>
 jw_b2 (f_X12_lays h20 a22 (429 : Int32)) fun w24 h23 =>
 (jw_rc h23 12 (some x0)).bind fun a25 =>
 jw_b2 (f_X12_bring h23 a25 (429 : Int32) x2) fun w27 h26 =>
 jw_b2 (f_X12_textRow h26 x2) fun w29 h28 =>
 (jw_rc h28 12 (some x0)).bind fun a30 =>
 jw_b2 (f_X12_cutTo h28 a30 w29 x1) fun w32 h31 =>
 g_X12_part_b91 k10 h31 x0 x1 (x2 + (1 : Int32)) (x3 + (1 : Int32)))))

noncomputable def f_X12_part_b10 (n : Nat) : jw_H → Nat → Int32 → Int32 → Int32 → Option (Int32 × jw_H) :=
 Nat.rec (fun _ _ _ _ _ => none) (fun _ k10 => g_X12_part_b10 k10) n

noncomputable def f_X12_part (h : jw_H) (x0 : Nat) (x1 : Int32) : Option (Int32 × jw_H) :=
 (jw_gI h 12 (some x0) 42).bind fun v1 =>
 (jw_gI h 12 (some x0) 43).bind fun v2 =>
 f_X12_part_b10  jw_FU h x0 x1 v1 v2

set_option maxRecDepth 100000 in
set_option maxHeartbeats 4000000 in
theorem l_X12_part_b91 {hi : jw_H} {k10 : jw_H → Nat → Int32 → Int32 → Int32 → Option (Int32 × jw_H)} (hk10 : ∀ (h : jw_H) (x0 : Nat) (x1 : Int32) (x2 : Int32) (x3 : Int32) (r : Int32) (h' : jw_H), k10 h x0 x1 x2 x3 = some (r, h') → jw_E 3 uX12_part hi 10 [some (.ref x0), some (.int x1), some (.int x2), some (.int x3)] [] h (.inl (some (.int r))) h') {h : jw_H} {x0 : Nat} {x1 : Int32} {x2 : Int32} {x3 : Int32} {r : Int32} {h' : jw_H} (hq : g_X12_part_b91 k10 h x0 x1 x2 x3 = some (r, h')) : jw_E 3 uX12_part hi 91 [some (.ref x0), some (.int x1), some (.int x2), some (.int x3)] [] h (.inl (some (.int r))) h' := by
  unfold g_X12_part_b91 at hq
  refine jw_iinc (L' := [some (.ref x0), some (.int x1), some (.int (x2 + (1 : Int32))), some (.int x3)]) dX12_part_91 rfl (v := (1 : Int32)) (by decide) (Nat.le_of_ble_eq_true rfl) rfl ?_
  refine jw_goto (tgt := 10) dX12_part_94 (by decide) ?_
  exact hk10 _ _ _ _ _ _ _ hq

set_option maxRecDepth 100000 in
set_option maxHeartbeats 4000000 in
theorem l_X12_part_b10g {hi : jw_H} {k10 : jw_H → Nat → Int32 → Int32 → Int32 → Option (Int32 × jw_H)} (hk10 : ∀ (h : jw_H) (x0 : Nat) (x1 : Int32) (x2 : Int32) (x3 : Int32) (r : Int32) (h' : jw_H), k10 h x0 x1 x2 x3 = some (r, h') → jw_E 3 uX12_part hi 10 [some (.ref x0), some (.int x1), some (.int x2), some (.int x3)] [] h (.inl (some (.int r))) h') {h : jw_H} {x0 : Nat} {x1 : Int32} {x2 : Int32} {x3 : Int32} {r : Int32} {h' : jw_H} (hq : g_X12_part_b10 k10 h x0 x1 x2 x3 = some (r, h')) : jw_E 3 uX12_part hi 10 [some (.ref x0), some (.int x1), some (.int x2), some (.int x3)] [] h (.inl (some (.int r))) h' := by
  unfold g_X12_part_b10 at hq
  refine jw_iload_n dX12_part_10 rfl ?_
  refine jw_iload_n dX12_part_11 rfl ?_
  rcases jw_if hq with ⟨c1, hq⟩ | ⟨c1, hq⟩
  · refine jw_icmp_gt_t (tgt := 97) dX12_part_12 (by decide) c1 ?_
    refine jw_aload_n dX12_part_97 (o := (some x0)) rfl ?_
    refine jw_iload_n dX12_part_98 rfl ?_
    obtain ⟨h2, eh2, hq⟩ := Option.bind_eq_some_iff.mp hq
    refine jw_putI (o := (some x0)) dX12_part_99 eh2 fl_X12_295 rfl rfl ?_
    refine jw_iconst dX12_part_102 (v := (0 : Int32)) (by decide) ?_
    cases hq
    exact jw_iret (ty := .int) dX12_part_103 rfl rfl
  · refine jw_icmp_gt_f (tgt := 97) dX12_part_12 (by decide) c1 ?_
    refine jw_aload_n dX12_part_15 (o := (some x0)) rfl ?_
    refine jw_iload_n dX12_part_16 rfl ?_
    obtain ⟨w4, h3, ew4, hq⟩ := jw_b2_spec hq
    refine jw_callS (As := [.int x2]) (S := [.ref x0]) (v := some (.int w4)) dX12_part_17 mt_X12_textRow st_X12_textRow lk_X12_298 (c_X12_textRow ew4) rfl (by decide) (Nat.le_of_ble_eq_true rfl) rfl ?_
    obtain ⟨a5, ea5, hq⟩ := Option.bind_eq_some_iff.mp hq
    obtain ⟨eoa5, eta5⟩ := jw_rc_spec ea5
    obtain ⟨w7, h6, ew7, hq⟩ := jw_b2_spec hq
    refine jw_callV (As := [.int w4]) (S := []) (a := a5) (v := some (.int w7)) dX12_part_20 mt_X12_len in_X12_len se_X12_len lk_X12_109 (c_X12_len ew7) eta5 (by decide) rfl rfl (by decide) (Nat.le_of_ble_eq_true rfl) (by cases eoa5; rfl) ?_
    refine jw_iload_n dX12_part_23 rfl ?_
    rcases jw_if hq with ⟨c8, hq⟩ | ⟨c8, hq⟩
    · refine jw_icmp_le_t (tgt := 91) dX12_part_24 (by decide) c8 ?_
      exact l_X12_part_b91 hk10 hq
    · refine jw_icmp_le_f (tgt := 91) dX12_part_24 (by decide) c8 ?_
      refine jw_aload_n dX12_part_27 (o := (some x0)) rfl ?_
      obtain ⟨v9, ev9, hq⟩ := Option.bind_eq_some_iff.mp hq
      refine jw_getI (o := (some x0)) dX12_part_28 ev9 fl_X12_124 rfl ?_
      refine jw_bipush dX12_part_31 (v := (40 : Int32)) (by decide) ?_
      rcases jw_if hq with ⟨c10, hq⟩ | ⟨c10, hq⟩
      · refine jw_icmp_ne_f (tgt := 38) dX12_part_33 (by decide) c10 ?_
        refine jw_iconst dX12_part_36 (v := (4 : Int32)) (by decide) ?_
        cases hq
        exact jw_iret (ty := .int) dX12_part_37 rfl rfl
      · refine jw_icmp_ne_t (tgt := 38) dX12_part_33 (by decide) c10 ?_
        refine jw_aload_n dX12_part_38 (o := (some x0)) rfl ?_
        refine jw_iconst dX12_part_39 (v := (0 : Int32)) (by decide) ?_
        obtain ⟨h11, eh11, hq⟩ := Option.bind_eq_some_iff.mp hq
        refine jw_putI (o := (some x0)) dX12_part_40 eh11 fl_X12_117 rfl rfl ?_
        refine jw_aload_n dX12_part_43 (o := (some x0)) rfl ?_
        refine jw_iload_n dX12_part_44 rfl ?_
        obtain ⟨w13, h12, ew13, hq⟩ := jw_b2_spec hq
        refine jw_callS (As := [.int x2]) (S := [.ref x0]) (v := some (.int w13)) dX12_part_45 mt_X12_textRow st_X12_textRow lk_X12_298 (c_X12_textRow ew13) rfl (by decide) (Nat.le_of_ble_eq_true rfl) rfl ?_
        refine jw_iload_n dX12_part_48 rfl ?_
        refine jw_aload_n dX12_part_49 (o := (some x0)) rfl ?_
        refine jw_iload_n dX12_part_50 rfl ?_
        obtain ⟨w15, h14, ew15, hq⟩ := jw_b2_spec hq
        refine jw_callS (As := [.int x2]) (S := [.ref x0, .int x1, .int w13, .ref x0]) (v := some (.int w15)) dX12_part_51 mt_X12_textRow st_X12_textRow lk_X12_298 (c_X12_textRow ew15) rfl (by decide) (Nat.le_of_ble_eq_true rfl) rfl ?_
        obtain ⟨a16, ea16, hq⟩ := Option.bind_eq_some_iff.mp hq
        obtain ⟨eoa16, eta16⟩ := jw_rc_spec ea16
        obtain ⟨w18, h17, ew18, hq⟩ := jw_b2_spec hq
        refine jw_callV (As := [.int w15]) (S := [.int x1, .int w13, .ref x0]) (a := a16) (v := some (.int w18)) dX12_part_54 mt_X12_len in_X12_len se_X12_len lk_X12_109 (c_X12_len ew18) eta16 (by decide) rfl rfl (by decide) (Nat.le_of_ble_eq_true rfl) (by cases eoa16; rfl) ?_
        obtain ⟨a19, ea19, hq⟩ := Option.bind_eq_some_iff.mp hq
        obtain ⟨eoa19, eta19⟩ := jw_rc_spec ea19
        obtain ⟨w21, h20, ew21, hq⟩ := jw_b2_spec hq
        refine jw_callV (As := [.int w13, .int x1, .int w18]) (S := []) (a := a19) (v := none) dX12_part_57 mt_X12_makesRow in_X12_makesRow se_X12_makesRow lk_X12_348 (c_X12_makesRow ew21) eta19 (by decide) rfl rfl (by decide) (Nat.le_of_ble_eq_true rfl) (by cases eoa19; rfl) ?_
        refine jw_aload_n dX12_part_60 (o := (some x0)) rfl ?_
        refine jw_sipush dX12_part_61 (v := (429 : Int32)) (by decide) ?_
        obtain ⟨a22, ea22, hq⟩ := Option.bind_eq_some_iff.mp hq
        obtain ⟨eoa22, eta22⟩ := jw_rc_spec ea22
        obtain ⟨w24, h23, ew24, hq⟩ := jw_b2_spec hq
        refine jw_callV (As := [.int (429 : Int32)]) (S := []) (a := a22) (v := some (.int w24)) dX12_part_64 mt_X12_lays in_X12_lays se_X12_lays lk_X12_329 (c_X12_lays ew24) eta22 (by decide) rfl rfl (by decide) (Nat.le_of_ble_eq_true rfl) (by cases eoa22; rfl) ?_
        refine jw_pop dX12_part_67 rfl ?_
        refine jw_aload_n dX12_part_68 (o := (some x0)) rfl ?_
        refine jw_sipush dX12_part_69 (v := (429 : Int32)) (by decide) ?_
        refine jw_iload_n dX12_part_72 rfl ?_
        obtain ⟨a25, ea25, hq⟩ := Option.bind_eq_some_iff.mp hq
        obtain ⟨eoa25, eta25⟩ := jw_rc_spec ea25
        obtain ⟨w27, h26, ew27, hq⟩ := jw_b2_spec hq
        refine jw_callV (As := [.int (429 : Int32), .int x2]) (S := []) (a := a25) (v := none) dX12_part_73 mt_X12_bring in_X12_bring se_X12_bring lk_X12_332 (c_X12_bring ew27) eta25 (by decide) rfl rfl (by decide) (Nat.le_of_ble_eq_true rfl) (by cases eoa25; rfl) ?_
        refine jw_aload_n dX12_part_76 (o := (some x0)) rfl ?_
        refine jw_iload_n dX12_part_77 rfl ?_
        obtain ⟨w29, h28, ew29, hq⟩ := jw_b2_spec hq
        refine jw_callS (As := [.int x2]) (S := [.ref x0]) (v := some (.int w29)) dX12_part_78 mt_X12_textRow st_X12_textRow lk_X12_298 (c_X12_textRow ew29) rfl (by decide) (Nat.le_of_ble_eq_true rfl) rfl ?_
        refine jw_iload_n dX12_part_81 rfl ?_
        obtain ⟨a30, ea30, hq⟩ := Option.bind_eq_some_iff.mp hq
        obtain ⟨eoa30, eta30⟩ := jw_rc_spec ea30
        obtain ⟨w32, h31, ew32, hq⟩ := jw_b2_spec hq
        refine jw_callV (As := [.int w29, .int x1]) (S := []) (a := a30) (v := none) dX12_part_82 mt_X12_cutTo in_X12_cutTo se_X12_cutTo lk_X12_351 (c_X12_cutTo ew32) eta30 (by decide) rfl rfl (by decide) (Nat.le_of_ble_eq_true rfl) (by cases eoa30; rfl) ?_
        refine jw_iinc (L' := [some (.ref x0), some (.int x1), some (.int (x2 + (1 : Int32))), some (.int x3)]) dX12_part_85 rfl (v := (1 : Int32)) (by decide) (Nat.le_of_ble_eq_true rfl) rfl ?_
        refine jw_iinc (L' := [some (.ref x0), some (.int x1), some (.int (x2 + (1 : Int32))), some (.int (x3 + (1 : Int32)))]) dX12_part_88 rfl (v := (1 : Int32)) (by decide) (Nat.le_of_ble_eq_true rfl) rfl ?_
        exact l_X12_part_b91 hk10 hq

theorem l_X12_part_b10 {hi : jw_H} : ∀ (n : Nat) (h : jw_H) (x0 : Nat) (x1 : Int32) (x2 : Int32) (x3 : Int32) (r : Int32) (h' : jw_H), f_X12_part_b10  n h x0 x1 x2 x3 = some (r, h') → jw_E 3 uX12_part hi 10 [some (.ref x0), some (.int x1), some (.int x2), some (.int x3)] [] h (.inl (some (.int r))) h' := by
  intro n
  induction n with
  | zero => intro h x0 x1 x2 x3 r h' hq; exact nomatch hq
  | succ n ih => intro h x0 x1 x2 x3 r h' hq; exact l_X12_part_b10g ih hq

set_option maxRecDepth 100000 in
set_option maxHeartbeats 4000000 in
theorem l_X12_part {hi : jw_H} {h : jw_H} {x0 : Nat} {x1 : Int32} {r : Int32} {h' : jw_H} (hq : f_X12_part  h x0 x1 = some (r, h')) : jw_E 3 uX12_part hi 0 [some (.ref x0), some (.int x1), none, none] [] h (.inl (some (.int r))) h' := by
  unfold f_X12_part at hq
  refine jw_aload_n dX12_part_0 (o := (some x0)) rfl ?_
  obtain ⟨v1, ev1, hq⟩ := Option.bind_eq_some_iff.mp hq
  refine jw_getI (o := (some x0)) dX12_part_1 ev1 fl_X12_317 rfl ?_
  refine jw_istore_n (L' := [some (.ref x0), some (.int x1), some (.int v1), none]) dX12_part_4 (Nat.le_of_ble_eq_true rfl) rfl ?_
  refine jw_aload_n dX12_part_5 (o := (some x0)) rfl ?_
  obtain ⟨v2, ev2, hq⟩ := Option.bind_eq_some_iff.mp hq
  refine jw_getI (o := (some x0)) dX12_part_6 ev2 fl_X12_320 rfl ?_
  refine jw_istore_n (L' := [some (.ref x0), some (.int x1), some (.int v1), some (.int v2)]) dX12_part_9 (Nat.le_of_ble_eq_true rfl) rfl ?_
  exact l_X12_part_b10  jw_FU _ _ _ _ _ _ _ hq

theorem c_X12_part {h : jw_H} {x0 : Nat} {x1 : Int32} {r : Int32} {h' : jw_H} (hq : f_X12_part h x0 x1 = some (r, h')) : jw_Con (Cond.code yX12_part cX12_part 4 (some .int)) yX12_part 3 [.ref x0, .int x1] h (.inl (some (.int r))) h' :=
  jw_con false (plainFor_of_name (by decide +kernel)) (fun z => nomatch z) (by simp [jw_ent, jw_sl0_nil, jw_sl0_int, jw_sl0_long, jw_sl0_ref, jw_sl0_rf, jw_sl0_scr, List.replicate]) (by simp [jw_sl0_nil, jw_sl0_int, jw_sl0_long, jw_sl0_ref, jw_sl0_rf, jw_sl0_scr]) (l_X12_part hq)


/-! X12_lessAlike -/
noncomputable def g_X12_lessAlike_b17 (k17 : jw_H → Nat → Int32 → Int32 → Int32 → Option (Int32 × jw_H)) (h : jw_H) (x0 : Nat) (x1 : Int32) (x2 : Int32) (x3 : Int32) : Option (Int32 × jw_H) :=
 if x3 < x2 then ((jw_pI h 12 (some x0) 16 x1).bind fun h2 =>
 some ((0 : Int32), h2))
 else (jw_b2 (f_X12_textRow h x2) fun w4 h3 =>
 jw_b2 (f_X12_textRow h3 x1) fun w6 h5 =>
 (jw_rc h5 12 (some x0)).bind fun a7 =>
 jw_b2 (f_X12_areSame h5 a7 w4 w6) fun w9 h8 =>
 if w9 = 0 then (k17 h8 x0 x2 (x2 + (1 : Int32)) x3)
 else ((jw_rc h8 12 (some x0)).bind fun a11 =>
 jw_b2 (f_X12_goes h8 a11 x2) fun w13 h12 =>
 k17 h12 x0 x1 x2 (x3 + (-1 : Int32))))

noncomputable def f_X12_lessAlike_b17 (n : Nat) : jw_H → Nat → Int32 → Int32 → Int32 → Option (Int32 × jw_H) :=
 Nat.rec (fun _ _ _ _ _ => none) (fun _ k17 => g_X12_lessAlike_b17 k17) n

noncomputable def f_X12_lessAlike (h : jw_H) (x0 : Nat) : Option (Int32 × jw_H) :=
 (jw_gI h 12 (some x0) 42).bind fun v1 =>
 (jw_gI h 12 (some x0) 42).bind fun v2 =>
 (jw_gI h 12 (some x0) 43).bind fun v3 =>
 f_X12_lessAlike_b17  jw_FU h x0 v1 (v2 + (1 : Int32)) v3

set_option maxRecDepth 100000 in
set_option maxHeartbeats 4000000 in
theorem l_X12_lessAlike_b17g {hi : jw_H} {k17 : jw_H → Nat → Int32 → Int32 → Int32 → Option (Int32 × jw_H)} (hk17 : ∀ (h : jw_H) (x0 : Nat) (x1 : Int32) (x2 : Int32) (x3 : Int32) (r : Int32) (h' : jw_H), k17 h x0 x1 x2 x3 = some (r, h') → jw_E 3 uX12_lessAlike hi 17 [some (.ref x0), some (.int x1), some (.int x2), some (.int x3)] [] h (.inl (some (.int r))) h') {h : jw_H} {x0 : Nat} {x1 : Int32} {x2 : Int32} {x3 : Int32} {r : Int32} {h' : jw_H} (hq : g_X12_lessAlike_b17 k17 h x0 x1 x2 x3 = some (r, h')) : jw_E 3 uX12_lessAlike hi 17 [some (.ref x0), some (.int x1), some (.int x2), some (.int x3)] [] h (.inl (some (.int r))) h' := by
  unfold g_X12_lessAlike_b17 at hq
  refine jw_iload_n dX12_lessAlike_17 rfl ?_
  refine jw_iload_n dX12_lessAlike_18 rfl ?_
  rcases jw_if hq with ⟨c1, hq⟩ | ⟨c1, hq⟩
  · refine jw_icmp_gt_t (tgt := 56) dX12_lessAlike_19 (by decide) c1 ?_
    refine jw_aload_n dX12_lessAlike_56 (o := (some x0)) rfl ?_
    refine jw_iload_n dX12_lessAlike_57 rfl ?_
    obtain ⟨h2, eh2, hq⟩ := Option.bind_eq_some_iff.mp hq
    refine jw_putI (o := (some x0)) dX12_lessAlike_58 eh2 fl_X12_295 rfl rfl ?_
    refine jw_iconst dX12_lessAlike_61 (v := (0 : Int32)) (by decide) ?_
    cases hq
    exact jw_iret (ty := .int) dX12_lessAlike_62 rfl rfl
  · refine jw_icmp_gt_f (tgt := 56) dX12_lessAlike_19 (by decide) c1 ?_
    refine jw_aload_n dX12_lessAlike_22 (o := (some x0)) rfl ?_
    refine jw_iload_n dX12_lessAlike_23 rfl ?_
    obtain ⟨w4, h3, ew4, hq⟩ := jw_b2_spec hq
    refine jw_callS (As := [.int x2]) (S := [.ref x0]) (v := some (.int w4)) dX12_lessAlike_24 mt_X12_textRow st_X12_textRow lk_X12_298 (c_X12_textRow ew4) rfl (by decide) (Nat.le_of_ble_eq_true rfl) rfl ?_
    refine jw_iload_n dX12_lessAlike_27 rfl ?_
    obtain ⟨w6, h5, ew6, hq⟩ := jw_b2_spec hq
    refine jw_callS (As := [.int x1]) (S := [.int w4, .ref x0]) (v := some (.int w6)) dX12_lessAlike_28 mt_X12_textRow st_X12_textRow lk_X12_298 (c_X12_textRow ew6) rfl (by decide) (Nat.le_of_ble_eq_true rfl) rfl ?_
    obtain ⟨a7, ea7, hq⟩ := Option.bind_eq_some_iff.mp hq
    obtain ⟨eoa7, eta7⟩ := jw_rc_spec ea7
    obtain ⟨w9, h8, ew9, hq⟩ := jw_b2_spec hq
    refine jw_callV (As := [.int w4, .int w6]) (S := []) (a := a7) (v := some (.int w9)) dX12_lessAlike_31 mt_X12_areSame in_X12_areSame se_X12_areSame lk_X12_354 (c_X12_areSame ew9) eta7 (by decide) rfl rfl (by decide) (Nat.le_of_ble_eq_true rfl) (by cases eoa7; rfl) ?_
    rcases jw_if hq with ⟨c10, hq⟩ | ⟨c10, hq⟩
    · refine jw_if_eq_t (tgt := 48) dX12_lessAlike_34 (by decide) c10 ?_
      refine jw_iload_n dX12_lessAlike_48 rfl ?_
      refine jw_istore_n (L' := [some (.ref x0), some (.int x2), some (.int x2), some (.int x3)]) dX12_lessAlike_49 (Nat.le_of_ble_eq_true rfl) rfl ?_
      refine jw_iinc (L' := [some (.ref x0), some (.int x2), some (.int (x2 + (1 : Int32))), some (.int x3)]) dX12_lessAlike_50 rfl (v := (1 : Int32)) (by decide) (Nat.le_of_ble_eq_true rfl) rfl ?_
      refine jw_goto (tgt := 17) dX12_lessAlike_53 (by decide) ?_
      exact hk17 _ _ _ _ _ _ _ hq
    · refine jw_if_eq_f (tgt := 48) dX12_lessAlike_34 (by decide) c10 ?_
      refine jw_aload_n dX12_lessAlike_37 (o := (some x0)) rfl ?_
      refine jw_iload_n dX12_lessAlike_38 rfl ?_
      obtain ⟨a11, ea11, hq⟩ := Option.bind_eq_some_iff.mp hq
      obtain ⟨eoa11, eta11⟩ := jw_rc_spec ea11
      obtain ⟨w13, h12, ew13, hq⟩ := jw_b2_spec hq
      refine jw_callV (As := [.int x2]) (S := []) (a := a11) (v := none) dX12_lessAlike_39 mt_X12_goes in_X12_goes se_X12_goes lk_X12_342 (c_X12_goes ew13) eta11 (by decide) rfl rfl (by decide) (Nat.le_of_ble_eq_true rfl) (by cases eoa11; rfl) ?_
      refine jw_iinc (L' := [some (.ref x0), some (.int x1), some (.int x2), some (.int (x3 + (-1 : Int32)))]) dX12_lessAlike_42 rfl (v := (-1 : Int32)) (by decide) (Nat.le_of_ble_eq_true rfl) rfl ?_
      refine jw_goto (tgt := 17) dX12_lessAlike_45 (by decide) ?_
      exact hk17 _ _ _ _ _ _ _ hq

theorem l_X12_lessAlike_b17 {hi : jw_H} : ∀ (n : Nat) (h : jw_H) (x0 : Nat) (x1 : Int32) (x2 : Int32) (x3 : Int32) (r : Int32) (h' : jw_H), f_X12_lessAlike_b17  n h x0 x1 x2 x3 = some (r, h') → jw_E 3 uX12_lessAlike hi 17 [some (.ref x0), some (.int x1), some (.int x2), some (.int x3)] [] h (.inl (some (.int r))) h' := by
  intro n
  induction n with
  | zero => intro h x0 x1 x2 x3 r h' hq; exact nomatch hq
  | succ n ih => intro h x0 x1 x2 x3 r h' hq; exact l_X12_lessAlike_b17g ih hq

set_option maxRecDepth 100000 in
set_option maxHeartbeats 4000000 in
theorem l_X12_lessAlike {hi : jw_H} {h : jw_H} {x0 : Nat} {r : Int32} {h' : jw_H} (hq : f_X12_lessAlike  h x0 = some (r, h')) : jw_E 3 uX12_lessAlike hi 0 [some (.ref x0), none, none, none] [] h (.inl (some (.int r))) h' := by
  unfold f_X12_lessAlike at hq
  refine jw_aload_n dX12_lessAlike_0 (o := (some x0)) rfl ?_
  obtain ⟨v1, ev1, hq⟩ := Option.bind_eq_some_iff.mp hq
  refine jw_getI (o := (some x0)) dX12_lessAlike_1 ev1 fl_X12_317 rfl ?_
  refine jw_istore_n (L' := [some (.ref x0), some (.int v1), none, none]) dX12_lessAlike_4 (Nat.le_of_ble_eq_true rfl) rfl ?_
  refine jw_aload_n dX12_lessAlike_5 (o := (some x0)) rfl ?_
  obtain ⟨v2, ev2, hq⟩ := Option.bind_eq_some_iff.mp hq
  refine jw_getI (o := (some x0)) dX12_lessAlike_6 ev2 fl_X12_317 rfl ?_
  refine jw_iconst dX12_lessAlike_9 (v := (1 : Int32)) (by decide) ?_
  refine jw_iadd dX12_lessAlike_10 ?_
  refine jw_istore_n (L' := [some (.ref x0), some (.int v1), some (.int (v2 + (1 : Int32))), none]) dX12_lessAlike_11 (Nat.le_of_ble_eq_true rfl) rfl ?_
  refine jw_aload_n dX12_lessAlike_12 (o := (some x0)) rfl ?_
  obtain ⟨v3, ev3, hq⟩ := Option.bind_eq_some_iff.mp hq
  refine jw_getI (o := (some x0)) dX12_lessAlike_13 ev3 fl_X12_320 rfl ?_
  refine jw_istore_n (L' := [some (.ref x0), some (.int v1), some (.int (v2 + (1 : Int32))), some (.int v3)]) dX12_lessAlike_16 (Nat.le_of_ble_eq_true rfl) rfl ?_
  exact l_X12_lessAlike_b17  jw_FU _ _ _ _ _ _ _ hq

theorem c_X12_lessAlike {h : jw_H} {x0 : Nat} {r : Int32} {h' : jw_H} (hq : f_X12_lessAlike h x0 = some (r, h')) : jw_Con (Cond.code yX12_lessAlike cX12_lessAlike 4 (some .int)) yX12_lessAlike 3 [.ref x0] h (.inl (some (.int r))) h' :=
  jw_con false (plainFor_of_name (by decide +kernel)) (fun z => nomatch z) (by simp [jw_ent, jw_sl0_nil, jw_sl0_int, jw_sl0_long, jw_sl0_ref, jw_sl0_rf, jw_sl0_scr, List.replicate]) (by simp [jw_sl0_nil, jw_sl0_int, jw_sl0_long, jw_sl0_ref, jw_sl0_rf, jw_sl0_scr]) (l_X12_lessAlike hq)


/-! X12_tells -/
noncomputable def f_X12_tells (h : jw_H) (x0 : Nat) : Option (Int32 × jw_H) :=
 (jw_gI h 12 (some x0) 15).bind fun v1 =>
 if v1 = (100 : Int32) then (some ((4 : Int32), h))
 else ((jw_gI h 12 (some x0) 15).bind fun v3 =>
 (jw_rc h 12 (some x0)).bind fun a4 =>
 jw_b2 (f_X12_lays h a4 ((287 : Int32) + v3)) fun w6 h5 =>
 if w6 = 0 then (some ((4 : Int32), h5))
 else ((jw_gI h5 12 (some x0) 15).bind fun v8 =>
 (jw_pI h5 12 (some x0) 15 (v8 + (1 : Int32))).bind fun h9 =>
 some ((0 : Int32), h9)))

set_option maxRecDepth 100000 in
set_option maxHeartbeats 4000000 in
theorem l_X12_tells {hi : jw_H} {h : jw_H} {x0 : Nat} {r : Int32} {h' : jw_H} (hq : f_X12_tells  h x0 = some (r, h')) : jw_E 1 uX12_tells hi 0 [some (.ref x0)] [] h (.inl (some (.int r))) h' := by
  unfold f_X12_tells at hq
  refine jw_aload_n dX12_tells_0 (o := (some x0)) rfl ?_
  obtain ⟨v1, ev1, hq⟩ := Option.bind_eq_some_iff.mp hq
  refine jw_getI (o := (some x0)) dX12_tells_1 ev1 fl_X12_357 rfl ?_
  refine jw_bipush dX12_tells_4 (v := (100 : Int32)) (by decide) ?_
  rcases jw_if hq with ⟨c2, hq⟩ | ⟨c2, hq⟩
  · refine jw_icmp_eq_t (tgt := 24) dX12_tells_6 (by decide) c2 ?_
    refine jw_iconst dX12_tells_24 (v := (4 : Int32)) (by decide) ?_
    cases hq
    exact jw_iret (ty := .int) dX12_tells_25 rfl rfl
  · refine jw_icmp_eq_f (tgt := 24) dX12_tells_6 (by decide) c2 ?_
    refine jw_aload_n dX12_tells_9 (o := (some x0)) rfl ?_
    refine jw_sipush dX12_tells_10 (v := (287 : Int32)) (by decide) ?_
    refine jw_aload_n dX12_tells_13 (o := (some x0)) rfl ?_
    obtain ⟨v3, ev3, hq⟩ := Option.bind_eq_some_iff.mp hq
    refine jw_getI (o := (some x0)) dX12_tells_14 ev3 fl_X12_357 rfl ?_
    refine jw_iadd dX12_tells_17 ?_
    obtain ⟨a4, ea4, hq⟩ := Option.bind_eq_some_iff.mp hq
    obtain ⟨eoa4, eta4⟩ := jw_rc_spec ea4
    obtain ⟨w6, h5, ew6, hq⟩ := jw_b2_spec hq
    refine jw_callV (As := [.int ((287 : Int32) + v3)]) (S := []) (a := a4) (v := some (.int w6)) dX12_tells_18 mt_X12_lays in_X12_lays se_X12_lays lk_X12_329 (c_X12_lays ew6) eta4 (by decide) rfl rfl (by decide) (Nat.le_of_ble_eq_true rfl) (by cases eoa4; rfl) ?_
    rcases jw_if hq with ⟨c7, hq⟩ | ⟨c7, hq⟩
    · refine jw_if_ne_f (tgt := 26) dX12_tells_21 (by decide) c7 ?_
      refine jw_iconst dX12_tells_24 (v := (4 : Int32)) (by decide) ?_
      cases hq
      exact jw_iret (ty := .int) dX12_tells_25 rfl rfl
    · refine jw_if_ne_t (tgt := 26) dX12_tells_21 (by decide) c7 ?_
      refine jw_aload_n dX12_tells_26 (o := (some x0)) rfl ?_
      refine jw_dup dX12_tells_27 rfl ?_
      obtain ⟨v8, ev8, hq⟩ := Option.bind_eq_some_iff.mp hq
      refine jw_getI (o := (some x0)) dX12_tells_28 ev8 fl_X12_357 rfl ?_
      refine jw_iconst dX12_tells_31 (v := (1 : Int32)) (by decide) ?_
      refine jw_iadd dX12_tells_32 ?_
      obtain ⟨h9, eh9, hq⟩ := Option.bind_eq_some_iff.mp hq
      refine jw_putI (o := (some x0)) dX12_tells_33 eh9 fl_X12_357 rfl rfl ?_
      refine jw_iconst dX12_tells_36 (v := (0 : Int32)) (by decide) ?_
      cases hq
      exact jw_iret (ty := .int) dX12_tells_37 rfl rfl

theorem c_X12_tells {h : jw_H} {x0 : Nat} {r : Int32} {h' : jw_H} (hq : f_X12_tells h x0 = some (r, h')) : jw_Con (Cond.code yX12_tells cX12_tells 1 (some .int)) yX12_tells 1 [.ref x0] h (.inl (some (.int r))) h' :=
  jw_con false (plainFor_of_name (by decide +kernel)) (fun z => nomatch z) (by simp [jw_ent, jw_sl0_nil, jw_sl0_int, jw_sl0_long, jw_sl0_ref, jw_sl0_rf, jw_sl0_scr, List.replicate]) (by simp [jw_sl0_nil, jw_sl0_int, jw_sl0_long, jw_sl0_ref, jw_sl0_rf, jw_sl0_scr]) (l_X12_tells hq)


/-! X12_print -/
noncomputable def g_X12_print_b33 (k5 : jw_H → Nat → Int32 → Int32 → Option (Int32 × jw_H)) (h : jw_H) (x0 : Nat) (x1 : Int32) (x2 : Int32) : Option (Int32 × jw_H) :=
 jw_b2 (f_X12_textRow h x2) fun w2 h1 =>
 jw_b2 (f_X12_textRow h1 x2) fun w4 h3 =>
 (jw_rc h3 12 (some x0)).bind fun a5 =>
 jw_b2 (f_X12_len h3 a5 w4) fun w7 h6 =>
 (jw_rc h6 12 (some x0)).bind fun a8 =>
 jw_b2 (f_X12_makesRow h6 a8 w2 (0 : Int32) w7) fun w10 h9 =>
 (jw_rc h9 12 (some x0)).bind fun a11 =>
 jw_b2 (f_X12_tells h9 a11) fun w13 h12 =>
 if w13 ≤ 0 then (k5 h12 x0 x1 (x2 + (1 : Int32)))
 else (some ((4 : Int32), h12))

noncomputable def g_X12_print_b5 (k5 : jw_H → Nat → Int32 → Int32 → Option (Int32 × jw_H)) (h : jw_H) (x0 : Nat) (x1 : Int32) (x2 : Int32) : Option (Int32 × jw_H) :=
 (jw_gI h 12 (some x0) 43).bind fun v1 =>
 if v1 < x2 then ((jw_gI h 12 (some x0) 43).bind fun v3 =>
 (jw_pI h 12 (some x0) 16 v3).bind fun h4 =>
 some ((0 : Int32), h4))
 else ((jw_pI h 12 (some x0) 20 (0 : Int32)).bind fun h5 =>
 if x1 = 0 then (g_X12_print_b33 k5 h5 x0 x1 x2)
 else ((jw_rc h5 12 (some x0)).bind fun a7 =>
 jw_b2 (f_X12_makesNumber h5 a7 x2) fun w9 h8 =>
 (jw_rc h8 12 (some x0)).bind fun a10 =>
 jw_b2 (f_X12_makes h8 a10 (32 : Int32)) fun w12 h11 =>
 g_X12_print_b33 k5 h11 x0 x1 x2))

noncomputable def f_X12_print_b5 (n : Nat) : jw_H → Nat → Int32 → Int32 → Option (Int32 × jw_H) :=
 Nat.rec (fun _ _ _ _ => none) (fun _ k5 => g_X12_print_b5 k5) n

noncomputable def f_X12_print (h : jw_H) (x0 : Nat) (x1 : Int32) : Option (Int32 × jw_H) :=
 (jw_gI h 12 (some x0) 42).bind fun v1 =>
 f_X12_print_b5  jw_FU h x0 x1 v1

set_option maxRecDepth 100000 in
set_option maxHeartbeats 4000000 in
theorem l_X12_print_b33 {hi : jw_H} {k5 : jw_H → Nat → Int32 → Int32 → Option (Int32 × jw_H)} (hk5 : ∀ (h : jw_H) (x0 : Nat) (x1 : Int32) (x2 : Int32) (r : Int32) (h' : jw_H), k5 h x0 x1 x2 = some (r, h') → jw_E 2 uX12_print hi 5 [some (.ref x0), some (.int x1), some (.int x2)] [] h (.inl (some (.int r))) h') {h : jw_H} {x0 : Nat} {x1 : Int32} {x2 : Int32} {r : Int32} {h' : jw_H} (hq : g_X12_print_b33 k5 h x0 x1 x2 = some (r, h')) : jw_E 2 uX12_print hi 33 [some (.ref x0), some (.int x1), some (.int x2)] [] h (.inl (some (.int r))) h' := by
  unfold g_X12_print_b33 at hq
  refine jw_aload_n dX12_print_33 (o := (some x0)) rfl ?_
  refine jw_iload_n dX12_print_34 rfl ?_
  obtain ⟨w2, h1, ew2, hq⟩ := jw_b2_spec hq
  refine jw_callS (As := [.int x2]) (S := [.ref x0]) (v := some (.int w2)) dX12_print_35 mt_X12_textRow st_X12_textRow lk_X12_298 (c_X12_textRow ew2) rfl (by decide) (Nat.le_of_ble_eq_true rfl) rfl ?_
  refine jw_iconst dX12_print_38 (v := (0 : Int32)) (by decide) ?_
  refine jw_aload_n dX12_print_39 (o := (some x0)) rfl ?_
  refine jw_iload_n dX12_print_40 rfl ?_
  obtain ⟨w4, h3, ew4, hq⟩ := jw_b2_spec hq
  refine jw_callS (As := [.int x2]) (S := [.ref x0, .int (0 : Int32), .int w2, .ref x0]) (v := some (.int w4)) dX12_print_41 mt_X12_textRow st_X12_textRow lk_X12_298 (c_X12_textRow ew4) rfl (by decide) (Nat.le_of_ble_eq_true rfl) rfl ?_
  obtain ⟨a5, ea5, hq⟩ := Option.bind_eq_some_iff.mp hq
  obtain ⟨eoa5, eta5⟩ := jw_rc_spec ea5
  obtain ⟨w7, h6, ew7, hq⟩ := jw_b2_spec hq
  refine jw_callV (As := [.int w4]) (S := [.int (0 : Int32), .int w2, .ref x0]) (a := a5) (v := some (.int w7)) dX12_print_44 mt_X12_len in_X12_len se_X12_len lk_X12_109 (c_X12_len ew7) eta5 (by decide) rfl rfl (by decide) (Nat.le_of_ble_eq_true rfl) (by cases eoa5; rfl) ?_
  obtain ⟨a8, ea8, hq⟩ := Option.bind_eq_some_iff.mp hq
  obtain ⟨eoa8, eta8⟩ := jw_rc_spec ea8
  obtain ⟨w10, h9, ew10, hq⟩ := jw_b2_spec hq
  refine jw_callV (As := [.int w2, .int (0 : Int32), .int w7]) (S := []) (a := a8) (v := none) dX12_print_47 mt_X12_makesRow in_X12_makesRow se_X12_makesRow lk_X12_348 (c_X12_makesRow ew10) eta8 (by decide) rfl rfl (by decide) (Nat.le_of_ble_eq_true rfl) (by cases eoa8; rfl) ?_
  refine jw_aload_n dX12_print_50 (o := (some x0)) rfl ?_
  obtain ⟨a11, ea11, hq⟩ := Option.bind_eq_some_iff.mp hq
  obtain ⟨eoa11, eta11⟩ := jw_rc_spec ea11
  obtain ⟨w13, h12, ew13, hq⟩ := jw_b2_spec hq
  refine jw_callV (As := []) (S := []) (a := a11) (v := some (.int w13)) dX12_print_51 mt_X12_tells in_X12_tells se_X12_tells lk_X12_363 (c_X12_tells ew13) eta11 (by decide) rfl rfl (by decide) (Nat.le_of_ble_eq_true rfl) (by cases eoa11; rfl) ?_
  rcases jw_if hq with ⟨c14, hq⟩ | ⟨c14, hq⟩
  · refine jw_if_le_t (tgt := 59) dX12_print_54 (by decide) c14 ?_
    refine jw_iinc (L' := [some (.ref x0), some (.int x1), some (.int (x2 + (1 : Int32)))]) dX12_print_59 rfl (v := (1 : Int32)) (by decide) (Nat.le_of_ble_eq_true rfl) rfl ?_
    refine jw_goto (tgt := 5) dX12_print_62 (by decide) ?_
    exact hk5 _ _ _ _ _ _ hq
  · refine jw_if_le_f (tgt := 59) dX12_print_54 (by decide) c14 ?_
    refine jw_iconst dX12_print_57 (v := (4 : Int32)) (by decide) ?_
    cases hq
    exact jw_iret (ty := .int) dX12_print_58 rfl rfl

set_option maxRecDepth 100000 in
set_option maxHeartbeats 4000000 in
theorem l_X12_print_b5g {hi : jw_H} {k5 : jw_H → Nat → Int32 → Int32 → Option (Int32 × jw_H)} (hk5 : ∀ (h : jw_H) (x0 : Nat) (x1 : Int32) (x2 : Int32) (r : Int32) (h' : jw_H), k5 h x0 x1 x2 = some (r, h') → jw_E 2 uX12_print hi 5 [some (.ref x0), some (.int x1), some (.int x2)] [] h (.inl (some (.int r))) h') {h : jw_H} {x0 : Nat} {x1 : Int32} {x2 : Int32} {r : Int32} {h' : jw_H} (hq : g_X12_print_b5 k5 h x0 x1 x2 = some (r, h')) : jw_E 2 uX12_print hi 5 [some (.ref x0), some (.int x1), some (.int x2)] [] h (.inl (some (.int r))) h' := by
  unfold g_X12_print_b5 at hq
  refine jw_iload_n dX12_print_5 rfl ?_
  refine jw_aload_n dX12_print_6 (o := (some x0)) rfl ?_
  obtain ⟨v1, ev1, hq⟩ := Option.bind_eq_some_iff.mp hq
  refine jw_getI (o := (some x0)) dX12_print_7 ev1 fl_X12_320 rfl ?_
  rcases jw_if hq with ⟨c2, hq⟩ | ⟨c2, hq⟩
  · refine jw_icmp_gt_t (tgt := 65) dX12_print_10 (by decide) c2 ?_
    refine jw_aload_n dX12_print_65 (o := (some x0)) rfl ?_
    refine jw_aload_n dX12_print_66 (o := (some x0)) rfl ?_
    obtain ⟨v3, ev3, hq⟩ := Option.bind_eq_some_iff.mp hq
    refine jw_getI (o := (some x0)) dX12_print_67 ev3 fl_X12_320 rfl ?_
    obtain ⟨h4, eh4, hq⟩ := Option.bind_eq_some_iff.mp hq
    refine jw_putI (o := (some x0)) dX12_print_70 eh4 fl_X12_295 rfl rfl ?_
    refine jw_iconst dX12_print_73 (v := (0 : Int32)) (by decide) ?_
    cases hq
    exact jw_iret (ty := .int) dX12_print_74 rfl rfl
  · refine jw_icmp_gt_f (tgt := 65) dX12_print_10 (by decide) c2 ?_
    refine jw_aload_n dX12_print_13 (o := (some x0)) rfl ?_
    refine jw_iconst dX12_print_14 (v := (0 : Int32)) (by decide) ?_
    obtain ⟨h5, eh5, hq⟩ := Option.bind_eq_some_iff.mp hq
    refine jw_putI (o := (some x0)) dX12_print_15 eh5 fl_X12_117 rfl rfl ?_
    refine jw_iload_n dX12_print_18 rfl ?_
    rcases jw_if hq with ⟨c6, hq⟩ | ⟨c6, hq⟩
    · refine jw_if_eq_t (tgt := 33) dX12_print_19 (by decide) c6 ?_
      exact l_X12_print_b33 hk5 hq
    · refine jw_if_eq_f (tgt := 33) dX12_print_19 (by decide) c6 ?_
      refine jw_aload_n dX12_print_22 (o := (some x0)) rfl ?_
      refine jw_iload_n dX12_print_23 rfl ?_
      obtain ⟨a7, ea7, hq⟩ := Option.bind_eq_some_iff.mp hq
      obtain ⟨eoa7, eta7⟩ := jw_rc_spec ea7
      obtain ⟨w9, h8, ew9, hq⟩ := jw_b2_spec hq
      refine jw_callV (As := [.int x2]) (S := []) (a := a7) (v := none) dX12_print_24 mt_X12_makesNumber in_X12_makesNumber se_X12_makesNumber lk_X12_360 (c_X12_makesNumber ew9) eta7 (by decide) rfl rfl (by decide) (Nat.le_of_ble_eq_true rfl) (by cases eoa7; rfl) ?_
      refine jw_aload_n dX12_print_27 (o := (some x0)) rfl ?_
      refine jw_bipush dX12_print_28 (v := (32 : Int32)) (by decide) ?_
      obtain ⟨a10, ea10, hq⟩ := Option.bind_eq_some_iff.mp hq
      obtain ⟨eoa10, eta10⟩ := jw_rc_spec ea10
      obtain ⟨w12, h11, ew12, hq⟩ := jw_b2_spec hq
      refine jw_callV (As := [.int (32 : Int32)]) (S := []) (a := a10) (v := none) dX12_print_30 mt_X12_makes in_X12_makes se_X12_makes lk_X12_120 (c_X12_makes ew12) eta10 (by decide) rfl rfl (by decide) (Nat.le_of_ble_eq_true rfl) (by cases eoa10; rfl) ?_
      exact l_X12_print_b33 hk5 hq

theorem l_X12_print_b5 {hi : jw_H} : ∀ (n : Nat) (h : jw_H) (x0 : Nat) (x1 : Int32) (x2 : Int32) (r : Int32) (h' : jw_H), f_X12_print_b5  n h x0 x1 x2 = some (r, h') → jw_E 2 uX12_print hi 5 [some (.ref x0), some (.int x1), some (.int x2)] [] h (.inl (some (.int r))) h' := by
  intro n
  induction n with
  | zero => intro h x0 x1 x2 r h' hq; exact nomatch hq
  | succ n ih => intro h x0 x1 x2 r h' hq; exact l_X12_print_b5g ih hq

set_option maxRecDepth 100000 in
set_option maxHeartbeats 4000000 in
theorem l_X12_print {hi : jw_H} {h : jw_H} {x0 : Nat} {x1 : Int32} {r : Int32} {h' : jw_H} (hq : f_X12_print  h x0 x1 = some (r, h')) : jw_E 2 uX12_print hi 0 [some (.ref x0), some (.int x1), none] [] h (.inl (some (.int r))) h' := by
  unfold f_X12_print at hq
  refine jw_aload_n dX12_print_0 (o := (some x0)) rfl ?_
  obtain ⟨v1, ev1, hq⟩ := Option.bind_eq_some_iff.mp hq
  refine jw_getI (o := (some x0)) dX12_print_1 ev1 fl_X12_317 rfl ?_
  refine jw_istore_n (L' := [some (.ref x0), some (.int x1), some (.int v1)]) dX12_print_4 (Nat.le_of_ble_eq_true rfl) rfl ?_
  exact l_X12_print_b5  jw_FU _ _ _ _ _ _ hq

theorem c_X12_print {h : jw_H} {x0 : Nat} {x1 : Int32} {r : Int32} {h' : jw_H} (hq : f_X12_print h x0 x1 = some (r, h')) : jw_Con (Cond.code yX12_print cX12_print 3 (some .int)) yX12_print 2 [.ref x0, .int x1] h (.inl (some (.int r))) h' :=
  jw_con false (plainFor_of_name (by decide +kernel)) (fun z => nomatch z) (by simp [jw_ent, jw_sl0_nil, jw_sl0_int, jw_sl0_long, jw_sl0_ref, jw_sl0_rf, jw_sl0_scr, List.replicate]) (by simp [jw_sl0_nil, jw_sl0_int, jw_sl0_long, jw_sl0_ref, jw_sl0_rf, jw_sl0_scr]) (l_X12_print hq)

