/-! X12_held -/
noncomputable def f_X12_held (h : jw_H) (x0 : Nat) : Option (Int32 × jw_H) :=
 (jw_pI h 12 (some x0) 0 (0 : Int32)).bind fun h1 =>
 (jw_gI h1 12 (some x0) 14).bind fun v2 =>
 some (v2, h1)

set_option maxRecDepth 100000 in
set_option maxHeartbeats 4000000 in
theorem l_X12_held {hi : jw_H} {h : jw_H} {x0 : Nat} {r : Int32} {h' : jw_H} (hq : f_X12_held  h x0 = some (r, h')) : jw_E 0 uX12_held hi 0 [some (.ref x0)] [] h (.inl (some (.int r))) h' := by
  unfold f_X12_held at hq
  refine jw_aload_n dX12_held_0 (o := (some x0)) rfl ?_
  refine jw_iconst dX12_held_1 (v := (0 : Int32)) (by decide) ?_
  obtain ⟨h1, eh1, hq⟩ := Option.bind_eq_some_iff.mp hq
  refine jw_putI (o := (some x0)) dX12_held_2 eh1 fl_X12_105 rfl rfl ?_
  refine jw_aload_n dX12_held_5 (o := (some x0)) rfl ?_
  obtain ⟨v2, ev2, hq⟩ := Option.bind_eq_some_iff.mp hq
  refine jw_getI (o := (some x0)) dX12_held_6 ev2 fl_X12_366 rfl ?_
  cases hq
  exact jw_iret (ty := .int) dX12_held_9 rfl rfl

theorem c_X12_held {h : jw_H} {x0 : Nat} {r : Int32} {h' : jw_H} (hq : f_X12_held h x0 = some (r, h')) : jw_Con (Cond.code yX12_held cX12_held 1 (some .int)) yX12_held 0 [.ref x0] h (.inl (some (.int r))) h' :=
  jw_con false (plainFor_of_name (by decide +kernel)) (fun z => nomatch z) (by simp [jw_ent, jw_sl0_nil, jw_sl0_int, jw_sl0_long, jw_sl0_ref, jw_sl0_rf, jw_sl0_scr, List.replicate]) (by simp [jw_sl0_nil, jw_sl0_int, jw_sl0_long, jw_sl0_ref, jw_sl0_rf, jw_sl0_scr]) (l_X12_held hq)


/-! X12_lengthOf -/
noncomputable def g_X12_lengthOf_b26 (h : jw_H) (t0 : Int32) : Option (Int32 × jw_H) :=
 some (t0, h)

noncomputable def g_X12_lengthOf_b10 (h : jw_H) (x0 : Nat) (x1 : Int32) (x2 : Int32) (t0 : Nat) (t1 : Int32) : Option (Int32 × jw_H) :=
 (jw_pI h 12 (some t0) 0 t1).bind fun h1 =>
 if x1 = 0 then (g_X12_lengthOf_b26  h1 (0 : Int32))
 else ((jw_rc h1 12 (some x0)).bind fun a3 =>
 jw_b2 (f_X12_len h1 a3 x2) fun w5 h4 =>
 g_X12_lengthOf_b26  h4 w5)

noncomputable def f_X12_lengthOf (h : jw_H) (x0 : Nat) (x1 : Int32) (x2 : Int32) : Option (Int32 × jw_H) :=
 if x1 = 0 then (g_X12_lengthOf_b10  h x0 x1 x2 x0 (1 : Int32))
 else (g_X12_lengthOf_b10  h x0 x1 x2 x0 (0 : Int32))

set_option maxRecDepth 100000 in
set_option maxHeartbeats 4000000 in
theorem l_X12_lengthOf_b26 {hi : jw_H} {h : jw_H} {t0 : Int32} {r : Int32} {h' : jw_H} (hq : g_X12_lengthOf_b26  h t0 = some (r, h')) : jw_E 1 uX12_lengthOf hi 26 [none, none, none] [.int t0] h (.inl (some (.int r))) h' := by
  unfold g_X12_lengthOf_b26 at hq
  cases hq
  exact jw_iret (ty := .int) dX12_lengthOf_26 rfl rfl

set_option maxRecDepth 100000 in
set_option maxHeartbeats 4000000 in
theorem l_X12_lengthOf_b10 {hi : jw_H} {h : jw_H} {x0 : Nat} {x1 : Int32} {x2 : Int32} {t0 : Nat} {t1 : Int32} {r : Int32} {h' : jw_H} (hq : g_X12_lengthOf_b10  h x0 x1 x2 t0 t1 = some (r, h')) : jw_E 1 uX12_lengthOf hi 10 [some (.ref x0), some (.int x1), some (.int x2)] [.int t1, .ref t0] h (.inl (some (.int r))) h' := by
  unfold g_X12_lengthOf_b10 at hq
  obtain ⟨h1, eh1, hq⟩ := Option.bind_eq_some_iff.mp hq
  refine jw_putI (o := (some t0)) dX12_lengthOf_10 eh1 fl_X12_105 rfl rfl ?_
  refine jw_iload_n dX12_lengthOf_13 rfl ?_
  rcases jw_if hq with ⟨c2, hq⟩ | ⟨c2, hq⟩
  · refine jw_if_eq_t (tgt := 25) dX12_lengthOf_14 (by decide) c2 ?_
    refine jw_iconst dX12_lengthOf_25 (v := (0 : Int32)) (by decide) ?_
    refine jw_forget [false, false, false] (L' := [none, none, none]) rfl ?_
    exact l_X12_lengthOf_b26  hq
  · refine jw_if_eq_f (tgt := 25) dX12_lengthOf_14 (by decide) c2 ?_
    refine jw_aload_n dX12_lengthOf_17 (o := (some x0)) rfl ?_
    refine jw_iload_n dX12_lengthOf_18 rfl ?_
    obtain ⟨a3, ea3, hq⟩ := Option.bind_eq_some_iff.mp hq
    obtain ⟨eoa3, eta3⟩ := jw_rc_spec ea3
    obtain ⟨w5, h4, ew5, hq⟩ := jw_b2_spec hq
    refine jw_callV (As := [.int x2]) (S := []) (a := a3) (v := some (.int w5)) dX12_lengthOf_19 mt_X12_len in_X12_len se_X12_len lk_X12_109 (c_X12_len ew5) eta3 (by decide) rfl rfl (by decide) (Nat.le_of_ble_eq_true rfl) (by cases eoa3; rfl) ?_
    refine jw_goto (tgt := 26) dX12_lengthOf_22 (by decide) ?_
    refine jw_forget [false, false, false] (L' := [none, none, none]) rfl ?_
    exact l_X12_lengthOf_b26  hq

set_option maxRecDepth 100000 in
set_option maxHeartbeats 4000000 in
theorem l_X12_lengthOf {hi : jw_H} {h : jw_H} {x0 : Nat} {x1 : Int32} {x2 : Int32} {r : Int32} {h' : jw_H} (hq : f_X12_lengthOf  h x0 x1 x2 = some (r, h')) : jw_E 1 uX12_lengthOf hi 0 [some (.ref x0), some (.int x1), some (.int x2)] [] h (.inl (some (.int r))) h' := by
  unfold f_X12_lengthOf at hq
  refine jw_aload_n dX12_lengthOf_0 (o := (some x0)) rfl ?_
  refine jw_iload_n dX12_lengthOf_1 rfl ?_
  rcases jw_if hq with ⟨c1, hq⟩ | ⟨c1, hq⟩
  · refine jw_if_eq_t (tgt := 9) dX12_lengthOf_2 (by decide) c1 ?_
    refine jw_iconst dX12_lengthOf_9 (v := (1 : Int32)) (by decide) ?_
    exact l_X12_lengthOf_b10  hq
  · refine jw_if_eq_f (tgt := 9) dX12_lengthOf_2 (by decide) c1 ?_
    refine jw_iconst dX12_lengthOf_5 (v := (0 : Int32)) (by decide) ?_
    refine jw_goto (tgt := 10) dX12_lengthOf_6 (by decide) ?_
    exact l_X12_lengthOf_b10  hq

theorem c_X12_lengthOf {h : jw_H} {x0 : Nat} {x1 : Int32} {x2 : Int32} {r : Int32} {h' : jw_H} (hq : f_X12_lengthOf h x0 x1 x2 = some (r, h')) : jw_Con (Cond.code yX12_lengthOf cX12_lengthOf 3 (some .int)) yX12_lengthOf 1 [.ref x0, .int x1, .int x2] h (.inl (some (.int r))) h' :=
  jw_con false (plainFor_of_name (by decide +kernel)) (fun z => nomatch z) (by simp [jw_ent, jw_sl0_nil, jw_sl0_int, jw_sl0_long, jw_sl0_ref, jw_sl0_rf, jw_sl0_scr, List.replicate]) (by simp [jw_sl0_nil, jw_sl0_int, jw_sl0_long, jw_sl0_ref, jw_sl0_rf, jw_sl0_scr]) (l_X12_lengthOf hq)


/-! X12_heldLength -/
noncomputable def g_X12_heldLength_b35 (h : jw_H) (t0 : Nat) (t1 : Int32) (t2 : Int32) : Option (Int32 × jw_H) :=
 (jw_rc h 12 (some t0)).bind fun a1 =>
 jw_b2 (f_X12_lengthOf h a1 t1 t2) fun w3 h2 =>
 some (w3, h2)

noncomputable def g_X12_heldLength_b18 (h : jw_H) (x0 : Nat) (x1 : Int32) (t0 : Int32) : Option (Int32 × jw_H) :=
 if t0 = 0 then (g_X12_heldLength_b35  h x0 t0 (0 : Int32))
 else (g_X12_heldLength_b35  h x0 t0 (((82 : Int32) + x1) - (1 : Int32)))

noncomputable def g_X12_heldLength_b17 (h : jw_H) (x0 : Nat) (x1 : Int32) : Option (Int32 × jw_H) :=
 g_X12_heldLength_b18  h x0 x1 (0 : Int32)

noncomputable def f_X12_heldLength (h : jw_H) (x0 : Nat) (x1 : Int32) : Option (Int32 × jw_H) :=
 if x1 < (1 : Int32) then (g_X12_heldLength_b17  h x0 x1)
 else ((jw_gI h 12 (some x0) 14).bind fun v2 =>
 if v2 < x1 then (g_X12_heldLength_b17  h x0 x1)
 else (g_X12_heldLength_b18  h x0 x1 (1 : Int32)))

set_option maxRecDepth 100000 in
set_option maxHeartbeats 4000000 in
theorem l_X12_heldLength_b35 {hi : jw_H} {h : jw_H} {t0 : Nat} {t1 : Int32} {t2 : Int32} {r : Int32} {h' : jw_H} (hq : g_X12_heldLength_b35  h t0 t1 t2 = some (r, h')) : jw_E 2 uX12_heldLength hi 35 [none, none, none] [.int t2, .int t1, .ref t0] h (.inl (some (.int r))) h' := by
  unfold g_X12_heldLength_b35 at hq
  obtain ⟨a1, ea1, hq⟩ := Option.bind_eq_some_iff.mp hq
  obtain ⟨eoa1, eta1⟩ := jw_rc_spec ea1
  obtain ⟨w3, h2, ew3, hq⟩ := jw_b2_spec hq
  refine jw_callV (As := [.int t1, .int t2]) (S := []) (a := a1) (v := some (.int w3)) dX12_heldLength_35 mt_X12_lengthOf in_X12_lengthOf se_X12_lengthOf lk_X12_718 (c_X12_lengthOf ew3) eta1 (by decide) rfl rfl (by decide) (Nat.le_of_ble_eq_true rfl) (by cases eoa1; rfl) ?_
  cases hq
  exact jw_iret (ty := .int) dX12_heldLength_38 rfl rfl

set_option maxRecDepth 100000 in
set_option maxHeartbeats 4000000 in
theorem l_X12_heldLength_b18 {hi : jw_H} {h : jw_H} {x0 : Nat} {x1 : Int32} {t0 : Int32} {r : Int32} {h' : jw_H} (hq : g_X12_heldLength_b18  h x0 x1 t0 = some (r, h')) : jw_E 2 uX12_heldLength hi 18 [some (.ref x0), some (.int x1), none] [.int t0] h (.inl (some (.int r))) h' := by
  unfold g_X12_heldLength_b18 at hq
  refine jw_istore_n (L' := [some (.ref x0), some (.int x1), some (.int t0)]) dX12_heldLength_18 (Nat.le_of_ble_eq_true rfl) rfl ?_
  refine jw_aload_n dX12_heldLength_19 (o := (some x0)) rfl ?_
  refine jw_iload_n dX12_heldLength_20 rfl ?_
  refine jw_iload_n dX12_heldLength_21 rfl ?_
  rcases jw_if hq with ⟨c1, hq⟩ | ⟨c1, hq⟩
  · refine jw_if_eq_t (tgt := 34) dX12_heldLength_22 (by decide) c1 ?_
    refine jw_iconst dX12_heldLength_34 (v := (0 : Int32)) (by decide) ?_
    refine jw_forget [false, false, false] (L' := [none, none, none]) rfl ?_
    exact l_X12_heldLength_b35  hq
  · refine jw_if_eq_f (tgt := 34) dX12_heldLength_22 (by decide) c1 ?_
    refine jw_bipush dX12_heldLength_25 (v := (82 : Int32)) (by decide) ?_
    refine jw_iload_n dX12_heldLength_27 rfl ?_
    refine jw_iadd dX12_heldLength_28 ?_
    refine jw_iconst dX12_heldLength_29 (v := (1 : Int32)) (by decide) ?_
    refine jw_isub dX12_heldLength_30 ?_
    refine jw_goto (tgt := 35) dX12_heldLength_31 (by decide) ?_
    refine jw_forget [false, false, false] (L' := [none, none, none]) rfl ?_
    exact l_X12_heldLength_b35  hq

set_option maxRecDepth 100000 in
set_option maxHeartbeats 4000000 in
theorem l_X12_heldLength_b17 {hi : jw_H} {h : jw_H} {x0 : Nat} {x1 : Int32} {r : Int32} {h' : jw_H} (hq : g_X12_heldLength_b17  h x0 x1 = some (r, h')) : jw_E 2 uX12_heldLength hi 17 [some (.ref x0), some (.int x1), none] [] h (.inl (some (.int r))) h' := by
  unfold g_X12_heldLength_b17 at hq
  refine jw_iconst dX12_heldLength_17 (v := (0 : Int32)) (by decide) ?_
  exact l_X12_heldLength_b18  hq

set_option maxRecDepth 100000 in
set_option maxHeartbeats 4000000 in
theorem l_X12_heldLength {hi : jw_H} {h : jw_H} {x0 : Nat} {x1 : Int32} {r : Int32} {h' : jw_H} (hq : f_X12_heldLength  h x0 x1 = some (r, h')) : jw_E 2 uX12_heldLength hi 0 [some (.ref x0), some (.int x1), none] [] h (.inl (some (.int r))) h' := by
  unfold f_X12_heldLength at hq
  refine jw_iload_n dX12_heldLength_0 rfl ?_
  refine jw_iconst dX12_heldLength_1 (v := (1 : Int32)) (by decide) ?_
  rcases jw_if hq with ⟨c1, hq⟩ | ⟨c1, hq⟩
  · refine jw_icmp_lt_t (tgt := 17) dX12_heldLength_2 (by decide) c1 ?_
    exact l_X12_heldLength_b17  hq
  · refine jw_icmp_lt_f (tgt := 17) dX12_heldLength_2 (by decide) c1 ?_
    refine jw_iload_n dX12_heldLength_5 rfl ?_
    refine jw_aload_n dX12_heldLength_6 (o := (some x0)) rfl ?_
    obtain ⟨v2, ev2, hq⟩ := Option.bind_eq_some_iff.mp hq
    refine jw_getI (o := (some x0)) dX12_heldLength_7 ev2 fl_X12_366 rfl ?_
    rcases jw_if hq with ⟨c3, hq⟩ | ⟨c3, hq⟩
    · refine jw_icmp_gt_t (tgt := 17) dX12_heldLength_10 (by decide) c3 ?_
      exact l_X12_heldLength_b17  hq
    · refine jw_icmp_gt_f (tgt := 17) dX12_heldLength_10 (by decide) c3 ?_
      refine jw_iconst dX12_heldLength_13 (v := (1 : Int32)) (by decide) ?_
      refine jw_goto (tgt := 18) dX12_heldLength_14 (by decide) ?_
      exact l_X12_heldLength_b18  hq

theorem c_X12_heldLength {h : jw_H} {x0 : Nat} {x1 : Int32} {r : Int32} {h' : jw_H} (hq : f_X12_heldLength h x0 x1 = some (r, h')) : jw_Con (Cond.code yX12_heldLength cX12_heldLength 3 (some .int)) yX12_heldLength 2 [.ref x0, .int x1] h (.inl (some (.int r))) h' :=
  jw_con false (plainFor_of_name (by decide +kernel)) (fun z => nomatch z) (by simp [jw_ent, jw_sl0_nil, jw_sl0_int, jw_sl0_long, jw_sl0_ref, jw_sl0_rf, jw_sl0_scr, List.replicate]) (by simp [jw_sl0_nil, jw_sl0_int, jw_sl0_long, jw_sl0_ref, jw_sl0_rf, jw_sl0_scr]) (l_X12_heldLength hq)


/-! X12_heldAt -/
noncomputable def g_X12_heldAt_b57 (h : jw_H) (t0 : Int32) : Option (Int32 × jw_H) :=
 some (t0, h)

noncomputable def g_X12_heldAt_b35 (h : jw_H) (x0 : Nat) (x1 : Int32) (x2 : Int32) (t0 : Nat) (t1 : Int32) (t2 : Int32) : Option (Int32 × jw_H) :=
 (jw_rc h 12 (some t0)).bind fun a1 =>
 jw_b2 (f_X12_isPlace h a1 t1 t2 x2) fun w3 h2 =>
 if w3 = 0 then (g_X12_heldAt_b57  h2 (0 : Int32))
 else ((jw_rc h2 12 (some x0)).bind fun a5 =>
 jw_b2 (f_X12_sign h2 a5 (((82 : Int32) + x1) - (1 : Int32)) x2) fun w7 h6 =>
 g_X12_heldAt_b57  h6 w7)

noncomputable def g_X12_heldAt_b18 (h : jw_H) (x0 : Nat) (x1 : Int32) (x2 : Int32) (t0 : Int32) : Option (Int32 × jw_H) :=
 if t0 = 0 then (g_X12_heldAt_b35  h x0 x1 x2 x0 t0 (0 : Int32))
 else (g_X12_heldAt_b35  h x0 x1 x2 x0 t0 (((82 : Int32) + x1) - (1 : Int32)))

noncomputable def g_X12_heldAt_b17 (h : jw_H) (x0 : Nat) (x1 : Int32) (x2 : Int32) : Option (Int32 × jw_H) :=
 g_X12_heldAt_b18  h x0 x1 x2 (0 : Int32)

noncomputable def f_X12_heldAt (h : jw_H) (x0 : Nat) (x1 : Int32) (x2 : Int32) : Option (Int32 × jw_H) :=
 if x1 < (1 : Int32) then (g_X12_heldAt_b17  h x0 x1 x2)
 else ((jw_gI h 12 (some x0) 14).bind fun v2 =>
 if v2 < x1 then (g_X12_heldAt_b17  h x0 x1 x2)
 else (g_X12_heldAt_b18  h x0 x1 x2 (1 : Int32)))

set_option maxRecDepth 100000 in
set_option maxHeartbeats 4000000 in
theorem l_X12_heldAt_b57 {hi : jw_H} {h : jw_H} {t0 : Int32} {r : Int32} {h' : jw_H} (hq : g_X12_heldAt_b57  h t0 = some (r, h')) : jw_E 2 uX12_heldAt hi 57 [none, none, none, none] [.int t0] h (.inl (some (.int r))) h' := by
  unfold g_X12_heldAt_b57 at hq
  cases hq
  exact jw_iret (ty := .int) dX12_heldAt_57 rfl rfl

set_option maxRecDepth 100000 in
set_option maxHeartbeats 4000000 in
theorem l_X12_heldAt_b35 {hi : jw_H} {h : jw_H} {x0 : Nat} {x1 : Int32} {x2 : Int32} {t0 : Nat} {t1 : Int32} {t2 : Int32} {r : Int32} {h' : jw_H} (hq : g_X12_heldAt_b35  h x0 x1 x2 t0 t1 t2 = some (r, h')) : jw_E 2 uX12_heldAt hi 35 [some (.ref x0), some (.int x1), some (.int x2), none] [.int t2, .int t1, .ref t0] h (.inl (some (.int r))) h' := by
  unfold g_X12_heldAt_b35 at hq
  refine jw_iload_n dX12_heldAt_35 rfl ?_
  obtain ⟨a1, ea1, hq⟩ := Option.bind_eq_some_iff.mp hq
  obtain ⟨eoa1, eta1⟩ := jw_rc_spec ea1
  obtain ⟨w3, h2, ew3, hq⟩ := jw_b2_spec hq
  refine jw_callV (As := [.int t1, .int t2, .int x2]) (S := []) (a := a1) (v := some (.int w3)) dX12_heldAt_36 mt_X12_isPlace in_X12_isPlace se_X12_isPlace lk_X12_706 (c_X12_isPlace ew3) eta1 (by decide) rfl rfl (by decide) (Nat.le_of_ble_eq_true rfl) (by cases eoa1; rfl) ?_
  rcases jw_if hq with ⟨c4, hq⟩ | ⟨c4, hq⟩
  · refine jw_if_eq_t (tgt := 56) dX12_heldAt_39 (by decide) c4 ?_
    refine jw_iconst dX12_heldAt_56 (v := (0 : Int32)) (by decide) ?_
    refine jw_forget [false, false, false, true] (L' := [none, none, none, none]) rfl ?_
    exact l_X12_heldAt_b57  hq
  · refine jw_if_eq_f (tgt := 56) dX12_heldAt_39 (by decide) c4 ?_
    refine jw_aload_n dX12_heldAt_42 (o := (some x0)) rfl ?_
    refine jw_bipush dX12_heldAt_43 (v := (82 : Int32)) (by decide) ?_
    refine jw_iload_n dX12_heldAt_45 rfl ?_
    refine jw_iadd dX12_heldAt_46 ?_
    refine jw_iconst dX12_heldAt_47 (v := (1 : Int32)) (by decide) ?_
    refine jw_isub dX12_heldAt_48 ?_
    refine jw_iload_n dX12_heldAt_49 rfl ?_
    obtain ⟨a5, ea5, hq⟩ := Option.bind_eq_some_iff.mp hq
    obtain ⟨eoa5, eta5⟩ := jw_rc_spec ea5
    obtain ⟨w7, h6, ew7, hq⟩ := jw_b2_spec hq
    refine jw_callV (As := [.int (((82 : Int32) + x1) - (1 : Int32)), .int x2]) (S := []) (a := a5) (v := some (.int w7)) dX12_heldAt_50 mt_X12_sign in_X12_sign se_X12_sign lk_X12_113 (c_X12_sign ew7) eta5 (by decide) rfl rfl (by decide) (Nat.le_of_ble_eq_true rfl) (by cases eoa5; rfl) ?_
    refine jw_goto (tgt := 57) dX12_heldAt_53 (by decide) ?_
    refine jw_forget [false, false, false, true] (L' := [none, none, none, none]) rfl ?_
    exact l_X12_heldAt_b57  hq

set_option maxRecDepth 100000 in
set_option maxHeartbeats 4000000 in
theorem l_X12_heldAt_b18 {hi : jw_H} {h : jw_H} {x0 : Nat} {x1 : Int32} {x2 : Int32} {t0 : Int32} {r : Int32} {h' : jw_H} (hq : g_X12_heldAt_b18  h x0 x1 x2 t0 = some (r, h')) : jw_E 2 uX12_heldAt hi 18 [some (.ref x0), some (.int x1), some (.int x2), none] [.int t0] h (.inl (some (.int r))) h' := by
  unfold g_X12_heldAt_b18 at hq
  refine jw_istore_n (L' := [some (.ref x0), some (.int x1), some (.int x2), some (.int t0)]) dX12_heldAt_18 (Nat.le_of_ble_eq_true rfl) rfl ?_
  refine jw_aload_n dX12_heldAt_19 (o := (some x0)) rfl ?_
  refine jw_iload_n dX12_heldAt_20 rfl ?_
  refine jw_iload_n dX12_heldAt_21 rfl ?_
  rcases jw_if hq with ⟨c1, hq⟩ | ⟨c1, hq⟩
  · refine jw_if_eq_t (tgt := 34) dX12_heldAt_22 (by decide) c1 ?_
    refine jw_iconst dX12_heldAt_34 (v := (0 : Int32)) (by decide) ?_
    refine jw_forget [true, true, true, false] (L' := [some (.ref x0), some (.int x1), some (.int x2), none]) rfl ?_
    exact l_X12_heldAt_b35  hq
  · refine jw_if_eq_f (tgt := 34) dX12_heldAt_22 (by decide) c1 ?_
    refine jw_bipush dX12_heldAt_25 (v := (82 : Int32)) (by decide) ?_
    refine jw_iload_n dX12_heldAt_27 rfl ?_
    refine jw_iadd dX12_heldAt_28 ?_
    refine jw_iconst dX12_heldAt_29 (v := (1 : Int32)) (by decide) ?_
    refine jw_isub dX12_heldAt_30 ?_
    refine jw_goto (tgt := 35) dX12_heldAt_31 (by decide) ?_
    refine jw_forget [true, true, true, false] (L' := [some (.ref x0), some (.int x1), some (.int x2), none]) rfl ?_
    exact l_X12_heldAt_b35  hq

set_option maxRecDepth 100000 in
set_option maxHeartbeats 4000000 in
theorem l_X12_heldAt_b17 {hi : jw_H} {h : jw_H} {x0 : Nat} {x1 : Int32} {x2 : Int32} {r : Int32} {h' : jw_H} (hq : g_X12_heldAt_b17  h x0 x1 x2 = some (r, h')) : jw_E 2 uX12_heldAt hi 17 [some (.ref x0), some (.int x1), some (.int x2), none] [] h (.inl (some (.int r))) h' := by
  unfold g_X12_heldAt_b17 at hq
  refine jw_iconst dX12_heldAt_17 (v := (0 : Int32)) (by decide) ?_
  exact l_X12_heldAt_b18  hq

set_option maxRecDepth 100000 in
set_option maxHeartbeats 4000000 in
theorem l_X12_heldAt {hi : jw_H} {h : jw_H} {x0 : Nat} {x1 : Int32} {x2 : Int32} {r : Int32} {h' : jw_H} (hq : f_X12_heldAt  h x0 x1 x2 = some (r, h')) : jw_E 2 uX12_heldAt hi 0 [some (.ref x0), some (.int x1), some (.int x2), none] [] h (.inl (some (.int r))) h' := by
  unfold f_X12_heldAt at hq
  refine jw_iload_n dX12_heldAt_0 rfl ?_
  refine jw_iconst dX12_heldAt_1 (v := (1 : Int32)) (by decide) ?_
  rcases jw_if hq with ⟨c1, hq⟩ | ⟨c1, hq⟩
  · refine jw_icmp_lt_t (tgt := 17) dX12_heldAt_2 (by decide) c1 ?_
    exact l_X12_heldAt_b17  hq
  · refine jw_icmp_lt_f (tgt := 17) dX12_heldAt_2 (by decide) c1 ?_
    refine jw_iload_n dX12_heldAt_5 rfl ?_
    refine jw_aload_n dX12_heldAt_6 (o := (some x0)) rfl ?_
    obtain ⟨v2, ev2, hq⟩ := Option.bind_eq_some_iff.mp hq
    refine jw_getI (o := (some x0)) dX12_heldAt_7 ev2 fl_X12_366 rfl ?_
    rcases jw_if hq with ⟨c3, hq⟩ | ⟨c3, hq⟩
    · refine jw_icmp_gt_t (tgt := 17) dX12_heldAt_10 (by decide) c3 ?_
      exact l_X12_heldAt_b17  hq
    · refine jw_icmp_gt_f (tgt := 17) dX12_heldAt_10 (by decide) c3 ?_
      refine jw_iconst dX12_heldAt_13 (v := (1 : Int32)) (by decide) ?_
      refine jw_goto (tgt := 18) dX12_heldAt_14 (by decide) ?_
      exact l_X12_heldAt_b18  hq

theorem c_X12_heldAt {h : jw_H} {x0 : Nat} {x1 : Int32} {x2 : Int32} {r : Int32} {h' : jw_H} (hq : f_X12_heldAt h x0 x1 x2 = some (r, h')) : jw_Con (Cond.code yX12_heldAt cX12_heldAt 4 (some .int)) yX12_heldAt 2 [.ref x0, .int x1, .int x2] h (.inl (some (.int r))) h' :=
  jw_con false (plainFor_of_name (by decide +kernel)) (fun z => nomatch z) (by simp [jw_ent, jw_sl0_nil, jw_sl0_int, jw_sl0_long, jw_sl0_ref, jw_sl0_rf, jw_sl0_scr, List.replicate]) (by simp [jw_sl0_nil, jw_sl0_int, jw_sl0_long, jw_sl0_ref, jw_sl0_rf, jw_sl0_scr]) (l_X12_heldAt hq)


/-! X12_outs -/
noncomputable def f_X12_outs (h : jw_H) (x0 : Nat) : Option (Int32 × jw_H) :=
 (jw_pI h 12 (some x0) 0 (0 : Int32)).bind fun h1 =>
 (jw_gI h1 12 (some x0) 15).bind fun v2 =>
 some (v2, h1)

set_option maxRecDepth 100000 in
set_option maxHeartbeats 4000000 in
theorem l_X12_outs {hi : jw_H} {h : jw_H} {x0 : Nat} {r : Int32} {h' : jw_H} (hq : f_X12_outs  h x0 = some (r, h')) : jw_E 0 uX12_outs hi 0 [some (.ref x0)] [] h (.inl (some (.int r))) h' := by
  unfold f_X12_outs at hq
  refine jw_aload_n dX12_outs_0 (o := (some x0)) rfl ?_
  refine jw_iconst dX12_outs_1 (v := (0 : Int32)) (by decide) ?_
  obtain ⟨h1, eh1, hq⟩ := Option.bind_eq_some_iff.mp hq
  refine jw_putI (o := (some x0)) dX12_outs_2 eh1 fl_X12_105 rfl rfl ?_
  refine jw_aload_n dX12_outs_5 (o := (some x0)) rfl ?_
  obtain ⟨v2, ev2, hq⟩ := Option.bind_eq_some_iff.mp hq
  refine jw_getI (o := (some x0)) dX12_outs_6 ev2 fl_X12_357 rfl ?_
  cases hq
  exact jw_iret (ty := .int) dX12_outs_9 rfl rfl

theorem c_X12_outs {h : jw_H} {x0 : Nat} {r : Int32} {h' : jw_H} (hq : f_X12_outs h x0 = some (r, h')) : jw_Con (Cond.code yX12_outs cX12_outs 1 (some .int)) yX12_outs 0 [.ref x0] h (.inl (some (.int r))) h' :=
  jw_con false (plainFor_of_name (by decide +kernel)) (fun z => nomatch z) (by simp [jw_ent, jw_sl0_nil, jw_sl0_int, jw_sl0_long, jw_sl0_ref, jw_sl0_rf, jw_sl0_scr, List.replicate]) (by simp [jw_sl0_nil, jw_sl0_int, jw_sl0_long, jw_sl0_ref, jw_sl0_rf, jw_sl0_scr]) (l_X12_outs hq)


/-! X12_outLength -/
noncomputable def g_X12_outLength_b36 (h : jw_H) (t0 : Nat) (t1 : Int32) (t2 : Int32) : Option (Int32 × jw_H) :=
 (jw_rc h 12 (some t0)).bind fun a1 =>
 jw_b2 (f_X12_lengthOf h a1 t1 t2) fun w3 h2 =>
 some (w3, h2)

noncomputable def g_X12_outLength_b18 (h : jw_H) (x0 : Nat) (x1 : Int32) (t0 : Int32) : Option (Int32 × jw_H) :=
 if t0 = 0 then (g_X12_outLength_b36  h x0 t0 (0 : Int32))
 else (g_X12_outLength_b36  h x0 t0 (((287 : Int32) + x1) - (1 : Int32)))

noncomputable def g_X12_outLength_b17 (h : jw_H) (x0 : Nat) (x1 : Int32) : Option (Int32 × jw_H) :=
 g_X12_outLength_b18  h x0 x1 (0 : Int32)

noncomputable def f_X12_outLength (h : jw_H) (x0 : Nat) (x1 : Int32) : Option (Int32 × jw_H) :=
 if x1 < (1 : Int32) then (g_X12_outLength_b17  h x0 x1)
 else ((jw_gI h 12 (some x0) 15).bind fun v2 =>
 if v2 < x1 then (g_X12_outLength_b17  h x0 x1)
 else (g_X12_outLength_b18  h x0 x1 (1 : Int32)))

set_option maxRecDepth 100000 in
set_option maxHeartbeats 4000000 in
theorem l_X12_outLength_b36 {hi : jw_H} {h : jw_H} {t0 : Nat} {t1 : Int32} {t2 : Int32} {r : Int32} {h' : jw_H} (hq : g_X12_outLength_b36  h t0 t1 t2 = some (r, h')) : jw_E 2 uX12_outLength hi 36 [none, none, none] [.int t2, .int t1, .ref t0] h (.inl (some (.int r))) h' := by
  unfold g_X12_outLength_b36 at hq
  obtain ⟨a1, ea1, hq⟩ := Option.bind_eq_some_iff.mp hq
  obtain ⟨eoa1, eta1⟩ := jw_rc_spec ea1
  obtain ⟨w3, h2, ew3, hq⟩ := jw_b2_spec hq
  refine jw_callV (As := [.int t1, .int t2]) (S := []) (a := a1) (v := some (.int w3)) dX12_outLength_36 mt_X12_lengthOf in_X12_lengthOf se_X12_lengthOf lk_X12_718 (c_X12_lengthOf ew3) eta1 (by decide) rfl rfl (by decide) (Nat.le_of_ble_eq_true rfl) (by cases eoa1; rfl) ?_
  cases hq
  exact jw_iret (ty := .int) dX12_outLength_39 rfl rfl

set_option maxRecDepth 100000 in
set_option maxHeartbeats 4000000 in
theorem l_X12_outLength_b18 {hi : jw_H} {h : jw_H} {x0 : Nat} {x1 : Int32} {t0 : Int32} {r : Int32} {h' : jw_H} (hq : g_X12_outLength_b18  h x0 x1 t0 = some (r, h')) : jw_E 2 uX12_outLength hi 18 [some (.ref x0), some (.int x1), none] [.int t0] h (.inl (some (.int r))) h' := by
  unfold g_X12_outLength_b18 at hq
  refine jw_istore_n (L' := [some (.ref x0), some (.int x1), some (.int t0)]) dX12_outLength_18 (Nat.le_of_ble_eq_true rfl) rfl ?_
  refine jw_aload_n dX12_outLength_19 (o := (some x0)) rfl ?_
  refine jw_iload_n dX12_outLength_20 rfl ?_
  refine jw_iload_n dX12_outLength_21 rfl ?_
  rcases jw_if hq with ⟨c1, hq⟩ | ⟨c1, hq⟩
  · refine jw_if_eq_t (tgt := 35) dX12_outLength_22 (by decide) c1 ?_
    refine jw_iconst dX12_outLength_35 (v := (0 : Int32)) (by decide) ?_
    refine jw_forget [false, false, false] (L' := [none, none, none]) rfl ?_
    exact l_X12_outLength_b36  hq
  · refine jw_if_eq_f (tgt := 35) dX12_outLength_22 (by decide) c1 ?_
    refine jw_sipush dX12_outLength_25 (v := (287 : Int32)) (by decide) ?_
    refine jw_iload_n dX12_outLength_28 rfl ?_
    refine jw_iadd dX12_outLength_29 ?_
    refine jw_iconst dX12_outLength_30 (v := (1 : Int32)) (by decide) ?_
    refine jw_isub dX12_outLength_31 ?_
    refine jw_goto (tgt := 36) dX12_outLength_32 (by decide) ?_
    refine jw_forget [false, false, false] (L' := [none, none, none]) rfl ?_
    exact l_X12_outLength_b36  hq

set_option maxRecDepth 100000 in
set_option maxHeartbeats 4000000 in
theorem l_X12_outLength_b17 {hi : jw_H} {h : jw_H} {x0 : Nat} {x1 : Int32} {r : Int32} {h' : jw_H} (hq : g_X12_outLength_b17  h x0 x1 = some (r, h')) : jw_E 2 uX12_outLength hi 17 [some (.ref x0), some (.int x1), none] [] h (.inl (some (.int r))) h' := by
  unfold g_X12_outLength_b17 at hq
  refine jw_iconst dX12_outLength_17 (v := (0 : Int32)) (by decide) ?_
  exact l_X12_outLength_b18  hq

set_option maxRecDepth 100000 in
set_option maxHeartbeats 4000000 in
theorem l_X12_outLength {hi : jw_H} {h : jw_H} {x0 : Nat} {x1 : Int32} {r : Int32} {h' : jw_H} (hq : f_X12_outLength  h x0 x1 = some (r, h')) : jw_E 2 uX12_outLength hi 0 [some (.ref x0), some (.int x1), none] [] h (.inl (some (.int r))) h' := by
  unfold f_X12_outLength at hq
  refine jw_iload_n dX12_outLength_0 rfl ?_
  refine jw_iconst dX12_outLength_1 (v := (1 : Int32)) (by decide) ?_
  rcases jw_if hq with ⟨c1, hq⟩ | ⟨c1, hq⟩
  · refine jw_icmp_lt_t (tgt := 17) dX12_outLength_2 (by decide) c1 ?_
    exact l_X12_outLength_b17  hq
  · refine jw_icmp_lt_f (tgt := 17) dX12_outLength_2 (by decide) c1 ?_
    refine jw_iload_n dX12_outLength_5 rfl ?_
    refine jw_aload_n dX12_outLength_6 (o := (some x0)) rfl ?_
    obtain ⟨v2, ev2, hq⟩ := Option.bind_eq_some_iff.mp hq
    refine jw_getI (o := (some x0)) dX12_outLength_7 ev2 fl_X12_357 rfl ?_
    rcases jw_if hq with ⟨c3, hq⟩ | ⟨c3, hq⟩
    · refine jw_icmp_gt_t (tgt := 17) dX12_outLength_10 (by decide) c3 ?_
      exact l_X12_outLength_b17  hq
    · refine jw_icmp_gt_f (tgt := 17) dX12_outLength_10 (by decide) c3 ?_
      refine jw_iconst dX12_outLength_13 (v := (1 : Int32)) (by decide) ?_
      refine jw_goto (tgt := 18) dX12_outLength_14 (by decide) ?_
      exact l_X12_outLength_b18  hq

theorem c_X12_outLength {h : jw_H} {x0 : Nat} {x1 : Int32} {r : Int32} {h' : jw_H} (hq : f_X12_outLength h x0 x1 = some (r, h')) : jw_Con (Cond.code yX12_outLength cX12_outLength 3 (some .int)) yX12_outLength 2 [.ref x0, .int x1] h (.inl (some (.int r))) h' :=
  jw_con false (plainFor_of_name (by decide +kernel)) (fun z => nomatch z) (by simp [jw_ent, jw_sl0_nil, jw_sl0_int, jw_sl0_long, jw_sl0_ref, jw_sl0_rf, jw_sl0_scr, List.replicate]) (by simp [jw_sl0_nil, jw_sl0_int, jw_sl0_long, jw_sl0_ref, jw_sl0_rf, jw_sl0_scr]) (l_X12_outLength hq)


/-! X12_outAt -/
noncomputable def g_X12_outAt_b59 (h : jw_H) (t0 : Int32) : Option (Int32 × jw_H) :=
 some (t0, h)

noncomputable def g_X12_outAt_b36 (h : jw_H) (x0 : Nat) (x1 : Int32) (x2 : Int32) (t0 : Nat) (t1 : Int32) (t2 : Int32) : Option (Int32 × jw_H) :=
 (jw_rc h 12 (some t0)).bind fun a1 =>
 jw_b2 (f_X12_isPlace h a1 t1 t2 x2) fun w3 h2 =>
 if w3 = 0 then (g_X12_outAt_b59  h2 (0 : Int32))
 else ((jw_rc h2 12 (some x0)).bind fun a5 =>
 jw_b2 (f_X12_sign h2 a5 (((287 : Int32) + x1) - (1 : Int32)) x2) fun w7 h6 =>
 g_X12_outAt_b59  h6 w7)

noncomputable def g_X12_outAt_b18 (h : jw_H) (x0 : Nat) (x1 : Int32) (x2 : Int32) (t0 : Int32) : Option (Int32 × jw_H) :=
 if t0 = 0 then (g_X12_outAt_b36  h x0 x1 x2 x0 t0 (0 : Int32))
 else (g_X12_outAt_b36  h x0 x1 x2 x0 t0 (((287 : Int32) + x1) - (1 : Int32)))

noncomputable def g_X12_outAt_b17 (h : jw_H) (x0 : Nat) (x1 : Int32) (x2 : Int32) : Option (Int32 × jw_H) :=
 g_X12_outAt_b18  h x0 x1 x2 (0 : Int32)

noncomputable def f_X12_outAt (h : jw_H) (x0 : Nat) (x1 : Int32) (x2 : Int32) : Option (Int32 × jw_H) :=
 if x1 < (1 : Int32) then (g_X12_outAt_b17  h x0 x1 x2)
 else ((jw_gI h 12 (some x0) 15).bind fun v2 =>
 if v2 < x1 then (g_X12_outAt_b17  h x0 x1 x2)
 else (g_X12_outAt_b18  h x0 x1 x2 (1 : Int32)))

set_option maxRecDepth 100000 in
set_option maxHeartbeats 4000000 in
theorem l_X12_outAt_b59 {hi : jw_H} {h : jw_H} {t0 : Int32} {r : Int32} {h' : jw_H} (hq : g_X12_outAt_b59  h t0 = some (r, h')) : jw_E 2 uX12_outAt hi 59 [none, none, none, none] [.int t0] h (.inl (some (.int r))) h' := by
  unfold g_X12_outAt_b59 at hq
  cases hq
  exact jw_iret (ty := .int) dX12_outAt_59 rfl rfl

set_option maxRecDepth 100000 in
set_option maxHeartbeats 4000000 in
theorem l_X12_outAt_b36 {hi : jw_H} {h : jw_H} {x0 : Nat} {x1 : Int32} {x2 : Int32} {t0 : Nat} {t1 : Int32} {t2 : Int32} {r : Int32} {h' : jw_H} (hq : g_X12_outAt_b36  h x0 x1 x2 t0 t1 t2 = some (r, h')) : jw_E 2 uX12_outAt hi 36 [some (.ref x0), some (.int x1), some (.int x2), none] [.int t2, .int t1, .ref t0] h (.inl (some (.int r))) h' := by
  unfold g_X12_outAt_b36 at hq
  refine jw_iload_n dX12_outAt_36 rfl ?_
  obtain ⟨a1, ea1, hq⟩ := Option.bind_eq_some_iff.mp hq
  obtain ⟨eoa1, eta1⟩ := jw_rc_spec ea1
  obtain ⟨w3, h2, ew3, hq⟩ := jw_b2_spec hq
  refine jw_callV (As := [.int t1, .int t2, .int x2]) (S := []) (a := a1) (v := some (.int w3)) dX12_outAt_37 mt_X12_isPlace in_X12_isPlace se_X12_isPlace lk_X12_706 (c_X12_isPlace ew3) eta1 (by decide) rfl rfl (by decide) (Nat.le_of_ble_eq_true rfl) (by cases eoa1; rfl) ?_
  rcases jw_if hq with ⟨c4, hq⟩ | ⟨c4, hq⟩
  · refine jw_if_eq_t (tgt := 58) dX12_outAt_40 (by decide) c4 ?_
    refine jw_iconst dX12_outAt_58 (v := (0 : Int32)) (by decide) ?_
    refine jw_forget [false, false, false, true] (L' := [none, none, none, none]) rfl ?_
    exact l_X12_outAt_b59  hq
  · refine jw_if_eq_f (tgt := 58) dX12_outAt_40 (by decide) c4 ?_
    refine jw_aload_n dX12_outAt_43 (o := (some x0)) rfl ?_
    refine jw_sipush dX12_outAt_44 (v := (287 : Int32)) (by decide) ?_
    refine jw_iload_n dX12_outAt_47 rfl ?_
    refine jw_iadd dX12_outAt_48 ?_
    refine jw_iconst dX12_outAt_49 (v := (1 : Int32)) (by decide) ?_
    refine jw_isub dX12_outAt_50 ?_
    refine jw_iload_n dX12_outAt_51 rfl ?_
    obtain ⟨a5, ea5, hq⟩ := Option.bind_eq_some_iff.mp hq
    obtain ⟨eoa5, eta5⟩ := jw_rc_spec ea5
    obtain ⟨w7, h6, ew7, hq⟩ := jw_b2_spec hq
    refine jw_callV (As := [.int (((287 : Int32) + x1) - (1 : Int32)), .int x2]) (S := []) (a := a5) (v := some (.int w7)) dX12_outAt_52 mt_X12_sign in_X12_sign se_X12_sign lk_X12_113 (c_X12_sign ew7) eta5 (by decide) rfl rfl (by decide) (Nat.le_of_ble_eq_true rfl) (by cases eoa5; rfl) ?_
    refine jw_goto (tgt := 59) dX12_outAt_55 (by decide) ?_
    refine jw_forget [false, false, false, true] (L' := [none, none, none, none]) rfl ?_
    exact l_X12_outAt_b59  hq

set_option maxRecDepth 100000 in
set_option maxHeartbeats 4000000 in
theorem l_X12_outAt_b18 {hi : jw_H} {h : jw_H} {x0 : Nat} {x1 : Int32} {x2 : Int32} {t0 : Int32} {r : Int32} {h' : jw_H} (hq : g_X12_outAt_b18  h x0 x1 x2 t0 = some (r, h')) : jw_E 2 uX12_outAt hi 18 [some (.ref x0), some (.int x1), some (.int x2), none] [.int t0] h (.inl (some (.int r))) h' := by
  unfold g_X12_outAt_b18 at hq
  refine jw_istore_n (L' := [some (.ref x0), some (.int x1), some (.int x2), some (.int t0)]) dX12_outAt_18 (Nat.le_of_ble_eq_true rfl) rfl ?_
  refine jw_aload_n dX12_outAt_19 (o := (some x0)) rfl ?_
  refine jw_iload_n dX12_outAt_20 rfl ?_
  refine jw_iload_n dX12_outAt_21 rfl ?_
  rcases jw_if hq with ⟨c1, hq⟩ | ⟨c1, hq⟩
  · refine jw_if_eq_t (tgt := 35) dX12_outAt_22 (by decide) c1 ?_
    refine jw_iconst dX12_outAt_35 (v := (0 : Int32)) (by decide) ?_
    refine jw_forget [true, true, true, false] (L' := [some (.ref x0), some (.int x1), some (.int x2), none]) rfl ?_
    exact l_X12_outAt_b36  hq
  · refine jw_if_eq_f (tgt := 35) dX12_outAt_22 (by decide) c1 ?_
    refine jw_sipush dX12_outAt_25 (v := (287 : Int32)) (by decide) ?_
    refine jw_iload_n dX12_outAt_28 rfl ?_
    refine jw_iadd dX12_outAt_29 ?_
    refine jw_iconst dX12_outAt_30 (v := (1 : Int32)) (by decide) ?_
    refine jw_isub dX12_outAt_31 ?_
    refine jw_goto (tgt := 36) dX12_outAt_32 (by decide) ?_
    refine jw_forget [true, true, true, false] (L' := [some (.ref x0), some (.int x1), some (.int x2), none]) rfl ?_
    exact l_X12_outAt_b36  hq

set_option maxRecDepth 100000 in
set_option maxHeartbeats 4000000 in
theorem l_X12_outAt_b17 {hi : jw_H} {h : jw_H} {x0 : Nat} {x1 : Int32} {x2 : Int32} {r : Int32} {h' : jw_H} (hq : g_X12_outAt_b17  h x0 x1 x2 = some (r, h')) : jw_E 2 uX12_outAt hi 17 [some (.ref x0), some (.int x1), some (.int x2), none] [] h (.inl (some (.int r))) h' := by
  unfold g_X12_outAt_b17 at hq
  refine jw_iconst dX12_outAt_17 (v := (0 : Int32)) (by decide) ?_
  exact l_X12_outAt_b18  hq

set_option maxRecDepth 100000 in
set_option maxHeartbeats 4000000 in
theorem l_X12_outAt {hi : jw_H} {h : jw_H} {x0 : Nat} {x1 : Int32} {x2 : Int32} {r : Int32} {h' : jw_H} (hq : f_X12_outAt  h x0 x1 x2 = some (r, h')) : jw_E 2 uX12_outAt hi 0 [some (.ref x0), some (.int x1), some (.int x2), none] [] h (.inl (some (.int r))) h' := by
  unfold f_X12_outAt at hq
  refine jw_iload_n dX12_outAt_0 rfl ?_
  refine jw_iconst dX12_outAt_1 (v := (1 : Int32)) (by decide) ?_
  rcases jw_if hq with ⟨c1, hq⟩ | ⟨c1, hq⟩
  · refine jw_icmp_lt_t (tgt := 17) dX12_outAt_2 (by decide) c1 ?_
    exact l_X12_outAt_b17  hq
  · refine jw_icmp_lt_f (tgt := 17) dX12_outAt_2 (by decide) c1 ?_
    refine jw_iload_n dX12_outAt_5 rfl ?_
    refine jw_aload_n dX12_outAt_6 (o := (some x0)) rfl ?_
    obtain ⟨v2, ev2, hq⟩ := Option.bind_eq_some_iff.mp hq
    refine jw_getI (o := (some x0)) dX12_outAt_7 ev2 fl_X12_357 rfl ?_
    rcases jw_if hq with ⟨c3, hq⟩ | ⟨c3, hq⟩
    · refine jw_icmp_gt_t (tgt := 17) dX12_outAt_10 (by decide) c3 ?_
      exact l_X12_outAt_b17  hq
    · refine jw_icmp_gt_f (tgt := 17) dX12_outAt_10 (by decide) c3 ?_
      refine jw_iconst dX12_outAt_13 (v := (1 : Int32)) (by decide) ?_
      refine jw_goto (tgt := 18) dX12_outAt_14 (by decide) ?_
      exact l_X12_outAt_b18  hq

theorem c_X12_outAt {h : jw_H} {x0 : Nat} {x1 : Int32} {x2 : Int32} {r : Int32} {h' : jw_H} (hq : f_X12_outAt h x0 x1 x2 = some (r, h')) : jw_Con (Cond.code yX12_outAt cX12_outAt 4 (some .int)) yX12_outAt 2 [.ref x0, .int x1, .int x2] h (.inl (some (.int r))) h' :=
  jw_con false (plainFor_of_name (by decide +kernel)) (fun z => nomatch z) (by simp [jw_ent, jw_sl0_nil, jw_sl0_int, jw_sl0_long, jw_sl0_ref, jw_sl0_rf, jw_sl0_scr, List.replicate]) (by simp [jw_sl0_nil, jw_sl0_int, jw_sl0_long, jw_sl0_ref, jw_sl0_rf, jw_sl0_scr]) (l_X12_outAt hq)


/-! X12_clearOut -/
noncomputable def f_X12_clearOut (h : jw_H) (x0 : Nat) : Option (Int32 × jw_H) :=
 (jw_pI h 12 (some x0) 0 (0 : Int32)).bind fun h1 =>
 (jw_gI h1 12 (some x0) 15).bind fun v2 =>
 (jw_pI h1 12 (some x0) 15 (0 : Int32)).bind fun h3 =>
 some (v2, h3)

set_option maxRecDepth 100000 in
set_option maxHeartbeats 4000000 in
theorem l_X12_clearOut {hi : jw_H} {h : jw_H} {x0 : Nat} {r : Int32} {h' : jw_H} (hq : f_X12_clearOut  h x0 = some (r, h')) : jw_E 0 uX12_clearOut hi 0 [some (.ref x0), none] [] h (.inl (some (.int r))) h' := by
  unfold f_X12_clearOut at hq
  refine jw_aload_n dX12_clearOut_0 (o := (some x0)) rfl ?_
  refine jw_iconst dX12_clearOut_1 (v := (0 : Int32)) (by decide) ?_
  obtain ⟨h1, eh1, hq⟩ := Option.bind_eq_some_iff.mp hq
  refine jw_putI (o := (some x0)) dX12_clearOut_2 eh1 fl_X12_105 rfl rfl ?_
  refine jw_aload_n dX12_clearOut_5 (o := (some x0)) rfl ?_
  obtain ⟨v2, ev2, hq⟩ := Option.bind_eq_some_iff.mp hq
  refine jw_getI (o := (some x0)) dX12_clearOut_6 ev2 fl_X12_357 rfl ?_
  refine jw_istore_n (L' := [some (.ref x0), some (.int v2)]) dX12_clearOut_9 (Nat.le_of_ble_eq_true rfl) rfl ?_
  refine jw_aload_n dX12_clearOut_10 (o := (some x0)) rfl ?_
  refine jw_iconst dX12_clearOut_11 (v := (0 : Int32)) (by decide) ?_
  obtain ⟨h3, eh3, hq⟩ := Option.bind_eq_some_iff.mp hq
  refine jw_putI (o := (some x0)) dX12_clearOut_12 eh3 fl_X12_357 rfl rfl ?_
  refine jw_iload_n dX12_clearOut_15 rfl ?_
  cases hq
  exact jw_iret (ty := .int) dX12_clearOut_16 rfl rfl

theorem c_X12_clearOut {h : jw_H} {x0 : Nat} {r : Int32} {h' : jw_H} (hq : f_X12_clearOut h x0 = some (r, h')) : jw_Con (Cond.code yX12_clearOut cX12_clearOut 2 (some .int)) yX12_clearOut 0 [.ref x0] h (.inl (some (.int r))) h' :=
  jw_con false (plainFor_of_name (by decide +kernel)) (fun z => nomatch z) (by simp [jw_ent, jw_sl0_nil, jw_sl0_int, jw_sl0_long, jw_sl0_ref, jw_sl0_rf, jw_sl0_scr, List.replicate]) (by simp [jw_sl0_nil, jw_sl0_int, jw_sl0_long, jw_sl0_ref, jw_sl0_rf, jw_sl0_scr]) (l_X12_clearOut hq)


/-! X12_fileRows -/
noncomputable def g_X12_fileRows_b33 (h : jw_H) (t0 : Int32) : Option (Int32 × jw_H) :=
 some (t0, h)

noncomputable def g_X12_fileRows_b13 (h : jw_H) (x0 : Nat) (x1 : Int32) (t0 : Nat) (t1 : Int32) : Option (Int32 × jw_H) :=
 (jw_pI h 12 (some t0) 0 t1).bind fun h1 =>
 (jw_gI h1 12 (some x0) 0).bind fun v2 =>
 if v2 ≤ 0 then ((jw_gR h1 12 (some x0) 11).bind fun v4 =>
 (jw_ai h1 20 v4 x1).bind fun v5 =>
 g_X12_fileRows_b33  h1 v5)
 else (g_X12_fileRows_b33  h1 (0 : Int32))

noncomputable def f_X12_fileRows (h : jw_H) (x0 : Nat) (x1 : Int32) : Option (Int32 × jw_H) :=
 jw_b2 (f_X12_isFour h x1) fun w2 h1 =>
 if w2 = 0 then (g_X12_fileRows_b13  h1 x0 x1 x0 (1 : Int32))
 else (g_X12_fileRows_b13  h1 x0 x1 x0 (0 : Int32))

set_option maxRecDepth 100000 in
set_option maxHeartbeats 4000000 in
theorem l_X12_fileRows_b33 {hi : jw_H} {h : jw_H} {t0 : Int32} {r : Int32} {h' : jw_H} (hq : g_X12_fileRows_b33  h t0 = some (r, h')) : jw_E 1 uX12_fileRows hi 33 [none, none] [.int t0] h (.inl (some (.int r))) h' := by
  unfold g_X12_fileRows_b33 at hq
  cases hq
  exact jw_iret (ty := .int) dX12_fileRows_33 rfl rfl

set_option maxRecDepth 100000 in
set_option maxHeartbeats 4000000 in
theorem l_X12_fileRows_b13 {hi : jw_H} {h : jw_H} {x0 : Nat} {x1 : Int32} {t0 : Nat} {t1 : Int32} {r : Int32} {h' : jw_H} (hq : g_X12_fileRows_b13  h x0 x1 t0 t1 = some (r, h')) : jw_E 1 uX12_fileRows hi 13 [some (.ref x0), some (.int x1)] [.int t1, .ref t0] h (.inl (some (.int r))) h' := by
  unfold g_X12_fileRows_b13 at hq
  obtain ⟨h1, eh1, hq⟩ := Option.bind_eq_some_iff.mp hq
  refine jw_putI (o := (some t0)) dX12_fileRows_13 eh1 fl_X12_105 rfl rfl ?_
  refine jw_aload_n dX12_fileRows_16 (o := (some x0)) rfl ?_
  obtain ⟨v2, ev2, hq⟩ := Option.bind_eq_some_iff.mp hq
  refine jw_getI (o := (some x0)) dX12_fileRows_17 ev2 fl_X12_105 rfl ?_
  rcases jw_if hq with ⟨c3, hq⟩ | ⟨c3, hq⟩
  · refine jw_if_le_t (tgt := 27) dX12_fileRows_20 (by decide) c3 ?_
    refine jw_aload_n dX12_fileRows_27 (o := (some x0)) rfl ?_
    obtain ⟨v4, ev4, hq⟩ := Option.bind_eq_some_iff.mp hq
    refine jw_getR (o := (some x0)) dX12_fileRows_28 ev4 fl_X12_38 rfl ?_
    refine jw_iload_n dX12_fileRows_31 rfl ?_
    obtain ⟨v5, ev5, hq⟩ := Option.bind_eq_some_iff.mp hq
    refine jw_iald (o := v4) dX12_fileRows_32 ev5 ?_
    refine jw_forget [false, false] (L' := [none, none]) rfl ?_
    exact l_X12_fileRows_b33  hq
  · refine jw_if_le_f (tgt := 27) dX12_fileRows_20 (by decide) c3 ?_
    refine jw_iconst dX12_fileRows_23 (v := (0 : Int32)) (by decide) ?_
    refine jw_goto (tgt := 33) dX12_fileRows_24 (by decide) ?_
    refine jw_forget [false, false] (L' := [none, none]) rfl ?_
    exact l_X12_fileRows_b33  hq

set_option maxRecDepth 100000 in
set_option maxHeartbeats 4000000 in
theorem l_X12_fileRows {hi : jw_H} {h : jw_H} {x0 : Nat} {x1 : Int32} {r : Int32} {h' : jw_H} (hq : f_X12_fileRows  h x0 x1 = some (r, h')) : jw_E 1 uX12_fileRows hi 0 [some (.ref x0), some (.int x1)] [] h (.inl (some (.int r))) h' := by
  unfold f_X12_fileRows at hq
  refine jw_aload_n dX12_fileRows_0 (o := (some x0)) rfl ?_
  refine jw_iload_n dX12_fileRows_1 rfl ?_
  obtain ⟨w2, h1, ew2, hq⟩ := jw_b2_spec hq
  refine jw_callS (As := [.int x1]) (S := [.ref x0]) (v := some (.int w2)) dX12_fileRows_2 mt_X12_isFour st_X12_isFour lk_X12_691 (c_X12_isFour ew2) rfl (by decide) (Nat.le_of_ble_eq_true rfl) rfl ?_
  rcases jw_if hq with ⟨c3, hq⟩ | ⟨c3, hq⟩
  · refine jw_if_eq_t (tgt := 12) dX12_fileRows_5 (by decide) c3 ?_
    refine jw_iconst dX12_fileRows_12 (v := (1 : Int32)) (by decide) ?_
    exact l_X12_fileRows_b13  hq
  · refine jw_if_eq_f (tgt := 12) dX12_fileRows_5 (by decide) c3 ?_
    refine jw_iconst dX12_fileRows_8 (v := (0 : Int32)) (by decide) ?_
    refine jw_goto (tgt := 13) dX12_fileRows_9 (by decide) ?_
    exact l_X12_fileRows_b13  hq

theorem c_X12_fileRows {h : jw_H} {x0 : Nat} {x1 : Int32} {r : Int32} {h' : jw_H} (hq : f_X12_fileRows h x0 x1 = some (r, h')) : jw_Con (Cond.code yX12_fileRows cX12_fileRows 2 (some .int)) yX12_fileRows 1 [.ref x0, .int x1] h (.inl (some (.int r))) h' :=
  jw_con false (plainFor_of_name (by decide +kernel)) (fun z => nomatch z) (by simp [jw_ent, jw_sl0_nil, jw_sl0_int, jw_sl0_long, jw_sl0_ref, jw_sl0_rf, jw_sl0_scr, List.replicate]) (by simp [jw_sl0_nil, jw_sl0_int, jw_sl0_long, jw_sl0_ref, jw_sl0_rf, jw_sl0_scr]) (l_X12_fileRows hq)


/-! X12_isFileRow -/
noncomputable def g_X12_isFileRow_b27 (h : jw_H) (t0 : Int32) : Option (Int32 × jw_H) :=
 (jw_rb t0).bind fun v1 =>
 some (t0, h)

noncomputable def g_X12_isFileRow_b26 (h : jw_H)  : Option (Int32 × jw_H) :=
 g_X12_isFileRow_b27  h (0 : Int32)

noncomputable def f_X12_isFileRow (h : jw_H) (x0 : Nat) (x1 : Int32) (x2 : Int32) : Option (Int32 × jw_H) :=
 jw_b2 (f_X12_isFour h x1) fun w2 h1 =>
 if w2 = 0 then (g_X12_isFileRow_b26  h1 )
 else (if x2 < (1 : Int32) then (g_X12_isFileRow_b26  h1 )
 else ((jw_gR h1 12 (some x0) 11).bind fun v5 =>
 (jw_ai h1 20 v5 x1).bind fun v6 =>
 if v6 < x2 then (g_X12_isFileRow_b26  h1 )
 else (g_X12_isFileRow_b27  h1 (1 : Int32))))

set_option maxRecDepth 100000 in
set_option maxHeartbeats 4000000 in
theorem l_X12_isFileRow_b27 {hi : jw_H} {h : jw_H} {t0 : Int32} {r : Int32} {h' : jw_H} (hq : g_X12_isFileRow_b27  h t0 = some (r, h')) : jw_E 1 uX12_isFileRow hi 27 [none, none, none] [.int t0] h (.inl (some (.int r))) h' := by
  unfold g_X12_isFileRow_b27 at hq
  obtain ⟨v1, ev1, hq⟩ := Option.bind_eq_some_iff.mp hq
  cases hq
  exact jw_iret (ty := .boolean) dX12_isFileRow_27 rfl (jw_rb_spec ev1)

set_option maxRecDepth 100000 in
set_option maxHeartbeats 4000000 in
theorem l_X12_isFileRow_b26 {hi : jw_H} {h : jw_H}  {r : Int32} {h' : jw_H} (hq : g_X12_isFileRow_b26  h  = some (r, h')) : jw_E 1 uX12_isFileRow hi 26 [none, none, none] [] h (.inl (some (.int r))) h' := by
  unfold g_X12_isFileRow_b26 at hq
  refine jw_iconst dX12_isFileRow_26 (v := (0 : Int32)) (by decide) ?_
  exact l_X12_isFileRow_b27  hq

set_option maxRecDepth 100000 in
set_option maxHeartbeats 4000000 in
theorem l_X12_isFileRow {hi : jw_H} {h : jw_H} {x0 : Nat} {x1 : Int32} {x2 : Int32} {r : Int32} {h' : jw_H} (hq : f_X12_isFileRow  h x0 x1 x2 = some (r, h')) : jw_E 1 uX12_isFileRow hi 0 [some (.ref x0), some (.int x1), some (.int x2)] [] h (.inl (some (.int r))) h' := by
  unfold f_X12_isFileRow at hq
  refine jw_iload_n dX12_isFileRow_0 rfl ?_
  obtain ⟨w2, h1, ew2, hq⟩ := jw_b2_spec hq
  refine jw_callS (As := [.int x1]) (S := []) (v := some (.int w2)) dX12_isFileRow_1 mt_X12_isFour st_X12_isFour lk_X12_691 (c_X12_isFour ew2) rfl (by decide) (Nat.le_of_ble_eq_true rfl) rfl ?_
  rcases jw_if hq with ⟨c3, hq⟩ | ⟨c3, hq⟩
  · refine jw_if_eq_t (tgt := 26) dX12_isFileRow_4 (by decide) c3 ?_
    refine jw_forget [false, false, false] (L' := [none, none, none]) rfl ?_
    exact l_X12_isFileRow_b26  hq
  · refine jw_if_eq_f (tgt := 26) dX12_isFileRow_4 (by decide) c3 ?_
    refine jw_iload_n dX12_isFileRow_7 rfl ?_
    refine jw_iconst dX12_isFileRow_8 (v := (1 : Int32)) (by decide) ?_
    rcases jw_if hq with ⟨c4, hq⟩ | ⟨c4, hq⟩
    · refine jw_icmp_lt_t (tgt := 26) dX12_isFileRow_9 (by decide) c4 ?_
      refine jw_forget [false, false, false] (L' := [none, none, none]) rfl ?_
      exact l_X12_isFileRow_b26  hq
    · refine jw_icmp_lt_f (tgt := 26) dX12_isFileRow_9 (by decide) c4 ?_
      refine jw_iload_n dX12_isFileRow_12 rfl ?_
      refine jw_aload_n dX12_isFileRow_13 (o := (some x0)) rfl ?_
      obtain ⟨v5, ev5, hq⟩ := Option.bind_eq_some_iff.mp hq
      refine jw_getR (o := (some x0)) dX12_isFileRow_14 ev5 fl_X12_38 rfl ?_
      refine jw_iload_n dX12_isFileRow_17 rfl ?_
      obtain ⟨v6, ev6, hq⟩ := Option.bind_eq_some_iff.mp hq
      refine jw_iald (o := v5) dX12_isFileRow_18 ev6 ?_
      rcases jw_if hq with ⟨c7, hq⟩ | ⟨c7, hq⟩
      · refine jw_icmp_gt_t (tgt := 26) dX12_isFileRow_19 (by decide) c7 ?_
        refine jw_forget [false, false, false] (L' := [none, none, none]) rfl ?_
        exact l_X12_isFileRow_b26  hq
      · refine jw_icmp_gt_f (tgt := 26) dX12_isFileRow_19 (by decide) c7 ?_
        refine jw_iconst dX12_isFileRow_22 (v := (1 : Int32)) (by decide) ?_
        refine jw_goto (tgt := 27) dX12_isFileRow_23 (by decide) ?_
        refine jw_forget [false, false, false] (L' := [none, none, none]) rfl ?_
        exact l_X12_isFileRow_b27  hq

theorem c_X12_isFileRow {h : jw_H} {x0 : Nat} {x1 : Int32} {x2 : Int32} {r : Int32} {h' : jw_H} (hq : f_X12_isFileRow h x0 x1 x2 = some (r, h')) : jw_Con (Cond.code yX12_isFileRow cX12_isFileRow 3 (some .boolean)) yX12_isFileRow 1 [.ref x0, .int x1, .int x2] h (.inl (some (.int r))) h' :=
  jw_con false (plainFor_of_name (by decide +kernel)) (fun z => nomatch z) (by simp [jw_ent, jw_sl0_nil, jw_sl0_int, jw_sl0_long, jw_sl0_ref, jw_sl0_rf, jw_sl0_scr, List.replicate]) (by simp [jw_sl0_nil, jw_sl0_int, jw_sl0_long, jw_sl0_ref, jw_sl0_rf, jw_sl0_scr]) (l_X12_isFileRow hq)


/-! X12_fileLength -/
noncomputable def g_X12_fileLength_b24 (h : jw_H) (t0 : Nat) (t1 : Int32) (t2 : Int32) : Option (Int32 × jw_H) :=
 (jw_rc h 12 (some t0)).bind fun a1 =>
 jw_b2 (f_X12_lengthOf h a1 t1 t2) fun w3 h2 =>
 some (w3, h2)

noncomputable def f_X12_fileLength (h : jw_H) (x0 : Nat) (x1 : Int32) (x2 : Int32) : Option (Int32 × jw_H) :=
 (jw_rc h 12 (some x0)).bind fun a1 =>
 jw_b2 (f_X12_isFileRow h a1 x1 x2) fun w3 h2 =>
 if w3 = 0 then (g_X12_fileLength_b24  h2 x0 w3 (0 : Int32))
 else (jw_b2 (f_X12_fileRow h2 x1 (x2 - (1 : Int32))) fun w6 h5 =>
 g_X12_fileLength_b24  h5 x0 w3 w6)

set_option maxRecDepth 100000 in
set_option maxHeartbeats 4000000 in
theorem l_X12_fileLength_b24 {hi : jw_H} {h : jw_H} {t0 : Nat} {t1 : Int32} {t2 : Int32} {r : Int32} {h' : jw_H} (hq : g_X12_fileLength_b24  h t0 t1 t2 = some (r, h')) : jw_E 2 uX12_fileLength hi 24 [none, none, none, none] [.int t2, .int t1, .ref t0] h (.inl (some (.int r))) h' := by
  unfold g_X12_fileLength_b24 at hq
  obtain ⟨a1, ea1, hq⟩ := Option.bind_eq_some_iff.mp hq
  obtain ⟨eoa1, eta1⟩ := jw_rc_spec ea1
  obtain ⟨w3, h2, ew3, hq⟩ := jw_b2_spec hq
  refine jw_callV (As := [.int t1, .int t2]) (S := []) (a := a1) (v := some (.int w3)) dX12_fileLength_24 mt_X12_lengthOf in_X12_lengthOf se_X12_lengthOf lk_X12_718 (c_X12_lengthOf ew3) eta1 (by decide) rfl rfl (by decide) (Nat.le_of_ble_eq_true rfl) (by cases eoa1; rfl) ?_
  cases hq
  exact jw_iret (ty := .int) dX12_fileLength_27 rfl rfl

set_option maxRecDepth 100000 in
set_option maxHeartbeats 4000000 in
theorem l_X12_fileLength {hi : jw_H} {h : jw_H} {x0 : Nat} {x1 : Int32} {x2 : Int32} {r : Int32} {h' : jw_H} (hq : f_X12_fileLength  h x0 x1 x2 = some (r, h')) : jw_E 2 uX12_fileLength hi 0 [some (.ref x0), some (.int x1), some (.int x2), none] [] h (.inl (some (.int r))) h' := by
  unfold f_X12_fileLength at hq
  refine jw_aload_n dX12_fileLength_0 (o := (some x0)) rfl ?_
  refine jw_iload_n dX12_fileLength_1 rfl ?_
  refine jw_iload_n dX12_fileLength_2 rfl ?_
  obtain ⟨a1, ea1, hq⟩ := Option.bind_eq_some_iff.mp hq
  obtain ⟨eoa1, eta1⟩ := jw_rc_spec ea1
  obtain ⟨w3, h2, ew3, hq⟩ := jw_b2_spec hq
  refine jw_callV (As := [.int x1, .int x2]) (S := []) (a := a1) (v := some (.int w3)) dX12_fileLength_3 mt_X12_isFileRow in_X12_isFileRow se_X12_isFileRow lk_X12_722 (c_X12_isFileRow ew3) eta1 (by decide) rfl rfl (by decide) (Nat.le_of_ble_eq_true rfl) (by cases eoa1; rfl) ?_
  refine jw_istore_n (L' := [some (.ref x0), some (.int x1), some (.int x2), some (.int w3)]) dX12_fileLength_6 (Nat.le_of_ble_eq_true rfl) rfl ?_
  refine jw_aload_n dX12_fileLength_7 (o := (some x0)) rfl ?_
  refine jw_iload_n dX12_fileLength_8 rfl ?_
  refine jw_iload_n dX12_fileLength_9 rfl ?_
  rcases jw_if hq with ⟨c4, hq⟩ | ⟨c4, hq⟩
  · refine jw_if_eq_t (tgt := 23) dX12_fileLength_10 (by decide) c4 ?_
    refine jw_iconst dX12_fileLength_23 (v := (0 : Int32)) (by decide) ?_
    refine jw_forget [false, false, false, false] (L' := [none, none, none, none]) rfl ?_
    exact l_X12_fileLength_b24  hq
  · refine jw_if_eq_f (tgt := 23) dX12_fileLength_10 (by decide) c4 ?_
    refine jw_iload_n dX12_fileLength_13 rfl ?_
    refine jw_iload_n dX12_fileLength_14 rfl ?_
    refine jw_iconst dX12_fileLength_15 (v := (1 : Int32)) (by decide) ?_
    refine jw_isub dX12_fileLength_16 ?_
    obtain ⟨w6, h5, ew6, hq⟩ := jw_b2_spec hq
    refine jw_callS (As := [.int x1, .int (x2 - (1 : Int32))]) (S := [.int w3, .ref x0]) (v := some (.int w6)) dX12_fileLength_17 mt_X12_fileRow st_X12_fileRow lk_X12_394 (c_X12_fileRow ew6) rfl (by decide) (Nat.le_of_ble_eq_true rfl) rfl ?_
    refine jw_goto (tgt := 24) dX12_fileLength_20 (by decide) ?_
    refine jw_forget [false, false, false, false] (L' := [none, none, none, none]) rfl ?_
    exact l_X12_fileLength_b24  hq

theorem c_X12_fileLength {h : jw_H} {x0 : Nat} {x1 : Int32} {x2 : Int32} {r : Int32} {h' : jw_H} (hq : f_X12_fileLength h x0 x1 x2 = some (r, h')) : jw_Con (Cond.code yX12_fileLength cX12_fileLength 4 (some .int)) yX12_fileLength 2 [.ref x0, .int x1, .int x2] h (.inl (some (.int r))) h' :=
  jw_con false (plainFor_of_name (by decide +kernel)) (fun z => nomatch z) (by simp [jw_ent, jw_sl0_nil, jw_sl0_int, jw_sl0_long, jw_sl0_ref, jw_sl0_rf, jw_sl0_scr, List.replicate]) (by simp [jw_sl0_nil, jw_sl0_int, jw_sl0_long, jw_sl0_ref, jw_sl0_rf, jw_sl0_scr]) (l_X12_fileLength hq)


/-! X12_fileAt -/
noncomputable def g_X12_fileAt_b50 (h : jw_H) (t0 : Int32) : Option (Int32 × jw_H) :=
 some (t0, h)

noncomputable def g_X12_fileAt_b27 (h : jw_H) (x0 : Nat) (x1 : Int32) (x2 : Int32) (x3 : Int32) (t0 : Nat) (t1 : Int32) (t2 : Int32) : Option (Int32 × jw_H) :=
 (jw_rc h 12 (some t0)).bind fun a1 =>
 jw_b2 (f_X12_isPlace h a1 t1 t2 x3) fun w3 h2 =>
 if w3 = 0 then (g_X12_fileAt_b50  h2 (0 : Int32))
 else (jw_b2 (f_X12_fileRow h2 x1 (x2 - (1 : Int32))) fun w6 h5 =>
 (jw_rc h5 12 (some x0)).bind fun a7 =>
 jw_b2 (f_X12_sign h5 a7 w6 x3) fun w9 h8 =>
 g_X12_fileAt_b50  h8 w9)

noncomputable def f_X12_fileAt (h : jw_H) (x0 : Nat) (x1 : Int32) (x2 : Int32) (x3 : Int32) : Option (Int32 × jw_H) :=
 (jw_rc h 12 (some x0)).bind fun a1 =>
 jw_b2 (f_X12_isFileRow h a1 x1 x2) fun w3 h2 =>
 if w3 = 0 then (g_X12_fileAt_b27  h2 x0 x1 x2 x3 x0 w3 (0 : Int32))
 else (jw_b2 (f_X12_fileRow h2 x1 (x2 - (1 : Int32))) fun w6 h5 =>
 g_X12_fileAt_b27  h5 x0 x1 x2 x3 x0 w3 w6)

set_option maxRecDepth 100000 in
set_option maxHeartbeats 4000000 in
theorem l_X12_fileAt_b50 {hi : jw_H} {h : jw_H} {t0 : Int32} {r : Int32} {h' : jw_H} (hq : g_X12_fileAt_b50  h t0 = some (r, h')) : jw_E 2 uX12_fileAt hi 50 [none, none, none, none, none] [.int t0] h (.inl (some (.int r))) h' := by
  unfold g_X12_fileAt_b50 at hq
  cases hq
  exact jw_iret (ty := .int) dX12_fileAt_50 rfl rfl

set_option maxRecDepth 100000 in
set_option maxHeartbeats 4000000 in
theorem l_X12_fileAt_b27 {hi : jw_H} {h : jw_H} {x0 : Nat} {x1 : Int32} {x2 : Int32} {x3 : Int32} {t0 : Nat} {t1 : Int32} {t2 : Int32} {r : Int32} {h' : jw_H} (hq : g_X12_fileAt_b27  h x0 x1 x2 x3 t0 t1 t2 = some (r, h')) : jw_E 2 uX12_fileAt hi 27 [some (.ref x0), some (.int x1), some (.int x2), some (.int x3), none] [.int t2, .int t1, .ref t0] h (.inl (some (.int r))) h' := by
  unfold g_X12_fileAt_b27 at hq
  refine jw_iload_n dX12_fileAt_27 rfl ?_
  obtain ⟨a1, ea1, hq⟩ := Option.bind_eq_some_iff.mp hq
  obtain ⟨eoa1, eta1⟩ := jw_rc_spec ea1
  obtain ⟨w3, h2, ew3, hq⟩ := jw_b2_spec hq
  refine jw_callV (As := [.int t1, .int t2, .int x3]) (S := []) (a := a1) (v := some (.int w3)) dX12_fileAt_28 mt_X12_isPlace in_X12_isPlace se_X12_isPlace lk_X12_706 (c_X12_isPlace ew3) eta1 (by decide) rfl rfl (by decide) (Nat.le_of_ble_eq_true rfl) (by cases eoa1; rfl) ?_
  rcases jw_if hq with ⟨c4, hq⟩ | ⟨c4, hq⟩
  · refine jw_if_eq_t (tgt := 49) dX12_fileAt_31 (by decide) c4 ?_
    refine jw_iconst dX12_fileAt_49 (v := (0 : Int32)) (by decide) ?_
    refine jw_forget [false, false, false, false, true] (L' := [none, none, none, none, none]) rfl ?_
    exact l_X12_fileAt_b50  hq
  · refine jw_if_eq_f (tgt := 49) dX12_fileAt_31 (by decide) c4 ?_
    refine jw_aload_n dX12_fileAt_34 (o := (some x0)) rfl ?_
    refine jw_iload_n dX12_fileAt_35 rfl ?_
    refine jw_iload_n dX12_fileAt_36 rfl ?_
    refine jw_iconst dX12_fileAt_37 (v := (1 : Int32)) (by decide) ?_
    refine jw_isub dX12_fileAt_38 ?_
    obtain ⟨w6, h5, ew6, hq⟩ := jw_b2_spec hq
    refine jw_callS (As := [.int x1, .int (x2 - (1 : Int32))]) (S := [.ref x0]) (v := some (.int w6)) dX12_fileAt_39 mt_X12_fileRow st_X12_fileRow lk_X12_394 (c_X12_fileRow ew6) rfl (by decide) (Nat.le_of_ble_eq_true rfl) rfl ?_
    refine jw_iload_n dX12_fileAt_42 rfl ?_
    obtain ⟨a7, ea7, hq⟩ := Option.bind_eq_some_iff.mp hq
    obtain ⟨eoa7, eta7⟩ := jw_rc_spec ea7
    obtain ⟨w9, h8, ew9, hq⟩ := jw_b2_spec hq
    refine jw_callV (As := [.int w6, .int x3]) (S := []) (a := a7) (v := some (.int w9)) dX12_fileAt_43 mt_X12_sign in_X12_sign se_X12_sign lk_X12_113 (c_X12_sign ew9) eta7 (by decide) rfl rfl (by decide) (Nat.le_of_ble_eq_true rfl) (by cases eoa7; rfl) ?_
    refine jw_goto (tgt := 50) dX12_fileAt_46 (by decide) ?_
    refine jw_forget [false, false, false, false, true] (L' := [none, none, none, none, none]) rfl ?_
    exact l_X12_fileAt_b50  hq

set_option maxRecDepth 100000 in
set_option maxHeartbeats 4000000 in
theorem l_X12_fileAt {hi : jw_H} {h : jw_H} {x0 : Nat} {x1 : Int32} {x2 : Int32} {x3 : Int32} {r : Int32} {h' : jw_H} (hq : f_X12_fileAt  h x0 x1 x2 x3 = some (r, h')) : jw_E 2 uX12_fileAt hi 0 [some (.ref x0), some (.int x1), some (.int x2), some (.int x3), none] [] h (.inl (some (.int r))) h' := by
  unfold f_X12_fileAt at hq
  refine jw_aload_n dX12_fileAt_0 (o := (some x0)) rfl ?_
  refine jw_iload_n dX12_fileAt_1 rfl ?_
  refine jw_iload_n dX12_fileAt_2 rfl ?_
  obtain ⟨a1, ea1, hq⟩ := Option.bind_eq_some_iff.mp hq
  obtain ⟨eoa1, eta1⟩ := jw_rc_spec ea1
  obtain ⟨w3, h2, ew3, hq⟩ := jw_b2_spec hq
  refine jw_callV (As := [.int x1, .int x2]) (S := []) (a := a1) (v := some (.int w3)) dX12_fileAt_3 mt_X12_isFileRow in_X12_isFileRow se_X12_isFileRow lk_X12_722 (c_X12_isFileRow ew3) eta1 (by decide) rfl rfl (by decide) (Nat.le_of_ble_eq_true rfl) (by cases eoa1; rfl) ?_
  refine jw_istore (L' := [some (.ref x0), some (.int x1), some (.int x2), some (.int x3), some (.int w3)]) dX12_fileAt_6 (Nat.le_of_ble_eq_true rfl) rfl ?_
  refine jw_aload_n dX12_fileAt_8 (o := (some x0)) rfl ?_
  refine jw_iload dX12_fileAt_9 rfl ?_
  refine jw_iload dX12_fileAt_11 rfl ?_
  rcases jw_if hq with ⟨c4, hq⟩ | ⟨c4, hq⟩
  · refine jw_if_eq_t (tgt := 26) dX12_fileAt_13 (by decide) c4 ?_
    refine jw_iconst dX12_fileAt_26 (v := (0 : Int32)) (by decide) ?_
    refine jw_forget [true, true, true, true, false] (L' := [some (.ref x0), some (.int x1), some (.int x2), some (.int x3), none]) rfl ?_
    exact l_X12_fileAt_b27  hq
  · refine jw_if_eq_f (tgt := 26) dX12_fileAt_13 (by decide) c4 ?_
    refine jw_iload_n dX12_fileAt_16 rfl ?_
    refine jw_iload_n dX12_fileAt_17 rfl ?_
    refine jw_iconst dX12_fileAt_18 (v := (1 : Int32)) (by decide) ?_
    refine jw_isub dX12_fileAt_19 ?_
    obtain ⟨w6, h5, ew6, hq⟩ := jw_b2_spec hq
    refine jw_callS (As := [.int x1, .int (x2 - (1 : Int32))]) (S := [.int w3, .ref x0]) (v := some (.int w6)) dX12_fileAt_20 mt_X12_fileRow st_X12_fileRow lk_X12_394 (c_X12_fileRow ew6) rfl (by decide) (Nat.le_of_ble_eq_true rfl) rfl ?_
    refine jw_goto (tgt := 27) dX12_fileAt_23 (by decide) ?_
    refine jw_forget [true, true, true, true, false] (L' := [some (.ref x0), some (.int x1), some (.int x2), some (.int x3), none]) rfl ?_
    exact l_X12_fileAt_b27  hq

theorem c_X12_fileAt {h : jw_H} {x0 : Nat} {x1 : Int32} {x2 : Int32} {x3 : Int32} {r : Int32} {h' : jw_H} (hq : f_X12_fileAt h x0 x1 x2 x3 = some (r, h')) : jw_Con (Cond.code yX12_fileAt cX12_fileAt 5 (some .int)) yX12_fileAt 2 [.ref x0, .int x1, .int x2, .int x3] h (.inl (some (.int r))) h' :=
  jw_con false (plainFor_of_name (by decide +kernel)) (fun z => nomatch z) (by simp [jw_ent, jw_sl0_nil, jw_sl0_int, jw_sl0_long, jw_sl0_ref, jw_sl0_rf, jw_sl0_scr, List.replicate]) (by simp [jw_sl0_nil, jw_sl0_int, jw_sl0_long, jw_sl0_ref, jw_sl0_rf, jw_sl0_scr]) (l_X12_fileAt hq)


/-! X12_find -/
noncomputable def g_X12_find_b50 (h : jw_H) (t0 : Int32) : Option (Int32 × jw_H) :=
 some (t0, h)

noncomputable def g_X12_find_b17 (h : jw_H) (x0 : Nat) (x1 : Int32) (t0 : Nat) (t1 : Int32) : Option (Int32 × jw_H) :=
 (jw_pI h 12 (some t0) 0 t1).bind fun h1 =>
 (jw_gI h1 12 (some x0) 0).bind fun v2 =>
 if v2 ≤ 0 then ((jw_rc h1 12 (some x0)).bind fun a4 =>
 jw_b2 (f_X12_compile h1 a4 (0 : Int32) (0 : Int32)) fun w6 h5 =>
 (jw_rc h5 12 (some x0)).bind fun a7 =>
 jw_b2 (f_X12_seek h5 a7 x1) fun w9 h8 =>
 if w9 ≤ 0 then (g_X12_find_b50  h8 (-1 : Int32))
 else (g_X12_find_b50  h8 w9))
 else (some ((0 : Int32), h1))

noncomputable def f_X12_find (h : jw_H) (x0 : Nat) (x1 : Int32) : Option (Int32 × jw_H) :=
 (jw_rc h 12 (some x0)).bind fun a1 =>
 jw_b2 (f_X12_loadTape h a1) fun w3 h2 =>
 (jw_rc h2 12 (some x0)).bind fun a4 =>
 jw_b2 (f_X12_patternsFault h2 a4) fun w6 h5 =>
 if w6 < 0 then (g_X12_find_b17  h5 x0 x1 x0 (0 : Int32))
 else (g_X12_find_b17  h5 x0 x1 x0 (1 : Int32))

set_option maxRecDepth 100000 in
set_option maxHeartbeats 4000000 in
theorem l_X12_find_b50 {hi : jw_H} {h : jw_H} {t0 : Int32} {r : Int32} {h' : jw_H} (hq : g_X12_find_b50  h t0 = some (r, h')) : jw_E 8 uX12_find hi 50 [none, none, none] [.int t0] h (.inl (some (.int r))) h' := by
  unfold g_X12_find_b50 at hq
  cases hq
  exact jw_iret (ty := .int) dX12_find_50 rfl rfl

set_option maxRecDepth 100000 in
set_option maxHeartbeats 4000000 in
theorem l_X12_find_b17 {hi : jw_H} {h : jw_H} {x0 : Nat} {x1 : Int32} {t0 : Nat} {t1 : Int32} {r : Int32} {h' : jw_H} (hq : g_X12_find_b17  h x0 x1 t0 t1 = some (r, h')) : jw_E 8 uX12_find hi 17 [some (.ref x0), some (.int x1), none] [.int t1, .ref t0] h (.inl (some (.int r))) h' := by
  unfold g_X12_find_b17 at hq
  obtain ⟨h1, eh1, hq⟩ := Option.bind_eq_some_iff.mp hq
  refine jw_putI (o := (some t0)) dX12_find_17 eh1 fl_X12_105 rfl rfl ?_
  refine jw_aload_n dX12_find_20 (o := (some x0)) rfl ?_
  obtain ⟨v2, ev2, hq⟩ := Option.bind_eq_some_iff.mp hq
  refine jw_getI (o := (some x0)) dX12_find_21 ev2 fl_X12_105 rfl ?_
  rcases jw_if hq with ⟨c3, hq⟩ | ⟨c3, hq⟩
  · refine jw_if_le_t (tgt := 29) dX12_find_24 (by decide) c3 ?_
    refine jw_aload_n dX12_find_29 (o := (some x0)) rfl ?_
    refine jw_iconst dX12_find_30 (v := (0 : Int32)) (by decide) ?_
    refine jw_iconst dX12_find_31 (v := (0 : Int32)) (by decide) ?_
    obtain ⟨a4, ea4, hq⟩ := Option.bind_eq_some_iff.mp hq
    obtain ⟨eoa4, eta4⟩ := jw_rc_spec ea4
    obtain ⟨w6, h5, ew6, hq⟩ := jw_b2_spec hq
    refine jw_callV (As := [.int (0 : Int32), .int (0 : Int32)]) (S := []) (a := a4) (v := none) dX12_find_32 mt_X12_compile in_X12_compile se_X12_compile lk_X12_310 (c_X12_compile ew6) eta4 (by decide) rfl rfl (by decide) (Nat.le_of_ble_eq_true rfl) (by cases eoa4; rfl) ?_
    refine jw_aload_n dX12_find_35 (o := (some x0)) rfl ?_
    refine jw_iload_n dX12_find_36 rfl ?_
    obtain ⟨a7, ea7, hq⟩ := Option.bind_eq_some_iff.mp hq
    obtain ⟨eoa7, eta7⟩ := jw_rc_spec ea7
    obtain ⟨w9, h8, ew9, hq⟩ := jw_b2_spec hq
    refine jw_callV (As := [.int x1]) (S := []) (a := a7) (v := some (.int w9)) dX12_find_37 mt_X12_seek in_X12_seek se_X12_seek lk_X12_313 (c_X12_seek ew9) eta7 (by decide) rfl rfl (by decide) (Nat.le_of_ble_eq_true rfl) (by cases eoa7; rfl) ?_
    refine jw_istore_n (L' := [some (.ref x0), some (.int x1), some (.int w9)]) dX12_find_40 (Nat.le_of_ble_eq_true rfl) rfl ?_
    refine jw_iload_n dX12_find_41 rfl ?_
    rcases jw_if hq with ⟨c10, hq⟩ | ⟨c10, hq⟩
    · refine jw_if_le_t (tgt := 49) dX12_find_42 (by decide) c10 ?_
      refine jw_iconst dX12_find_49 (v := (-1 : Int32)) (by decide) ?_
      refine jw_forget [false, false, false] (L' := [none, none, none]) rfl ?_
      exact l_X12_find_b50  hq
    · refine jw_if_le_f (tgt := 49) dX12_find_42 (by decide) c10 ?_
      refine jw_iload_n dX12_find_45 rfl ?_
      refine jw_goto (tgt := 50) dX12_find_46 (by decide) ?_
      refine jw_forget [false, false, false] (L' := [none, none, none]) rfl ?_
      exact l_X12_find_b50  hq
  · refine jw_if_le_f (tgt := 29) dX12_find_24 (by decide) c3 ?_
    refine jw_iconst dX12_find_27 (v := (0 : Int32)) (by decide) ?_
    cases hq
    exact jw_iret (ty := .int) dX12_find_28 rfl rfl

set_option maxRecDepth 100000 in
set_option maxHeartbeats 4000000 in
theorem l_X12_find {hi : jw_H} {h : jw_H} {x0 : Nat} {x1 : Int32} {r : Int32} {h' : jw_H} (hq : f_X12_find  h x0 x1 = some (r, h')) : jw_E 8 uX12_find hi 0 [some (.ref x0), some (.int x1), none] [] h (.inl (some (.int r))) h' := by
  unfold f_X12_find at hq
  refine jw_aload_n dX12_find_0 (o := (some x0)) rfl ?_
  obtain ⟨a1, ea1, hq⟩ := Option.bind_eq_some_iff.mp hq
  obtain ⟨eoa1, eta1⟩ := jw_rc_spec ea1
  obtain ⟨w3, h2, ew3, hq⟩ := jw_b2_spec hq
  refine jw_callV (As := []) (S := []) (a := a1) (v := none) dX12_find_1 mt_X12_loadTape in_X12_loadTape se_X12_loadTape lk_X12_679 (c_X12_loadTape ew3) eta1 (by decide) rfl rfl (by decide) (Nat.le_of_ble_eq_true rfl) (by cases eoa1; rfl) ?_
  refine jw_aload_n dX12_find_4 (o := (some x0)) rfl ?_
  refine jw_aload_n dX12_find_5 (o := (some x0)) rfl ?_
  obtain ⟨a4, ea4, hq⟩ := Option.bind_eq_some_iff.mp hq
  obtain ⟨eoa4, eta4⟩ := jw_rc_spec ea4
  obtain ⟨w6, h5, ew6, hq⟩ := jw_b2_spec hq
  refine jw_callV (As := []) (S := [.ref x0]) (a := a4) (v := some (.int w6)) dX12_find_6 mt_X12_patternsFault in_X12_patternsFault se_X12_patternsFault lk_X12_685 (c_X12_patternsFault ew6) eta4 (by decide) rfl rfl (by decide) (Nat.le_of_ble_eq_true rfl) (by cases eoa4; rfl) ?_
  rcases jw_if hq with ⟨c7, hq⟩ | ⟨c7, hq⟩
  · refine jw_if_lt_t (tgt := 16) dX12_find_9 (by decide) c7 ?_
    refine jw_iconst dX12_find_16 (v := (0 : Int32)) (by decide) ?_
    exact l_X12_find_b17  hq
  · refine jw_if_lt_f (tgt := 16) dX12_find_9 (by decide) c7 ?_
    refine jw_iconst dX12_find_12 (v := (1 : Int32)) (by decide) ?_
    refine jw_goto (tgt := 17) dX12_find_13 (by decide) ?_
    exact l_X12_find_b17  hq

theorem c_X12_find {h : jw_H} {x0 : Nat} {x1 : Int32} {r : Int32} {h' : jw_H} (hq : f_X12_find h x0 x1 = some (r, h')) : jw_Con (Cond.code yX12_find cX12_find 3 (some .int)) yX12_find 8 [.ref x0, .int x1] h (.inl (some (.int r))) h' :=
  jw_con false (plainFor_of_name (by decide +kernel)) (fun z => nomatch z) (by simp [jw_ent, jw_sl0_nil, jw_sl0_int, jw_sl0_long, jw_sl0_ref, jw_sl0_rf, jw_sl0_scr, List.replicate]) (by simp [jw_sl0_nil, jw_sl0_int, jw_sl0_long, jw_sl0_ref, jw_sl0_rf, jw_sl0_scr]) (l_X12_find hq)


/-! X12_looks -/
noncomputable def g_X12_looks_b29 (h : jw_H) (x0 : Nat) (x1 : Int32) (t0 : Nat) (t1 : Int32) : Option (Int32 × jw_H) :=
 (jw_pI h 12 (some t0) 0 t1).bind fun h1 =>
 (jw_gI h1 12 (some x0) 0).bind fun v2 =>
 if v2 ≤ 0 then ((jw_rc h1 12 (some x0)).bind fun a4 =>
 jw_b2 (f_X12_compile h1 a4 (0 : Int32) (0 : Int32)) fun w6 h5 =>
 jw_b2 (f_X12_textRow h5 x1) fun w8 h7 =>
 (jw_rc h7 12 (some x0)).bind fun a9 =>
 jw_b2 (f_X12_finds h7 a9 w8 (0 : Int32)) fun w11 h10 =>
 (jw_rb w11).bind fun v12 =>
 some (w11, h10))
 else (some ((0 : Int32), h1))

noncomputable def f_X12_looks (h : jw_H) (x0 : Nat) (x1 : Int32) : Option (Int32 × jw_H) :=
 (jw_rc h 12 (some x0)).bind fun a1 =>
 jw_b2 (f_X12_loadTape h a1) fun w3 h2 =>
 (jw_rc h2 12 (some x0)).bind fun a4 =>
 jw_b2 (f_X12_isLine h2 a4 x1) fun w6 h5 =>
 if w6 = 0 then (g_X12_looks_b29  h5 x0 x1 x0 (1 : Int32))
 else ((jw_rc h5 12 (some x0)).bind fun a8 =>
 jw_b2 (f_X12_patternsFault h5 a8) fun w10 h9 =>
 if w10 < 0 then (g_X12_looks_b29  h9 x0 x1 x0 (0 : Int32))
 else (g_X12_looks_b29  h9 x0 x1 x0 (2 : Int32)))

set_option maxRecDepth 100000 in
set_option maxHeartbeats 4000000 in
theorem l_X12_looks_b29 {hi : jw_H} {h : jw_H} {x0 : Nat} {x1 : Int32} {t0 : Nat} {t1 : Int32} {r : Int32} {h' : jw_H} (hq : g_X12_looks_b29  h x0 x1 t0 t1 = some (r, h')) : jw_E 8 uX12_looks hi 29 [some (.ref x0), some (.int x1)] [.int t1, .ref t0] h (.inl (some (.int r))) h' := by
  unfold g_X12_looks_b29 at hq
  obtain ⟨h1, eh1, hq⟩ := Option.bind_eq_some_iff.mp hq
  refine jw_putI (o := (some t0)) dX12_looks_29 eh1 fl_X12_105 rfl rfl ?_
  refine jw_aload_n dX12_looks_32 (o := (some x0)) rfl ?_
  obtain ⟨v2, ev2, hq⟩ := Option.bind_eq_some_iff.mp hq
  refine jw_getI (o := (some x0)) dX12_looks_33 ev2 fl_X12_105 rfl ?_
  rcases jw_if hq with ⟨c3, hq⟩ | ⟨c3, hq⟩
  · refine jw_if_le_t (tgt := 41) dX12_looks_36 (by decide) c3 ?_
    refine jw_aload_n dX12_looks_41 (o := (some x0)) rfl ?_
    refine jw_iconst dX12_looks_42 (v := (0 : Int32)) (by decide) ?_
    refine jw_iconst dX12_looks_43 (v := (0 : Int32)) (by decide) ?_
    obtain ⟨a4, ea4, hq⟩ := Option.bind_eq_some_iff.mp hq
    obtain ⟨eoa4, eta4⟩ := jw_rc_spec ea4
    obtain ⟨w6, h5, ew6, hq⟩ := jw_b2_spec hq
    refine jw_callV (As := [.int (0 : Int32), .int (0 : Int32)]) (S := []) (a := a4) (v := none) dX12_looks_44 mt_X12_compile in_X12_compile se_X12_compile lk_X12_310 (c_X12_compile ew6) eta4 (by decide) rfl rfl (by decide) (Nat.le_of_ble_eq_true rfl) (by cases eoa4; rfl) ?_
    refine jw_aload_n dX12_looks_47 (o := (some x0)) rfl ?_
    refine jw_iload_n dX12_looks_48 rfl ?_
    obtain ⟨w8, h7, ew8, hq⟩ := jw_b2_spec hq
    refine jw_callS (As := [.int x1]) (S := [.ref x0]) (v := some (.int w8)) dX12_looks_49 mt_X12_textRow st_X12_textRow lk_X12_298 (c_X12_textRow ew8) rfl (by decide) (Nat.le_of_ble_eq_true rfl) rfl ?_
    refine jw_iconst dX12_looks_52 (v := (0 : Int32)) (by decide) ?_
    obtain ⟨a9, ea9, hq⟩ := Option.bind_eq_some_iff.mp hq
    obtain ⟨eoa9, eta9⟩ := jw_rc_spec ea9
    obtain ⟨w11, h10, ew11, hq⟩ := jw_b2_spec hq
    refine jw_callV (As := [.int w8, .int (0 : Int32)]) (S := []) (a := a9) (v := some (.int w11)) dX12_looks_53 mt_X12_finds in_X12_finds se_X12_finds lk_X12_292 (c_X12_finds ew11) eta9 (by decide) rfl rfl (by decide) (Nat.le_of_ble_eq_true rfl) (by cases eoa9; rfl) ?_
    obtain ⟨v12, ev12, hq⟩ := Option.bind_eq_some_iff.mp hq
    cases hq
    exact jw_iret (ty := .boolean) dX12_looks_56 rfl (jw_rb_spec ev12)
  · refine jw_if_le_f (tgt := 41) dX12_looks_36 (by decide) c3 ?_
    refine jw_iconst dX12_looks_39 (v := (0 : Int32)) (by decide) ?_
    cases hq
    exact jw_iret (ty := .boolean) dX12_looks_40 rfl rfl

set_option maxRecDepth 100000 in
set_option maxHeartbeats 4000000 in
theorem l_X12_looks {hi : jw_H} {h : jw_H} {x0 : Nat} {x1 : Int32} {r : Int32} {h' : jw_H} (hq : f_X12_looks  h x0 x1 = some (r, h')) : jw_E 8 uX12_looks hi 0 [some (.ref x0), some (.int x1)] [] h (.inl (some (.int r))) h' := by
  unfold f_X12_looks at hq
  refine jw_aload_n dX12_looks_0 (o := (some x0)) rfl ?_
  obtain ⟨a1, ea1, hq⟩ := Option.bind_eq_some_iff.mp hq
  obtain ⟨eoa1, eta1⟩ := jw_rc_spec ea1
  obtain ⟨w3, h2, ew3, hq⟩ := jw_b2_spec hq
  refine jw_callV (As := []) (S := []) (a := a1) (v := none) dX12_looks_1 mt_X12_loadTape in_X12_loadTape se_X12_loadTape lk_X12_679 (c_X12_loadTape ew3) eta1 (by decide) rfl rfl (by decide) (Nat.le_of_ble_eq_true rfl) (by cases eoa1; rfl) ?_
  refine jw_aload_n dX12_looks_4 (o := (some x0)) rfl ?_
  refine jw_aload_n dX12_looks_5 (o := (some x0)) rfl ?_
  refine jw_iload_n dX12_looks_6 rfl ?_
  obtain ⟨a4, ea4, hq⟩ := Option.bind_eq_some_iff.mp hq
  obtain ⟨eoa4, eta4⟩ := jw_rc_spec ea4
  obtain ⟨w6, h5, ew6, hq⟩ := jw_b2_spec hq
  refine jw_callV (As := [.int x1]) (S := [.ref x0]) (a := a4) (v := some (.int w6)) dX12_looks_7 mt_X12_isLine in_X12_isLine se_X12_isLine lk_X12_703 (c_X12_isLine ew6) eta4 (by decide) rfl rfl (by decide) (Nat.le_of_ble_eq_true rfl) (by cases eoa4; rfl) ?_
  rcases jw_if hq with ⟨c7, hq⟩ | ⟨c7, hq⟩
  · refine jw_if_ne_f (tgt := 17) dX12_looks_10 (by decide) c7 ?_
    refine jw_iconst dX12_looks_13 (v := (1 : Int32)) (by decide) ?_
    refine jw_goto (tgt := 29) dX12_looks_14 (by decide) ?_
    exact l_X12_looks_b29  hq
  · refine jw_if_ne_t (tgt := 17) dX12_looks_10 (by decide) c7 ?_
    refine jw_aload_n dX12_looks_17 (o := (some x0)) rfl ?_
    obtain ⟨a8, ea8, hq⟩ := Option.bind_eq_some_iff.mp hq
    obtain ⟨eoa8, eta8⟩ := jw_rc_spec ea8
    obtain ⟨w10, h9, ew10, hq⟩ := jw_b2_spec hq
    refine jw_callV (As := []) (S := [.ref x0]) (a := a8) (v := some (.int w10)) dX12_looks_18 mt_X12_patternsFault in_X12_patternsFault se_X12_patternsFault lk_X12_685 (c_X12_patternsFault ew10) eta8 (by decide) rfl rfl (by decide) (Nat.le_of_ble_eq_true rfl) (by cases eoa8; rfl) ?_
    rcases jw_if hq with ⟨c11, hq⟩ | ⟨c11, hq⟩
    · refine jw_if_lt_t (tgt := 28) dX12_looks_21 (by decide) c11 ?_
      refine jw_iconst dX12_looks_28 (v := (0 : Int32)) (by decide) ?_
      exact l_X12_looks_b29  hq
    · refine jw_if_lt_f (tgt := 28) dX12_looks_21 (by decide) c11 ?_
      refine jw_iconst dX12_looks_24 (v := (2 : Int32)) (by decide) ?_
      refine jw_goto (tgt := 29) dX12_looks_25 (by decide) ?_
      exact l_X12_looks_b29  hq

theorem c_X12_looks {h : jw_H} {x0 : Nat} {x1 : Int32} {r : Int32} {h' : jw_H} (hq : f_X12_looks h x0 x1 = some (r, h')) : jw_Con (Cond.code yX12_looks cX12_looks 2 (some .boolean)) yX12_looks 8 [.ref x0, .int x1] h (.inl (some (.int r))) h' :=
  jw_con false (plainFor_of_name (by decide +kernel)) (fun z => nomatch z) (by simp [jw_ent, jw_sl0_nil, jw_sl0_int, jw_sl0_long, jw_sl0_ref, jw_sl0_rf, jw_sl0_scr, List.replicate]) (by simp [jw_sl0_nil, jw_sl0_int, jw_sl0_long, jw_sl0_ref, jw_sl0_rf, jw_sl0_scr]) (l_X12_looks hq)


/-! X12_findStart -/
noncomputable def g_X12_findStart_b29 (h : jw_H) (t0 : Int32) : Option (Int32 × jw_H) :=
 some (t0, h)

noncomputable def f_X12_findStart (h : jw_H) (x0 : Nat) (x1 : Int32) : Option (Int32 × jw_H) :=
 (jw_rc h 12 (some x0)).bind fun a1 =>
 jw_b2 (f_X12_looks h a1 x1) fun w3 h2 =>
 (jw_gI h2 12 (some x0) 0).bind fun v4 =>
 if v4 ≤ 0 then (if w3 = 0 then (g_X12_findStart_b29  h2 (-1 : Int32))
 else ((jw_gI h2 12 (some x0) 40).bind fun v7 =>
 g_X12_findStart_b29  h2 v7))
 else (g_X12_findStart_b29  h2 (0 : Int32))

set_option maxRecDepth 100000 in
set_option maxHeartbeats 4000000 in
theorem l_X12_findStart_b29 {hi : jw_H} {h : jw_H} {t0 : Int32} {r : Int32} {h' : jw_H} (hq : g_X12_findStart_b29  h t0 = some (r, h')) : jw_E 9 uX12_findStart hi 29 [none, none, none] [.int t0] h (.inl (some (.int r))) h' := by
  unfold g_X12_findStart_b29 at hq
  cases hq
  exact jw_iret (ty := .int) dX12_findStart_29 rfl rfl

set_option maxRecDepth 100000 in
set_option maxHeartbeats 4000000 in
theorem l_X12_findStart {hi : jw_H} {h : jw_H} {x0 : Nat} {x1 : Int32} {r : Int32} {h' : jw_H} (hq : f_X12_findStart  h x0 x1 = some (r, h')) : jw_E 9 uX12_findStart hi 0 [some (.ref x0), some (.int x1), none] [] h (.inl (some (.int r))) h' := by
  unfold f_X12_findStart at hq
  refine jw_aload_n dX12_findStart_0 (o := (some x0)) rfl ?_
  refine jw_iload_n dX12_findStart_1 rfl ?_
  obtain ⟨a1, ea1, hq⟩ := Option.bind_eq_some_iff.mp hq
  obtain ⟨eoa1, eta1⟩ := jw_rc_spec ea1
  obtain ⟨w3, h2, ew3, hq⟩ := jw_b2_spec hq
  refine jw_callV (As := [.int x1]) (S := []) (a := a1) (v := some (.int w3)) dX12_findStart_2 mt_X12_looks in_X12_looks se_X12_looks lk_X12_725 (c_X12_looks ew3) eta1 (by decide) rfl rfl (by decide) (Nat.le_of_ble_eq_true rfl) (by cases eoa1; rfl) ?_
  refine jw_istore_n (L' := [some (.ref x0), some (.int x1), some (.int w3)]) dX12_findStart_5 (Nat.le_of_ble_eq_true rfl) rfl ?_
  refine jw_aload_n dX12_findStart_6 (o := (some x0)) rfl ?_
  obtain ⟨v4, ev4, hq⟩ := Option.bind_eq_some_iff.mp hq
  refine jw_getI (o := (some x0)) dX12_findStart_7 ev4 fl_X12_105 rfl ?_
  rcases jw_if hq with ⟨c5, hq⟩ | ⟨c5, hq⟩
  · refine jw_if_le_t (tgt := 17) dX12_findStart_10 (by decide) c5 ?_
    refine jw_iload_n dX12_findStart_17 rfl ?_
    rcases jw_if hq with ⟨c6, hq⟩ | ⟨c6, hq⟩
    · refine jw_if_eq_t (tgt := 28) dX12_findStart_18 (by decide) c6 ?_
      refine jw_iconst dX12_findStart_28 (v := (-1 : Int32)) (by decide) ?_
      refine jw_forget [false, false, false] (L' := [none, none, none]) rfl ?_
      exact l_X12_findStart_b29  hq
    · refine jw_if_eq_f (tgt := 28) dX12_findStart_18 (by decide) c6 ?_
      refine jw_aload_n dX12_findStart_21 (o := (some x0)) rfl ?_
      obtain ⟨v7, ev7, hq⟩ := Option.bind_eq_some_iff.mp hq
      refine jw_getI (o := (some x0)) dX12_findStart_22 ev7 fl_X12_289 rfl ?_
      refine jw_goto (tgt := 29) dX12_findStart_25 (by decide) ?_
      refine jw_forget [false, false, false] (L' := [none, none, none]) rfl ?_
      exact l_X12_findStart_b29  hq
  · refine jw_if_le_f (tgt := 17) dX12_findStart_10 (by decide) c5 ?_
    refine jw_iconst dX12_findStart_13 (v := (0 : Int32)) (by decide) ?_
    refine jw_goto (tgt := 29) dX12_findStart_14 (by decide) ?_
    refine jw_forget [false, false, false] (L' := [none, none, none]) rfl ?_
    exact l_X12_findStart_b29  hq

theorem c_X12_findStart {h : jw_H} {x0 : Nat} {x1 : Int32} {r : Int32} {h' : jw_H} (hq : f_X12_findStart h x0 x1 = some (r, h')) : jw_Con (Cond.code yX12_findStart cX12_findStart 3 (some .int)) yX12_findStart 9 [.ref x0, .int x1] h (.inl (some (.int r))) h' :=
  jw_con false (plainFor_of_name (by decide +kernel)) (fun z => nomatch z) (by simp [jw_ent, jw_sl0_nil, jw_sl0_int, jw_sl0_long, jw_sl0_ref, jw_sl0_rf, jw_sl0_scr, List.replicate]) (by simp [jw_sl0_nil, jw_sl0_int, jw_sl0_long, jw_sl0_ref, jw_sl0_rf, jw_sl0_scr]) (l_X12_findStart hq)


/-! X12_findEnd -/
noncomputable def g_X12_findEnd_b29 (h : jw_H) (t0 : Int32) : Option (Int32 × jw_H) :=
 some (t0, h)

noncomputable def f_X12_findEnd (h : jw_H) (x0 : Nat) (x1 : Int32) : Option (Int32 × jw_H) :=
 (jw_rc h 12 (some x0)).bind fun a1 =>
 jw_b2 (f_X12_looks h a1 x1) fun w3 h2 =>
 (jw_gI h2 12 (some x0) 0).bind fun v4 =>
 if v4 ≤ 0 then (if w3 = 0 then (g_X12_findEnd_b29  h2 (-1 : Int32))
 else ((jw_gI h2 12 (some x0) 41).bind fun v7 =>
 g_X12_findEnd_b29  h2 v7))
 else (g_X12_findEnd_b29  h2 (0 : Int32))

set_option maxRecDepth 100000 in
set_option maxHeartbeats 4000000 in
theorem l_X12_findEnd_b29 {hi : jw_H} {h : jw_H} {t0 : Int32} {r : Int32} {h' : jw_H} (hq : g_X12_findEnd_b29  h t0 = some (r, h')) : jw_E 9 uX12_findEnd hi 29 [none, none, none] [.int t0] h (.inl (some (.int r))) h' := by
  unfold g_X12_findEnd_b29 at hq
  cases hq
  exact jw_iret (ty := .int) dX12_findEnd_29 rfl rfl

set_option maxRecDepth 100000 in
set_option maxHeartbeats 4000000 in
theorem l_X12_findEnd {hi : jw_H} {h : jw_H} {x0 : Nat} {x1 : Int32} {r : Int32} {h' : jw_H} (hq : f_X12_findEnd  h x0 x1 = some (r, h')) : jw_E 9 uX12_findEnd hi 0 [some (.ref x0), some (.int x1), none] [] h (.inl (some (.int r))) h' := by
  unfold f_X12_findEnd at hq
  refine jw_aload_n dX12_findEnd_0 (o := (some x0)) rfl ?_
  refine jw_iload_n dX12_findEnd_1 rfl ?_
  obtain ⟨a1, ea1, hq⟩ := Option.bind_eq_some_iff.mp hq
  obtain ⟨eoa1, eta1⟩ := jw_rc_spec ea1
  obtain ⟨w3, h2, ew3, hq⟩ := jw_b2_spec hq
  refine jw_callV (As := [.int x1]) (S := []) (a := a1) (v := some (.int w3)) dX12_findEnd_2 mt_X12_looks in_X12_looks se_X12_looks lk_X12_725 (c_X12_looks ew3) eta1 (by decide) rfl rfl (by decide) (Nat.le_of_ble_eq_true rfl) (by cases eoa1; rfl) ?_
  refine jw_istore_n (L' := [some (.ref x0), some (.int x1), some (.int w3)]) dX12_findEnd_5 (Nat.le_of_ble_eq_true rfl) rfl ?_
  refine jw_aload_n dX12_findEnd_6 (o := (some x0)) rfl ?_
  obtain ⟨v4, ev4, hq⟩ := Option.bind_eq_some_iff.mp hq
  refine jw_getI (o := (some x0)) dX12_findEnd_7 ev4 fl_X12_105 rfl ?_
  rcases jw_if hq with ⟨c5, hq⟩ | ⟨c5, hq⟩
  · refine jw_if_le_t (tgt := 17) dX12_findEnd_10 (by decide) c5 ?_
    refine jw_iload_n dX12_findEnd_17 rfl ?_
    rcases jw_if hq with ⟨c6, hq⟩ | ⟨c6, hq⟩
    · refine jw_if_eq_t (tgt := 28) dX12_findEnd_18 (by decide) c6 ?_
      refine jw_iconst dX12_findEnd_28 (v := (-1 : Int32)) (by decide) ?_
      refine jw_forget [false, false, false] (L' := [none, none, none]) rfl ?_
      exact l_X12_findEnd_b29  hq
    · refine jw_if_eq_f (tgt := 28) dX12_findEnd_18 (by decide) c6 ?_
      refine jw_aload_n dX12_findEnd_21 (o := (some x0)) rfl ?_
      obtain ⟨v7, ev7, hq⟩ := Option.bind_eq_some_iff.mp hq
      refine jw_getI (o := (some x0)) dX12_findEnd_22 ev7 fl_X12_279 rfl ?_
      refine jw_goto (tgt := 29) dX12_findEnd_25 (by decide) ?_
      refine jw_forget [false, false, false] (L' := [none, none, none]) rfl ?_
      exact l_X12_findEnd_b29  hq
  · refine jw_if_le_f (tgt := 17) dX12_findEnd_10 (by decide) c5 ?_
    refine jw_iconst dX12_findEnd_13 (v := (0 : Int32)) (by decide) ?_
    refine jw_goto (tgt := 29) dX12_findEnd_14 (by decide) ?_
    refine jw_forget [false, false, false] (L' := [none, none, none]) rfl ?_
    exact l_X12_findEnd_b29  hq

theorem c_X12_findEnd {h : jw_H} {x0 : Nat} {x1 : Int32} {r : Int32} {h' : jw_H} (hq : f_X12_findEnd h x0 x1 = some (r, h')) : jw_Con (Cond.code yX12_findEnd cX12_findEnd 3 (some .int)) yX12_findEnd 9 [.ref x0, .int x1] h (.inl (some (.int r))) h' :=
  jw_con false (plainFor_of_name (by decide +kernel)) (fun z => nomatch z) (by simp [jw_ent, jw_sl0_nil, jw_sl0_int, jw_sl0_long, jw_sl0_ref, jw_sl0_rf, jw_sl0_scr, List.replicate]) (by simp [jw_sl0_nil, jw_sl0_int, jw_sl0_long, jw_sl0_ref, jw_sl0_rf, jw_sl0_scr]) (l_X12_findEnd hq)


/-! X12_larger -/
noncomputable def g_X12_larger_b10 (h : jw_H) (t0 : Int32) : Option (Int32 × jw_H) :=
 some (t0, h)

noncomputable def f_X12_larger (h : jw_H) (x0 : Int32) (x1 : Int32) : Option (Int32 × jw_H) :=
 if x0 ≤ x1 then (g_X12_larger_b10  h x1)
 else (g_X12_larger_b10  h x0)

set_option maxRecDepth 100000 in
set_option maxHeartbeats 4000000 in
theorem l_X12_larger_b10 {hi : jw_H} {h : jw_H} {t0 : Int32} {r : Int32} {h' : jw_H} (hq : g_X12_larger_b10  h t0 = some (r, h')) : jw_E 0 uX12_larger hi 10 [none, none] [.int t0] h (.inl (some (.int r))) h' := by
  unfold g_X12_larger_b10 at hq
  cases hq
  exact jw_iret (ty := .int) dX12_larger_10 rfl rfl

set_option maxRecDepth 100000 in
set_option maxHeartbeats 4000000 in
theorem l_X12_larger {hi : jw_H} {h : jw_H} {x0 : Int32} {x1 : Int32} {r : Int32} {h' : jw_H} (hq : f_X12_larger  h x0 x1 = some (r, h')) : jw_E 0 uX12_larger hi 0 [some (.int x0), some (.int x1)] [] h (.inl (some (.int r))) h' := by
  unfold f_X12_larger at hq
  refine jw_iload_n dX12_larger_0 rfl ?_
  refine jw_iload_n dX12_larger_1 rfl ?_
  rcases jw_if hq with ⟨c1, hq⟩ | ⟨c1, hq⟩
  · refine jw_icmp_le_t (tgt := 9) dX12_larger_2 (by decide) c1 ?_
    refine jw_iload_n dX12_larger_9 rfl ?_
    refine jw_forget [false, false] (L' := [none, none]) rfl ?_
    exact l_X12_larger_b10  hq
  · refine jw_icmp_le_f (tgt := 9) dX12_larger_2 (by decide) c1 ?_
    refine jw_iload_n dX12_larger_5 rfl ?_
    refine jw_goto (tgt := 10) dX12_larger_6 (by decide) ?_
    refine jw_forget [false, false] (L' := [none, none]) rfl ?_
    exact l_X12_larger_b10  hq

theorem c_X12_larger {h : jw_H} {x0 : Int32} {x1 : Int32} {r : Int32} {h' : jw_H} (hq : f_X12_larger h x0 x1 = some (r, h')) : jw_Con (Cond.code yX12_larger cX12_larger 2 (some .int)) yX12_larger 0 [.int x0, .int x1] h (.inl (some (.int r))) h' :=
  jw_con false (plainFor_of_name (by decide +kernel)) (fun z => nomatch z) (by simp [jw_ent, jw_sl0_nil, jw_sl0_int, jw_sl0_long, jw_sl0_ref, jw_sl0_rf, jw_sl0_scr, List.replicate]) (by simp [jw_sl0_nil, jw_sl0_int, jw_sl0_long, jw_sl0_ref, jw_sl0_rf, jw_sl0_scr]) (l_X12_larger hq)


/-! X12_compareTo -/
noncomputable def g_X12_compareTo_b151 (k19 : jw_H → Nat → Int32 → Int32 → Int32 → Int32 → Option (Unit × jw_H)) (h : jw_H) (x0 : Nat) (x1 : Int32) (x2 : Int32) (x3 : Int32) (x4 : Int32) (t0 : Option Nat) (t1 : Int32) (t2 : Int32) : Option (Unit × jw_H) :=
 (jw_si h 20 t0 t1 t2).bind fun h1 =>
 k19 h1 x0 x1 x2 x3 (x4 + (-1 : Int32))

noncomputable def g_X12_compareTo_b110 (k19 : jw_H → Nat → Int32 → Int32 → Int32 → Int32 → Option (Unit × jw_H)) (h : jw_H) (x0 : Nat) (x1 : Int32) (x2 : Int32) (x3 : Int32) (x4 : Int32) (x5 : Int32) (t0 : Int32) : Option (Unit × jw_H) :=
 (jw_gR h 12 (some x0) 78).bind fun v1 =>
 if t0 = 0 then (g_X12_compareTo_b151 k19 h x0 x1 x2 x3 x4 v1 (((41 : Int32) * x3) + x4) x5)
 else ((jw_gR h 12 (some x0) 78).bind fun v3 =>
 (jw_ai h 20 v3 ((((41 : Int32) * (x3 + (1 : Int32))) + x4) + (1 : Int32))).bind fun v4 =>
 g_X12_compareTo_b151 k19 h x0 x1 x2 x3 x4 v1 (((41 : Int32) * x3) + x4) (v4 + (1 : Int32)))

noncomputable def g_X12_compareTo_b109 (k19 : jw_H → Nat → Int32 → Int32 → Int32 → Int32 → Option (Unit × jw_H)) (h : jw_H) (x0 : Nat) (x1 : Int32) (x2 : Int32) (x3 : Int32) (x4 : Int32) (x5 : Int32) : Option (Unit × jw_H) :=
 g_X12_compareTo_b110 k19 h x0 x1 x2 x3 x4 x5 (0 : Int32)

noncomputable def g_X12_compareTo_b73 (k19 : jw_H → Nat → Int32 → Int32 → Int32 → Int32 → Option (Unit × jw_H)) (h : jw_H) (x0 : Nat) (x1 : Int32) (x2 : Int32) (x3 : Int32) (x4 : Int32) (t0 : Int32) : Option (Unit × jw_H) :=
 (jw_gI h 12 (some x0) 12).bind fun v1 =>
 if v1 ≤ x3 then (g_X12_compareTo_b109 k19 h x0 x1 x2 x3 x4 t0)
 else (if x2 ≤ x4 then (g_X12_compareTo_b109 k19 h x0 x1 x2 x3 x4 t0)
 else (jw_b2 (f_X12_fileRow h x1 x4) fun w5 h4 =>
 (jw_rc h4 12 (some x0)).bind fun a6 =>
 jw_b2 (f_X12_areSame h4 a6 ((0 : Int32) + x3) w5) fun w8 h7 =>
 if w8 = 0 then (g_X12_compareTo_b109 k19 h7 x0 x1 x2 x3 x4 t0)
 else (g_X12_compareTo_b110 k19 h7 x0 x1 x2 x3 x4 t0 (1 : Int32))))

noncomputable def g_X12_compareTo_b38 (k19 : jw_H → Nat → Int32 → Int32 → Int32 → Int32 → Option (Unit × jw_H)) (h : jw_H) (x0 : Nat) (x1 : Int32) (x2 : Int32) (x3 : Int32) (x4 : Int32) : Option (Unit × jw_H) :=
 g_X12_compareTo_b73 k19 h x0 x1 x2 x3 x4 (0 : Int32)

noncomputable def g_X12_compareTo_b19 (k12 : jw_H → Nat → Int32 → Int32 → Int32 → Option (Unit × jw_H)) (k19 : jw_H → Nat → Int32 → Int32 → Int32 → Int32 → Option (Unit × jw_H)) (h : jw_H) (x0 : Nat) (x1 : Int32) (x2 : Int32) (x3 : Int32) (x4 : Int32) : Option (Unit × jw_H) :=
 if x4 < 0 then (k12 h x0 x1 x2 (x3 + (-1 : Int32)))
 else ((jw_gI h 12 (some x0) 12).bind fun v2 =>
 if x3 = v2 then (g_X12_compareTo_b38 k19 h x0 x1 x2 x3 x4)
 else (if x4 = x2 then (g_X12_compareTo_b38 k19 h x0 x1 x2 x3 x4)
 else ((jw_gR h 12 (some x0) 78).bind fun v5 =>
 (jw_ai h 20 v5 (((41 : Int32) * (x3 + (1 : Int32))) + x4)).bind fun v6 =>
 (jw_gR h 12 (some x0) 78).bind fun v7 =>
 (jw_ai h 20 v7 ((((41 : Int32) * x3) + x4) + (1 : Int32))).bind fun v8 =>
 jw_b2 (f_X12_larger h v6 v8) fun w10 h9 =>
 g_X12_compareTo_b73 k19 h9 x0 x1 x2 x3 x4 w10)))

noncomputable def f_X12_compareTo_b19 (k12 : jw_H → Nat → Int32 → Int32 → Int32 → Option (Unit × jw_H)) (n : Nat) : jw_H → Nat → Int32 → Int32 → Int32 → Int32 → Option (Unit × jw_H) :=
 Nat.rec (fun _ _ _ _ _ _ => none) (fun _ k19 => g_X12_compareTo_b19 k12 k19) n

noncomputable def g_X12_compareTo_b12 (k12 : jw_H → Nat → Int32 → Int32 → Int32 → Option (Unit × jw_H)) (h : jw_H) (x0 : Nat) (x1 : Int32) (x2 : Int32) (x3 : Int32) : Option (Unit × jw_H) :=
 if x3 < 0 then (some ((), h))
 else (f_X12_compareTo_b19 k12 jw_FU h x0 x1 x2 x3 x2)

noncomputable def f_X12_compareTo_b12 (n : Nat) : jw_H → Nat → Int32 → Int32 → Int32 → Option (Unit × jw_H) :=
 Nat.rec (fun _ _ _ _ _ => none) (fun _ k12 => g_X12_compareTo_b12 k12) n

noncomputable def f_X12_compareTo (h : jw_H) (x0 : Nat) (x1 : Int32) : Option (Unit × jw_H) :=
 (jw_gR h 12 (some x0) 11).bind fun v1 =>
 (jw_ai h 20 v1 x1).bind fun v2 =>
 (jw_gI h 12 (some x0) 12).bind fun v3 =>
 f_X12_compareTo_b12  jw_FU h x0 x1 v2 v3

set_option maxRecDepth 100000 in
set_option maxHeartbeats 4000000 in
theorem l_X12_compareTo_b151 {hi : jw_H} {k19 : jw_H → Nat → Int32 → Int32 → Int32 → Int32 → Option (Unit × jw_H)} (hk19 : ∀ (h : jw_H) (x0 : Nat) (x1 : Int32) (x2 : Int32) (x3 : Int32) (x4 : Int32) (r : Unit) (h' : jw_H), k19 h x0 x1 x2 x3 x4 = some (r, h') → jw_E 2 uX12_compareTo hi 19 [some (.ref x0), some (.int x1), some (.int x2), some (.int x3), some (.int x4), none, none] [] h (.inl none) h') {h : jw_H} {x0 : Nat} {x1 : Int32} {x2 : Int32} {x3 : Int32} {x4 : Int32} {t0 : Option Nat} {t1 : Int32} {t2 : Int32} {r : Unit} {h' : jw_H} (hq : g_X12_compareTo_b151 k19 h x0 x1 x2 x3 x4 t0 t1 t2 = some (r, h')) : jw_E 2 uX12_compareTo hi 151 [some (.ref x0), some (.int x1), some (.int x2), some (.int x3), some (.int x4), none, none] [.int t2, .int t1, va_rf t0] h (.inl none) h' := by
  unfold g_X12_compareTo_b151 at hq
  obtain ⟨h1, eh1, hq⟩ := Option.bind_eq_some_iff.mp hq
  refine jw_iast (o := t0) dX12_compareTo_151 eh1 ?_
  refine jw_iinc (L' := [some (.ref x0), some (.int x1), some (.int x2), some (.int x3), some (.int (x4 + (-1 : Int32))), none, none]) dX12_compareTo_152 rfl (v := (-1 : Int32)) (by decide) (Nat.le_of_ble_eq_true rfl) rfl ?_
  refine jw_goto (tgt := 19) dX12_compareTo_155 (by decide) ?_
  exact hk19 _ _ _ _ _ _ _ _ hq

set_option maxRecDepth 100000 in
set_option maxHeartbeats 4000000 in
theorem l_X12_compareTo_b110 {hi : jw_H} {k19 : jw_H → Nat → Int32 → Int32 → Int32 → Int32 → Option (Unit × jw_H)} (hk19 : ∀ (h : jw_H) (x0 : Nat) (x1 : Int32) (x2 : Int32) (x3 : Int32) (x4 : Int32) (r : Unit) (h' : jw_H), k19 h x0 x1 x2 x3 x4 = some (r, h') → jw_E 2 uX12_compareTo hi 19 [some (.ref x0), some (.int x1), some (.int x2), some (.int x3), some (.int x4), none, none] [] h (.inl none) h') {h : jw_H} {x0 : Nat} {x1 : Int32} {x2 : Int32} {x3 : Int32} {x4 : Int32} {x5 : Int32} {t0 : Int32} {r : Unit} {h' : jw_H} (hq : g_X12_compareTo_b110 k19 h x0 x1 x2 x3 x4 x5 t0 = some (r, h')) : jw_E 2 uX12_compareTo hi 110 [some (.ref x0), some (.int x1), some (.int x2), some (.int x3), some (.int x4), some (.int x5), none] [.int t0] h (.inl none) h' := by
  unfold g_X12_compareTo_b110 at hq
  refine jw_istore (L' := [some (.ref x0), some (.int x1), some (.int x2), some (.int x3), some (.int x4), some (.int x5), some (.int t0)]) dX12_compareTo_110 (Nat.le_of_ble_eq_true rfl) rfl ?_
  refine jw_aload_n dX12_compareTo_112 (o := (some x0)) rfl ?_
  obtain ⟨v1, ev1, hq⟩ := Option.bind_eq_some_iff.mp hq
  refine jw_getR (o := (some x0)) dX12_compareTo_113 ev1 fl_X12_99 rfl ?_
  refine jw_bipush dX12_compareTo_116 (v := (41 : Int32)) (by decide) ?_
  refine jw_iload_n dX12_compareTo_118 rfl ?_
  refine jw_imul dX12_compareTo_119 ?_
  refine jw_iload dX12_compareTo_120 rfl ?_
  refine jw_iadd dX12_compareTo_122 ?_
  refine jw_iload dX12_compareTo_123 rfl ?_
  rcases jw_if hq with ⟨c2, hq⟩ | ⟨c2, hq⟩
  · refine jw_if_eq_t (tgt := 149) dX12_compareTo_125 (by decide) c2 ?_
    refine jw_iload dX12_compareTo_149 rfl ?_
    refine jw_forget [true, true, true, true, true, false, false] (L' := [some (.ref x0), some (.int x1), some (.int x2), some (.int x3), some (.int x4), none, none]) rfl ?_
    exact l_X12_compareTo_b151 hk19 hq
  · refine jw_if_eq_f (tgt := 149) dX12_compareTo_125 (by decide) c2 ?_
    refine jw_aload_n dX12_compareTo_128 (o := (some x0)) rfl ?_
    obtain ⟨v3, ev3, hq⟩ := Option.bind_eq_some_iff.mp hq
    refine jw_getR (o := (some x0)) dX12_compareTo_129 ev3 fl_X12_99 rfl ?_
    refine jw_bipush dX12_compareTo_132 (v := (41 : Int32)) (by decide) ?_
    refine jw_iload_n dX12_compareTo_134 rfl ?_
    refine jw_iconst dX12_compareTo_135 (v := (1 : Int32)) (by decide) ?_
    refine jw_iadd dX12_compareTo_136 ?_
    refine jw_imul dX12_compareTo_137 ?_
    refine jw_iload dX12_compareTo_138 rfl ?_
    refine jw_iadd dX12_compareTo_140 ?_
    refine jw_iconst dX12_compareTo_141 (v := (1 : Int32)) (by decide) ?_
    refine jw_iadd dX12_compareTo_142 ?_
    obtain ⟨v4, ev4, hq⟩ := Option.bind_eq_some_iff.mp hq
    refine jw_iald (o := v3) dX12_compareTo_143 ev4 ?_
    refine jw_iconst dX12_compareTo_144 (v := (1 : Int32)) (by decide) ?_
    refine jw_iadd dX12_compareTo_145 ?_
    refine jw_goto (tgt := 151) dX12_compareTo_146 (by decide) ?_
    refine jw_forget [true, true, true, true, true, false, false] (L' := [some (.ref x0), some (.int x1), some (.int x2), some (.int x3), some (.int x4), none, none]) rfl ?_
    exact l_X12_compareTo_b151 hk19 hq

set_option maxRecDepth 100000 in
set_option maxHeartbeats 4000000 in
theorem l_X12_compareTo_b109 {hi : jw_H} {k19 : jw_H → Nat → Int32 → Int32 → Int32 → Int32 → Option (Unit × jw_H)} (hk19 : ∀ (h : jw_H) (x0 : Nat) (x1 : Int32) (x2 : Int32) (x3 : Int32) (x4 : Int32) (r : Unit) (h' : jw_H), k19 h x0 x1 x2 x3 x4 = some (r, h') → jw_E 2 uX12_compareTo hi 19 [some (.ref x0), some (.int x1), some (.int x2), some (.int x3), some (.int x4), none, none] [] h (.inl none) h') {h : jw_H} {x0 : Nat} {x1 : Int32} {x2 : Int32} {x3 : Int32} {x4 : Int32} {x5 : Int32} {r : Unit} {h' : jw_H} (hq : g_X12_compareTo_b109 k19 h x0 x1 x2 x3 x4 x5 = some (r, h')) : jw_E 2 uX12_compareTo hi 109 [some (.ref x0), some (.int x1), some (.int x2), some (.int x3), some (.int x4), some (.int x5), none] [] h (.inl none) h' := by
  unfold g_X12_compareTo_b109 at hq
  refine jw_iconst dX12_compareTo_109 (v := (0 : Int32)) (by decide) ?_
  exact l_X12_compareTo_b110 hk19 hq

set_option maxRecDepth 100000 in
set_option maxHeartbeats 4000000 in
theorem l_X12_compareTo_b73 {hi : jw_H} {k19 : jw_H → Nat → Int32 → Int32 → Int32 → Int32 → Option (Unit × jw_H)} (hk19 : ∀ (h : jw_H) (x0 : Nat) (x1 : Int32) (x2 : Int32) (x3 : Int32) (x4 : Int32) (r : Unit) (h' : jw_H), k19 h x0 x1 x2 x3 x4 = some (r, h') → jw_E 2 uX12_compareTo hi 19 [some (.ref x0), some (.int x1), some (.int x2), some (.int x3), some (.int x4), none, none] [] h (.inl none) h') {h : jw_H} {x0 : Nat} {x1 : Int32} {x2 : Int32} {x3 : Int32} {x4 : Int32} {t0 : Int32} {r : Unit} {h' : jw_H} (hq : g_X12_compareTo_b73 k19 h x0 x1 x2 x3 x4 t0 = some (r, h')) : jw_E 2 uX12_compareTo hi 73 [some (.ref x0), some (.int x1), some (.int x2), some (.int x3), some (.int x4), none, none] [.int t0] h (.inl none) h' := by
  unfold g_X12_compareTo_b73 at hq
  refine jw_istore (L' := [some (.ref x0), some (.int x1), some (.int x2), some (.int x3), some (.int x4), some (.int t0), none]) dX12_compareTo_73 (Nat.le_of_ble_eq_true rfl) rfl ?_
  refine jw_iload_n dX12_compareTo_75 rfl ?_
  refine jw_aload_n dX12_compareTo_76 (o := (some x0)) rfl ?_
  obtain ⟨v1, ev1, hq⟩ := Option.bind_eq_some_iff.mp hq
  refine jw_getI (o := (some x0)) dX12_compareTo_77 ev1 fl_X12_124 rfl ?_
  rcases jw_if hq with ⟨c2, hq⟩ | ⟨c2, hq⟩
  · refine jw_icmp_ge_t (tgt := 109) dX12_compareTo_80 (by decide) c2 ?_
    exact l_X12_compareTo_b109 hk19 hq
  · refine jw_icmp_ge_f (tgt := 109) dX12_compareTo_80 (by decide) c2 ?_
    refine jw_iload dX12_compareTo_83 rfl ?_
    refine jw_iload_n dX12_compareTo_85 rfl ?_
    rcases jw_if hq with ⟨c3, hq⟩ | ⟨c3, hq⟩
    · refine jw_icmp_ge_t (tgt := 109) dX12_compareTo_86 (by decide) c3 ?_
      exact l_X12_compareTo_b109 hk19 hq
    · refine jw_icmp_ge_f (tgt := 109) dX12_compareTo_86 (by decide) c3 ?_
      refine jw_aload_n dX12_compareTo_89 (o := (some x0)) rfl ?_
      refine jw_iconst dX12_compareTo_90 (v := (0 : Int32)) (by decide) ?_
      refine jw_iload_n dX12_compareTo_91 rfl ?_
      refine jw_iadd dX12_compareTo_92 ?_
      refine jw_iload_n dX12_compareTo_93 rfl ?_
      refine jw_iload dX12_compareTo_94 rfl ?_
      obtain ⟨w5, h4, ew5, hq⟩ := jw_b2_spec hq
      refine jw_callS (As := [.int x1, .int x4]) (S := [.int ((0 : Int32) + x3), .ref x0]) (v := some (.int w5)) dX12_compareTo_96 mt_X12_fileRow st_X12_fileRow lk_X12_394 (c_X12_fileRow ew5) rfl (by decide) (Nat.le_of_ble_eq_true rfl) rfl ?_
      obtain ⟨a6, ea6, hq⟩ := Option.bind_eq_some_iff.mp hq
      obtain ⟨eoa6, eta6⟩ := jw_rc_spec ea6
      obtain ⟨w8, h7, ew8, hq⟩ := jw_b2_spec hq
      refine jw_callV (As := [.int ((0 : Int32) + x3), .int w5]) (S := []) (a := a6) (v := some (.int w8)) dX12_compareTo_99 mt_X12_areSame in_X12_areSame se_X12_areSame lk_X12_354 (c_X12_areSame ew8) eta6 (by decide) rfl rfl (by decide) (Nat.le_of_ble_eq_true rfl) (by cases eoa6; rfl) ?_
      rcases jw_if hq with ⟨c9, hq⟩ | ⟨c9, hq⟩
      · refine jw_if_eq_t (tgt := 109) dX12_compareTo_102 (by decide) c9 ?_
        exact l_X12_compareTo_b109 hk19 hq
      · refine jw_if_eq_f (tgt := 109) dX12_compareTo_102 (by decide) c9 ?_
        refine jw_iconst dX12_compareTo_105 (v := (1 : Int32)) (by decide) ?_
        refine jw_goto (tgt := 110) dX12_compareTo_106 (by decide) ?_
        exact l_X12_compareTo_b110 hk19 hq

set_option maxRecDepth 100000 in
set_option maxHeartbeats 4000000 in
theorem l_X12_compareTo_b38 {hi : jw_H} {k19 : jw_H → Nat → Int32 → Int32 → Int32 → Int32 → Option (Unit × jw_H)} (hk19 : ∀ (h : jw_H) (x0 : Nat) (x1 : Int32) (x2 : Int32) (x3 : Int32) (x4 : Int32) (r : Unit) (h' : jw_H), k19 h x0 x1 x2 x3 x4 = some (r, h') → jw_E 2 uX12_compareTo hi 19 [some (.ref x0), some (.int x1), some (.int x2), some (.int x3), some (.int x4), none, none] [] h (.inl none) h') {h : jw_H} {x0 : Nat} {x1 : Int32} {x2 : Int32} {x3 : Int32} {x4 : Int32} {r : Unit} {h' : jw_H} (hq : g_X12_compareTo_b38 k19 h x0 x1 x2 x3 x4 = some (r, h')) : jw_E 2 uX12_compareTo hi 38 [some (.ref x0), some (.int x1), some (.int x2), some (.int x3), some (.int x4), none, none] [] h (.inl none) h' := by
  unfold g_X12_compareTo_b38 at hq
  refine jw_iconst dX12_compareTo_38 (v := (0 : Int32)) (by decide) ?_
  refine jw_goto (tgt := 73) dX12_compareTo_39 (by decide) ?_
  exact l_X12_compareTo_b73 hk19 hq

set_option maxRecDepth 100000 in
set_option maxHeartbeats 4000000 in
theorem l_X12_compareTo_b19g {hi : jw_H} {k12 : jw_H → Nat → Int32 → Int32 → Int32 → Option (Unit × jw_H)} (hk12 : ∀ (h : jw_H) (x0 : Nat) (x1 : Int32) (x2 : Int32) (x3 : Int32) (r : Unit) (h' : jw_H), k12 h x0 x1 x2 x3 = some (r, h') → jw_E 2 uX12_compareTo hi 12 [some (.ref x0), some (.int x1), some (.int x2), some (.int x3), none, none, none] [] h (.inl none) h') {k19 : jw_H → Nat → Int32 → Int32 → Int32 → Int32 → Option (Unit × jw_H)} (hk19 : ∀ (h : jw_H) (x0 : Nat) (x1 : Int32) (x2 : Int32) (x3 : Int32) (x4 : Int32) (r : Unit) (h' : jw_H), k19 h x0 x1 x2 x3 x4 = some (r, h') → jw_E 2 uX12_compareTo hi 19 [some (.ref x0), some (.int x1), some (.int x2), some (.int x3), some (.int x4), none, none] [] h (.inl none) h') {h : jw_H} {x0 : Nat} {x1 : Int32} {x2 : Int32} {x3 : Int32} {x4 : Int32} {r : Unit} {h' : jw_H} (hq : g_X12_compareTo_b19 k12 k19 h x0 x1 x2 x3 x4 = some (r, h')) : jw_E 2 uX12_compareTo hi 19 [some (.ref x0), some (.int x1), some (.int x2), some (.int x3), some (.int x4), none, none] [] h (.inl none) h' := by
  unfold g_X12_compareTo_b19 at hq
  refine jw_iload dX12_compareTo_19 rfl ?_
  rcases jw_if hq with ⟨c1, hq⟩ | ⟨c1, hq⟩
  · refine jw_if_lt_t (tgt := 158) dX12_compareTo_21 (by decide) c1 ?_
    refine jw_iinc (L' := [some (.ref x0), some (.int x1), some (.int x2), some (.int (x3 + (-1 : Int32))), some (.int x4), none, none]) dX12_compareTo_158 rfl (v := (-1 : Int32)) (by decide) (Nat.le_of_ble_eq_true rfl) rfl ?_
    refine jw_goto (tgt := 12) dX12_compareTo_161 (by decide) ?_
    refine jw_forget [true, true, true, true, false, true, true] (L' := [some (.ref x0), some (.int x1), some (.int x2), some (.int (x3 + (-1 : Int32))), none, none, none]) rfl ?_
    exact hk12 _ _ _ _ _ _ _ hq
  · refine jw_if_lt_f (tgt := 158) dX12_compareTo_21 (by decide) c1 ?_
    refine jw_iload_n dX12_compareTo_24 rfl ?_
    refine jw_aload_n dX12_compareTo_25 (o := (some x0)) rfl ?_
    obtain ⟨v2, ev2, hq⟩ := Option.bind_eq_some_iff.mp hq
    refine jw_getI (o := (some x0)) dX12_compareTo_26 ev2 fl_X12_124 rfl ?_
    rcases jw_if hq with ⟨c3, hq⟩ | ⟨c3, hq⟩
    · refine jw_icmp_eq_t (tgt := 38) dX12_compareTo_29 (by decide) c3 ?_
      exact l_X12_compareTo_b38 hk19 hq
    · refine jw_icmp_eq_f (tgt := 38) dX12_compareTo_29 (by decide) c3 ?_
      refine jw_iload dX12_compareTo_32 rfl ?_
      refine jw_iload_n dX12_compareTo_34 rfl ?_
      rcases jw_if hq with ⟨c4, hq⟩ | ⟨c4, hq⟩
      · refine jw_icmp_ne_f (tgt := 42) dX12_compareTo_35 (by decide) c4 ?_
        exact l_X12_compareTo_b38 hk19 hq
      · refine jw_icmp_ne_t (tgt := 42) dX12_compareTo_35 (by decide) c4 ?_
        refine jw_aload_n dX12_compareTo_42 (o := (some x0)) rfl ?_
        obtain ⟨v5, ev5, hq⟩ := Option.bind_eq_some_iff.mp hq
        refine jw_getR (o := (some x0)) dX12_compareTo_43 ev5 fl_X12_99 rfl ?_
        refine jw_bipush dX12_compareTo_46 (v := (41 : Int32)) (by decide) ?_
        refine jw_iload_n dX12_compareTo_48 rfl ?_
        refine jw_iconst dX12_compareTo_49 (v := (1 : Int32)) (by decide) ?_
        refine jw_iadd dX12_compareTo_50 ?_
        refine jw_imul dX12_compareTo_51 ?_
        refine jw_iload dX12_compareTo_52 rfl ?_
        refine jw_iadd dX12_compareTo_54 ?_
        obtain ⟨v6, ev6, hq⟩ := Option.bind_eq_some_iff.mp hq
        refine jw_iald (o := v5) dX12_compareTo_55 ev6 ?_
        refine jw_aload_n dX12_compareTo_56 (o := (some x0)) rfl ?_
        obtain ⟨v7, ev7, hq⟩ := Option.bind_eq_some_iff.mp hq
        refine jw_getR (o := (some x0)) dX12_compareTo_57 ev7 fl_X12_99 rfl ?_
        refine jw_bipush dX12_compareTo_60 (v := (41 : Int32)) (by decide) ?_
        refine jw_iload_n dX12_compareTo_62 rfl ?_
        refine jw_imul dX12_compareTo_63 ?_
        refine jw_iload dX12_compareTo_64 rfl ?_
        refine jw_iadd dX12_compareTo_66 ?_
        refine jw_iconst dX12_compareTo_67 (v := (1 : Int32)) (by decide) ?_
        refine jw_iadd dX12_compareTo_68 ?_
        obtain ⟨v8, ev8, hq⟩ := Option.bind_eq_some_iff.mp hq
        refine jw_iald (o := v7) dX12_compareTo_69 ev8 ?_
        obtain ⟨w10, h9, ew10, hq⟩ := jw_b2_spec hq
        refine jw_callS (As := [.int v6, .int v8]) (S := []) (v := some (.int w10)) dX12_compareTo_70 mt_X12_larger st_X12_larger lk_X12_728 (c_X12_larger ew10) rfl (by decide) (Nat.le_of_ble_eq_true rfl) rfl ?_
        exact l_X12_compareTo_b73 hk19 hq

theorem l_X12_compareTo_b19 {hi : jw_H} {k12 : jw_H → Nat → Int32 → Int32 → Int32 → Option (Unit × jw_H)} (hk12 : ∀ (h : jw_H) (x0 : Nat) (x1 : Int32) (x2 : Int32) (x3 : Int32) (r : Unit) (h' : jw_H), k12 h x0 x1 x2 x3 = some (r, h') → jw_E 2 uX12_compareTo hi 12 [some (.ref x0), some (.int x1), some (.int x2), some (.int x3), none, none, none] [] h (.inl none) h') : ∀ (n : Nat) (h : jw_H) (x0 : Nat) (x1 : Int32) (x2 : Int32) (x3 : Int32) (x4 : Int32) (r : Unit) (h' : jw_H), f_X12_compareTo_b19 k12 n h x0 x1 x2 x3 x4 = some (r, h') → jw_E 2 uX12_compareTo hi 19 [some (.ref x0), some (.int x1), some (.int x2), some (.int x3), some (.int x4), none, none] [] h (.inl none) h' := by
  intro n
  induction n with
  | zero => intro h x0 x1 x2 x3 x4 r h' hq; exact nomatch hq
  | succ n ih => intro h x0 x1 x2 x3 x4 r h' hq; exact l_X12_compareTo_b19g hk12 ih hq

set_option maxRecDepth 100000 in
set_option maxHeartbeats 4000000 in
theorem l_X12_compareTo_b12g {hi : jw_H} {k12 : jw_H → Nat → Int32 → Int32 → Int32 → Option (Unit × jw_H)} (hk12 : ∀ (h : jw_H) (x0 : Nat) (x1 : Int32) (x2 : Int32) (x3 : Int32) (r : Unit) (h' : jw_H), k12 h x0 x1 x2 x3 = some (r, h') → jw_E 2 uX12_compareTo hi 12 [some (.ref x0), some (.int x1), some (.int x2), some (.int x3), none, none, none] [] h (.inl none) h') {h : jw_H} {x0 : Nat} {x1 : Int32} {x2 : Int32} {x3 : Int32} {r : Unit} {h' : jw_H} (hq : g_X12_compareTo_b12 k12 h x0 x1 x2 x3 = some (r, h')) : jw_E 2 uX12_compareTo hi 12 [some (.ref x0), some (.int x1), some (.int x2), some (.int x3), none, none, none] [] h (.inl none) h' := by
  unfold g_X12_compareTo_b12 at hq
  refine jw_iload_n dX12_compareTo_12 rfl ?_
  rcases jw_if hq with ⟨c1, hq⟩ | ⟨c1, hq⟩
  · refine jw_if_lt_t (tgt := 164) dX12_compareTo_13 (by decide) c1 ?_
    cases hq
    exact jw_vret dX12_compareTo_164 rfl
  · refine jw_if_lt_f (tgt := 164) dX12_compareTo_13 (by decide) c1 ?_
    refine jw_iload_n dX12_compareTo_16 rfl ?_
    refine jw_istore (L' := [some (.ref x0), some (.int x1), some (.int x2), some (.int x3), some (.int x2), none, none]) dX12_compareTo_17 (Nat.le_of_ble_eq_true rfl) rfl ?_
    exact l_X12_compareTo_b19 hk12 jw_FU _ _ _ _ _ _ _ _ hq

theorem l_X12_compareTo_b12 {hi : jw_H} : ∀ (n : Nat) (h : jw_H) (x0 : Nat) (x1 : Int32) (x2 : Int32) (x3 : Int32) (r : Unit) (h' : jw_H), f_X12_compareTo_b12  n h x0 x1 x2 x3 = some (r, h') → jw_E 2 uX12_compareTo hi 12 [some (.ref x0), some (.int x1), some (.int x2), some (.int x3), none, none, none] [] h (.inl none) h' := by
  intro n
  induction n with
  | zero => intro h x0 x1 x2 x3 r h' hq; exact nomatch hq
  | succ n ih => intro h x0 x1 x2 x3 r h' hq; exact l_X12_compareTo_b12g ih hq

set_option maxRecDepth 100000 in
set_option maxHeartbeats 4000000 in
theorem l_X12_compareTo {hi : jw_H} {h : jw_H} {x0 : Nat} {x1 : Int32} {r : Unit} {h' : jw_H} (hq : f_X12_compareTo  h x0 x1 = some (r, h')) : jw_E 2 uX12_compareTo hi 0 [some (.ref x0), some (.int x1), none, none, none, none, none] [] h (.inl none) h' := by
  unfold f_X12_compareTo at hq
  refine jw_aload_n dX12_compareTo_0 (o := (some x0)) rfl ?_
  obtain ⟨v1, ev1, hq⟩ := Option.bind_eq_some_iff.mp hq
  refine jw_getR (o := (some x0)) dX12_compareTo_1 ev1 fl_X12_38 rfl ?_
  refine jw_iload_n dX12_compareTo_4 rfl ?_
  obtain ⟨v2, ev2, hq⟩ := Option.bind_eq_some_iff.mp hq
  refine jw_iald (o := v1) dX12_compareTo_5 ev2 ?_
  refine jw_istore_n (L' := [some (.ref x0), some (.int x1), some (.int v2), none, none, none, none]) dX12_compareTo_6 (Nat.le_of_ble_eq_true rfl) rfl ?_
  refine jw_aload_n dX12_compareTo_7 (o := (some x0)) rfl ?_
  obtain ⟨v3, ev3, hq⟩ := Option.bind_eq_some_iff.mp hq
  refine jw_getI (o := (some x0)) dX12_compareTo_8 ev3 fl_X12_124 rfl ?_
  refine jw_istore_n (L' := [some (.ref x0), some (.int x1), some (.int v2), some (.int v3), none, none, none]) dX12_compareTo_11 (Nat.le_of_ble_eq_true rfl) rfl ?_
  exact l_X12_compareTo_b12  jw_FU _ _ _ _ _ _ _ hq

theorem c_X12_compareTo {h : jw_H} {x0 : Nat} {x1 : Int32} {r : Unit} {h' : jw_H} (hq : f_X12_compareTo h x0 x1 = some (r, h')) : jw_Con (Cond.code yX12_compareTo cX12_compareTo 7 none) yX12_compareTo 2 [.ref x0, .int x1] h (.inl none) h' :=
  jw_con false (plainFor_of_name (by decide +kernel)) (fun z => nomatch z) (by simp [jw_ent, jw_sl0_nil, jw_sl0_int, jw_sl0_long, jw_sl0_ref, jw_sl0_rf, jw_sl0_scr, List.replicate]) (by simp [jw_sl0_nil, jw_sl0_int, jw_sl0_long, jw_sl0_ref, jw_sl0_rf, jw_sl0_scr]) (l_X12_compareTo hq)


/-! X12_pair -/
noncomputable def g_X12_pair_b44 (k44 : jw_H → Nat → Int32 → Int32 → Int32 → Int32 → Int32 → Option (Int32 × jw_H)) (h : jw_H) (x0 : Nat) (x1 : Int32) (x2 : Int32) (x3 : Int32) (x4 : Int32) (x5 : Int32) : Option (Int32 × jw_H) :=
 (jw_gI h 12 (some x0) 12).bind fun v1 =>
 if v1 ≤ x3 then (some (x5, h))
 else (if x2 ≤ x4 then (some (x5, h))
 else (jw_b2 (f_X12_fileRow h x1 x4) fun w5 h4 =>
 (jw_rc h4 12 (some x0)).bind fun a6 =>
 jw_b2 (f_X12_areSame h4 a6 ((0 : Int32) + x3) w5) fun w8 h7 =>
 if w8 = 0 then ((jw_gR h7 12 (some x0) 78).bind fun v10 =>
 (jw_ai h7 20 v10 (((41 : Int32) * (x3 + (1 : Int32))) + x4)).bind fun v11 =>
 (jw_gR h7 12 (some x0) 78).bind fun v12 =>
 (jw_ai h7 20 v12 ((((41 : Int32) * x3) + x4) + (1 : Int32))).bind fun v13 =>
 if v11 < v13 then (k44 h7 x0 x1 x2 x3 (x4 + (1 : Int32)) x5)
 else (k44 h7 x0 x1 x2 (x3 + (1 : Int32)) x4 x5))
 else ((jw_gR h7 12 (some x0) 79).bind fun v15 =>
 (jw_si h7 20 v15 x3 (x4 + (1 : Int32))).bind fun h16 =>
 k44 h16 x0 x1 x2 (x3 + (1 : Int32)) (x4 + (1 : Int32)) (x5 + (1 : Int32)))))

noncomputable def f_X12_pair_b44 (n : Nat) : jw_H → Nat → Int32 → Int32 → Int32 → Int32 → Int32 → Option (Int32 × jw_H) :=
 Nat.rec (fun _ _ _ _ _ _ _ => none) (fun _ k44 => g_X12_pair_b44 k44) n

noncomputable def g_X12_pair_b23 (k23 : jw_H → Nat → Int32 → Int32 → Int32 → Int32 → Int32 → Int32 → Option (Int32 × jw_H)) (h : jw_H) (x0 : Nat) (x1 : Int32) (x2 : Int32) (x3 : Int32) (x4 : Int32) (x5 : Int32) (x6 : Int32) : Option (Int32 × jw_H) :=
 if (40 : Int32) ≤ x6 then (f_X12_pair_b44  jw_FU h x0 x1 x2 x3 x4 x5)
 else ((jw_gR h 12 (some x0) 79).bind fun v2 =>
 (jw_si h 20 v2 x6 (0 : Int32)).bind fun h3 =>
 k23 h3 x0 x1 x2 x3 x4 x5 (x6 + (1 : Int32)))

noncomputable def f_X12_pair_b23 (n : Nat) : jw_H → Nat → Int32 → Int32 → Int32 → Int32 → Int32 → Int32 → Option (Int32 × jw_H) :=
 Nat.rec (fun _ _ _ _ _ _ _ _ => none) (fun _ k23 => g_X12_pair_b23 k23) n

noncomputable def f_X12_pair (h : jw_H) (x0 : Nat) (x1 : Int32) : Option (Int32 × jw_H) :=
 (jw_rc h 12 (some x0)).bind fun a1 =>
 jw_b2 (f_X12_compareTo h a1 x1) fun w3 h2 =>
 (jw_gR h2 12 (some x0) 11).bind fun v4 =>
 (jw_ai h2 20 v4 x1).bind fun v5 =>
 f_X12_pair_b23  jw_FU h2 x0 x1 v5 (0 : Int32) (0 : Int32) (0 : Int32) (0 : Int32)

set_option maxRecDepth 100000 in
set_option maxHeartbeats 4000000 in
theorem l_X12_pair_b44g {hi : jw_H} {k44 : jw_H → Nat → Int32 → Int32 → Int32 → Int32 → Int32 → Option (Int32 × jw_H)} (hk44 : ∀ (h : jw_H) (x0 : Nat) (x1 : Int32) (x2 : Int32) (x3 : Int32) (x4 : Int32) (x5 : Int32) (r : Int32) (h' : jw_H), k44 h x0 x1 x2 x3 x4 x5 = some (r, h') → jw_E 3 uX12_pair hi 44 [some (.ref x0), some (.int x1), some (.int x2), some (.int x3), some (.int x4), some (.int x5), none] [] h (.inl (some (.int r))) h') {h : jw_H} {x0 : Nat} {x1 : Int32} {x2 : Int32} {x3 : Int32} {x4 : Int32} {x5 : Int32} {r : Int32} {h' : jw_H} (hq : g_X12_pair_b44 k44 h x0 x1 x2 x3 x4 x5 = some (r, h')) : jw_E 3 uX12_pair hi 44 [some (.ref x0), some (.int x1), some (.int x2), some (.int x3), some (.int x4), some (.int x5), none] [] h (.inl (some (.int r))) h' := by
  unfold g_X12_pair_b44 at hq
  refine jw_iload_n dX12_pair_44 rfl ?_
  refine jw_aload_n dX12_pair_45 (o := (some x0)) rfl ?_
  obtain ⟨v1, ev1, hq⟩ := Option.bind_eq_some_iff.mp hq
  refine jw_getI (o := (some x0)) dX12_pair_46 ev1 fl_X12_124 rfl ?_
  rcases jw_if hq with ⟨c2, hq⟩ | ⟨c2, hq⟩
  · refine jw_icmp_ge_t (tgt := 139) dX12_pair_49 (by decide) c2 ?_
    refine jw_iload dX12_pair_139 rfl ?_
    cases hq
    exact jw_iret (ty := .int) dX12_pair_141 rfl rfl
  · refine jw_icmp_ge_f (tgt := 139) dX12_pair_49 (by decide) c2 ?_
    refine jw_iload dX12_pair_52 rfl ?_
    refine jw_iload_n dX12_pair_54 rfl ?_
    rcases jw_if hq with ⟨c3, hq⟩ | ⟨c3, hq⟩
    · refine jw_icmp_ge_t (tgt := 139) dX12_pair_55 (by decide) c3 ?_
      refine jw_iload dX12_pair_139 rfl ?_
      cases hq
      exact jw_iret (ty := .int) dX12_pair_141 rfl rfl
    · refine jw_icmp_ge_f (tgt := 139) dX12_pair_55 (by decide) c3 ?_
      refine jw_aload_n dX12_pair_58 (o := (some x0)) rfl ?_
      refine jw_iconst dX12_pair_59 (v := (0 : Int32)) (by decide) ?_
      refine jw_iload_n dX12_pair_60 rfl ?_
      refine jw_iadd dX12_pair_61 ?_
      refine jw_iload_n dX12_pair_62 rfl ?_
      refine jw_iload dX12_pair_63 rfl ?_
      obtain ⟨w5, h4, ew5, hq⟩ := jw_b2_spec hq
      refine jw_callS (As := [.int x1, .int x4]) (S := [.int ((0 : Int32) + x3), .ref x0]) (v := some (.int w5)) dX12_pair_65 mt_X12_fileRow st_X12_fileRow lk_X12_394 (c_X12_fileRow ew5) rfl (by decide) (Nat.le_of_ble_eq_true rfl) rfl ?_
      obtain ⟨a6, ea6, hq⟩ := Option.bind_eq_some_iff.mp hq
      obtain ⟨eoa6, eta6⟩ := jw_rc_spec ea6
      obtain ⟨w8, h7, ew8, hq⟩ := jw_b2_spec hq
      refine jw_callV (As := [.int ((0 : Int32) + x3), .int w5]) (S := []) (a := a6) (v := some (.int w8)) dX12_pair_68 mt_X12_areSame in_X12_areSame se_X12_areSame lk_X12_354 (c_X12_areSame ew8) eta6 (by decide) rfl rfl (by decide) (Nat.le_of_ble_eq_true rfl) (by cases eoa6; rfl) ?_
      rcases jw_if hq with ⟨c9, hq⟩ | ⟨c9, hq⟩
      · refine jw_if_eq_t (tgt := 96) dX12_pair_71 (by decide) c9 ?_
        refine jw_aload_n dX12_pair_96 (o := (some x0)) rfl ?_
        obtain ⟨v10, ev10, hq⟩ := Option.bind_eq_some_iff.mp hq
        refine jw_getR (o := (some x0)) dX12_pair_97 ev10 fl_X12_99 rfl ?_
        refine jw_bipush dX12_pair_100 (v := (41 : Int32)) (by decide) ?_
        refine jw_iload_n dX12_pair_102 rfl ?_
        refine jw_iconst dX12_pair_103 (v := (1 : Int32)) (by decide) ?_
        refine jw_iadd dX12_pair_104 ?_
        refine jw_imul dX12_pair_105 ?_
        refine jw_iload dX12_pair_106 rfl ?_
        refine jw_iadd dX12_pair_108 ?_
        obtain ⟨v11, ev11, hq⟩ := Option.bind_eq_some_iff.mp hq
        refine jw_iald (o := v10) dX12_pair_109 ev11 ?_
        refine jw_aload_n dX12_pair_110 (o := (some x0)) rfl ?_
        obtain ⟨v12, ev12, hq⟩ := Option.bind_eq_some_iff.mp hq
        refine jw_getR (o := (some x0)) dX12_pair_111 ev12 fl_X12_99 rfl ?_
        refine jw_bipush dX12_pair_114 (v := (41 : Int32)) (by decide) ?_
        refine jw_iload_n dX12_pair_116 rfl ?_
        refine jw_imul dX12_pair_117 ?_
        refine jw_iload dX12_pair_118 rfl ?_
        refine jw_iadd dX12_pair_120 ?_
        refine jw_iconst dX12_pair_121 (v := (1 : Int32)) (by decide) ?_
        refine jw_iadd dX12_pair_122 ?_
        obtain ⟨v13, ev13, hq⟩ := Option.bind_eq_some_iff.mp hq
        refine jw_iald (o := v12) dX12_pair_123 ev13 ?_
        rcases jw_if hq with ⟨c14, hq⟩ | ⟨c14, hq⟩
        · refine jw_icmp_lt_t (tgt := 133) dX12_pair_124 (by decide) c14 ?_
          refine jw_iinc (L' := [some (.ref x0), some (.int x1), some (.int x2), some (.int x3), some (.int (x4 + (1 : Int32))), some (.int x5), none]) dX12_pair_133 rfl (v := (1 : Int32)) (by decide) (Nat.le_of_ble_eq_true rfl) rfl ?_
          refine jw_goto (tgt := 44) dX12_pair_136 (by decide) ?_
          exact hk44 _ _ _ _ _ _ _ _ _ hq
        · refine jw_icmp_lt_f (tgt := 133) dX12_pair_124 (by decide) c14 ?_
          refine jw_iinc (L' := [some (.ref x0), some (.int x1), some (.int x2), some (.int (x3 + (1 : Int32))), some (.int x4), some (.int x5), none]) dX12_pair_127 rfl (v := (1 : Int32)) (by decide) (Nat.le_of_ble_eq_true rfl) rfl ?_
          refine jw_goto (tgt := 44) dX12_pair_130 (by decide) ?_
          exact hk44 _ _ _ _ _ _ _ _ _ hq
      · refine jw_if_eq_f (tgt := 96) dX12_pair_71 (by decide) c9 ?_
        refine jw_aload_n dX12_pair_74 (o := (some x0)) rfl ?_
        obtain ⟨v15, ev15, hq⟩ := Option.bind_eq_some_iff.mp hq
        refine jw_getR (o := (some x0)) dX12_pair_75 ev15 fl_X12_102 rfl ?_
        refine jw_iload_n dX12_pair_78 rfl ?_
        refine jw_iload dX12_pair_79 rfl ?_
        refine jw_iconst dX12_pair_81 (v := (1 : Int32)) (by decide) ?_
        refine jw_iadd dX12_pair_82 ?_
        obtain ⟨h16, eh16, hq⟩ := Option.bind_eq_some_iff.mp hq
        refine jw_iast (o := v15) dX12_pair_83 eh16 ?_
        refine jw_iinc (L' := [some (.ref x0), some (.int x1), some (.int x2), some (.int x3), some (.int x4), some (.int (x5 + (1 : Int32))), none]) dX12_pair_84 rfl (v := (1 : Int32)) (by decide) (Nat.le_of_ble_eq_true rfl) rfl ?_
        refine jw_iinc (L' := [some (.ref x0), some (.int x1), some (.int x2), some (.int (x3 + (1 : Int32))), some (.int x4), some (.int (x5 + (1 : Int32))), none]) dX12_pair_87 rfl (v := (1 : Int32)) (by decide) (Nat.le_of_ble_eq_true rfl) rfl ?_
        refine jw_iinc (L' := [some (.ref x0), some (.int x1), some (.int x2), some (.int (x3 + (1 : Int32))), some (.int (x4 + (1 : Int32))), some (.int (x5 + (1 : Int32))), none]) dX12_pair_90 rfl (v := (1 : Int32)) (by decide) (Nat.le_of_ble_eq_true rfl) rfl ?_
        refine jw_goto (tgt := 44) dX12_pair_93 (by decide) ?_
        exact hk44 _ _ _ _ _ _ _ _ _ hq

theorem l_X12_pair_b44 {hi : jw_H} : ∀ (n : Nat) (h : jw_H) (x0 : Nat) (x1 : Int32) (x2 : Int32) (x3 : Int32) (x4 : Int32) (x5 : Int32) (r : Int32) (h' : jw_H), f_X12_pair_b44  n h x0 x1 x2 x3 x4 x5 = some (r, h') → jw_E 3 uX12_pair hi 44 [some (.ref x0), some (.int x1), some (.int x2), some (.int x3), some (.int x4), some (.int x5), none] [] h (.inl (some (.int r))) h' := by
  intro n
  induction n with
  | zero => intro h x0 x1 x2 x3 x4 x5 r h' hq; exact nomatch hq
  | succ n ih => intro h x0 x1 x2 x3 x4 x5 r h' hq; exact l_X12_pair_b44g ih hq

set_option maxRecDepth 100000 in
set_option maxHeartbeats 4000000 in
theorem l_X12_pair_b23g {hi : jw_H} {k23 : jw_H → Nat → Int32 → Int32 → Int32 → Int32 → Int32 → Int32 → Option (Int32 × jw_H)} (hk23 : ∀ (h : jw_H) (x0 : Nat) (x1 : Int32) (x2 : Int32) (x3 : Int32) (x4 : Int32) (x5 : Int32) (x6 : Int32) (r : Int32) (h' : jw_H), k23 h x0 x1 x2 x3 x4 x5 x6 = some (r, h') → jw_E 3 uX12_pair hi 23 [some (.ref x0), some (.int x1), some (.int x2), some (.int x3), some (.int x4), some (.int x5), some (.int x6)] [] h (.inl (some (.int r))) h') {h : jw_H} {x0 : Nat} {x1 : Int32} {x2 : Int32} {x3 : Int32} {x4 : Int32} {x5 : Int32} {x6 : Int32} {r : Int32} {h' : jw_H} (hq : g_X12_pair_b23 k23 h x0 x1 x2 x3 x4 x5 x6 = some (r, h')) : jw_E 3 uX12_pair hi 23 [some (.ref x0), some (.int x1), some (.int x2), some (.int x3), some (.int x4), some (.int x5), some (.int x6)] [] h (.inl (some (.int r))) h' := by
  unfold g_X12_pair_b23 at hq
  refine jw_iload dX12_pair_23 rfl ?_
  refine jw_bipush dX12_pair_25 (v := (40 : Int32)) (by decide) ?_
  rcases jw_if hq with ⟨c1, hq⟩ | ⟨c1, hq⟩
  · refine jw_icmp_ge_t (tgt := 44) dX12_pair_27 (by decide) c1 ?_
    refine jw_forget [true, true, true, true, true, true, false] (L' := [some (.ref x0), some (.int x1), some (.int x2), some (.int x3), some (.int x4), some (.int x5), none]) rfl ?_
    exact l_X12_pair_b44  jw_FU _ _ _ _ _ _ _ _ _ hq
  · refine jw_icmp_ge_f (tgt := 44) dX12_pair_27 (by decide) c1 ?_
    refine jw_aload_n dX12_pair_30 (o := (some x0)) rfl ?_
    obtain ⟨v2, ev2, hq⟩ := Option.bind_eq_some_iff.mp hq
    refine jw_getR (o := (some x0)) dX12_pair_31 ev2 fl_X12_102 rfl ?_
    refine jw_iload dX12_pair_34 rfl ?_
    refine jw_iconst dX12_pair_36 (v := (0 : Int32)) (by decide) ?_
    obtain ⟨h3, eh3, hq⟩ := Option.bind_eq_some_iff.mp hq
    refine jw_iast (o := v2) dX12_pair_37 eh3 ?_
    refine jw_iinc (L' := [some (.ref x0), some (.int x1), some (.int x2), some (.int x3), some (.int x4), some (.int x5), some (.int (x6 + (1 : Int32)))]) dX12_pair_38 rfl (v := (1 : Int32)) (by decide) (Nat.le_of_ble_eq_true rfl) rfl ?_
    refine jw_goto (tgt := 23) dX12_pair_41 (by decide) ?_
    exact hk23 _ _ _ _ _ _ _ _ _ _ hq

theorem l_X12_pair_b23 {hi : jw_H} : ∀ (n : Nat) (h : jw_H) (x0 : Nat) (x1 : Int32) (x2 : Int32) (x3 : Int32) (x4 : Int32) (x5 : Int32) (x6 : Int32) (r : Int32) (h' : jw_H), f_X12_pair_b23  n h x0 x1 x2 x3 x4 x5 x6 = some (r, h') → jw_E 3 uX12_pair hi 23 [some (.ref x0), some (.int x1), some (.int x2), some (.int x3), some (.int x4), some (.int x5), some (.int x6)] [] h (.inl (some (.int r))) h' := by
  intro n
  induction n with
  | zero => intro h x0 x1 x2 x3 x4 x5 x6 r h' hq; exact nomatch hq
  | succ n ih => intro h x0 x1 x2 x3 x4 x5 x6 r h' hq; exact l_X12_pair_b23g ih hq

set_option maxRecDepth 100000 in
set_option maxHeartbeats 4000000 in
theorem l_X12_pair {hi : jw_H} {h : jw_H} {x0 : Nat} {x1 : Int32} {r : Int32} {h' : jw_H} (hq : f_X12_pair  h x0 x1 = some (r, h')) : jw_E 3 uX12_pair hi 0 [some (.ref x0), some (.int x1), none, none, none, none, none] [] h (.inl (some (.int r))) h' := by
  unfold f_X12_pair at hq
  refine jw_aload_n dX12_pair_0 (o := (some x0)) rfl ?_
  refine jw_iload_n dX12_pair_1 rfl ?_
  obtain ⟨a1, ea1, hq⟩ := Option.bind_eq_some_iff.mp hq
  obtain ⟨eoa1, eta1⟩ := jw_rc_spec ea1
  obtain ⟨w3, h2, ew3, hq⟩ := jw_b2_spec hq
  refine jw_callV (As := [.int x1]) (S := []) (a := a1) (v := none) dX12_pair_2 mt_X12_compareTo in_X12_compareTo se_X12_compareTo lk_X12_731 (c_X12_compareTo ew3) eta1 (by decide) rfl rfl (by decide) (Nat.le_of_ble_eq_true rfl) (by cases eoa1; rfl) ?_
  refine jw_aload_n dX12_pair_5 (o := (some x0)) rfl ?_
  obtain ⟨v4, ev4, hq⟩ := Option.bind_eq_some_iff.mp hq
  refine jw_getR (o := (some x0)) dX12_pair_6 ev4 fl_X12_38 rfl ?_
  refine jw_iload_n dX12_pair_9 rfl ?_
  obtain ⟨v5, ev5, hq⟩ := Option.bind_eq_some_iff.mp hq
  refine jw_iald (o := v4) dX12_pair_10 ev5 ?_
  refine jw_istore_n (L' := [some (.ref x0), some (.int x1), some (.int v5), none, none, none, none]) dX12_pair_11 (Nat.le_of_ble_eq_true rfl) rfl ?_
  refine jw_iconst dX12_pair_12 (v := (0 : Int32)) (by decide) ?_
  refine jw_istore_n (L' := [some (.ref x0), some (.int x1), some (.int v5), some (.int (0 : Int32)), none, none, none]) dX12_pair_13 (Nat.le_of_ble_eq_true rfl) rfl ?_
  refine jw_iconst dX12_pair_14 (v := (0 : Int32)) (by decide) ?_
  refine jw_istore (L' := [some (.ref x0), some (.int x1), some (.int v5), some (.int (0 : Int32)), some (.int (0 : Int32)), none, none]) dX12_pair_15 (Nat.le_of_ble_eq_true rfl) rfl ?_
  refine jw_iconst dX12_pair_17 (v := (0 : Int32)) (by decide) ?_
  refine jw_istore (L' := [some (.ref x0), some (.int x1), some (.int v5), some (.int (0 : Int32)), some (.int (0 : Int32)), some (.int (0 : Int32)), none]) dX12_pair_18 (Nat.le_of_ble_eq_true rfl) rfl ?_
  refine jw_iconst dX12_pair_20 (v := (0 : Int32)) (by decide) ?_
  refine jw_istore (L' := [some (.ref x0), some (.int x1), some (.int v5), some (.int (0 : Int32)), some (.int (0 : Int32)), some (.int (0 : Int32)), some (.int (0 : Int32))]) dX12_pair_21 (Nat.le_of_ble_eq_true rfl) rfl ?_
  exact l_X12_pair_b23  jw_FU _ _ _ _ _ _ _ _ _ _ hq

theorem c_X12_pair {h : jw_H} {x0 : Nat} {x1 : Int32} {r : Int32} {h' : jw_H} (hq : f_X12_pair h x0 x1 = some (r, h')) : jw_Con (Cond.code yX12_pair cX12_pair 7 (some .int)) yX12_pair 3 [.ref x0, .int x1] h (.inl (some (.int r))) h' :=
  jw_con false (plainFor_of_name (by decide +kernel)) (fun z => nomatch z) (by simp [jw_ent, jw_sl0_nil, jw_sl0_int, jw_sl0_long, jw_sl0_ref, jw_sl0_rf, jw_sl0_scr, List.replicate]) (by simp [jw_sl0_nil, jw_sl0_int, jw_sl0_long, jw_sl0_ref, jw_sl0_rf, jw_sl0_scr]) (l_X12_pair hq)


/-! X12_differ -/
noncomputable def g_X12_differ_b13 (h : jw_H) (x0 : Nat) (x1 : Int32) (t0 : Nat) (t1 : Int32) : Option (Int32 × jw_H) :=
 (jw_pI h 12 (some t0) 0 t1).bind fun h1 =>
 (jw_gI h1 12 (some x0) 0).bind fun v2 =>
 if v2 ≤ 0 then ((jw_gI h1 12 (some x0) 12).bind fun v4 =>
 (jw_gR h1 12 (some x0) 11).bind fun v5 =>
 (jw_ai h1 20 v5 x1).bind fun v6 =>
 (jw_rc h1 12 (some x0)).bind fun a7 =>
 jw_b2 (f_X12_pair h1 a7 x1) fun w9 h8 =>
 some (((v4 + v6) - ((2 : Int32) * w9)), h8))
 else (some ((0 : Int32), h1))

noncomputable def f_X12_differ (h : jw_H) (x0 : Nat) (x1 : Int32) : Option (Int32 × jw_H) :=
 jw_b2 (f_X12_isFour h x1) fun w2 h1 =>
 if w2 = 0 then (g_X12_differ_b13  h1 x0 x1 x0 (1 : Int32))
 else (g_X12_differ_b13  h1 x0 x1 x0 (0 : Int32))

set_option maxRecDepth 100000 in
set_option maxHeartbeats 4000000 in
theorem l_X12_differ_b13 {hi : jw_H} {h : jw_H} {x0 : Nat} {x1 : Int32} {t0 : Nat} {t1 : Int32} {r : Int32} {h' : jw_H} (hq : g_X12_differ_b13  h x0 x1 t0 t1 = some (r, h')) : jw_E 4 uX12_differ hi 13 [some (.ref x0), some (.int x1)] [.int t1, .ref t0] h (.inl (some (.int r))) h' := by
  unfold g_X12_differ_b13 at hq
  obtain ⟨h1, eh1, hq⟩ := Option.bind_eq_some_iff.mp hq
  refine jw_putI (o := (some t0)) dX12_differ_13 eh1 fl_X12_105 rfl rfl ?_
  refine jw_aload_n dX12_differ_16 (o := (some x0)) rfl ?_
  obtain ⟨v2, ev2, hq⟩ := Option.bind_eq_some_iff.mp hq
  refine jw_getI (o := (some x0)) dX12_differ_17 ev2 fl_X12_105 rfl ?_
  rcases jw_if hq with ⟨c3, hq⟩ | ⟨c3, hq⟩
  · refine jw_if_le_t (tgt := 25) dX12_differ_20 (by decide) c3 ?_
    refine jw_aload_n dX12_differ_25 (o := (some x0)) rfl ?_
    obtain ⟨v4, ev4, hq⟩ := Option.bind_eq_some_iff.mp hq
    refine jw_getI (o := (some x0)) dX12_differ_26 ev4 fl_X12_124 rfl ?_
    refine jw_aload_n dX12_differ_29 (o := (some x0)) rfl ?_
    obtain ⟨v5, ev5, hq⟩ := Option.bind_eq_some_iff.mp hq
    refine jw_getR (o := (some x0)) dX12_differ_30 ev5 fl_X12_38 rfl ?_
    refine jw_iload_n dX12_differ_33 rfl ?_
    obtain ⟨v6, ev6, hq⟩ := Option.bind_eq_some_iff.mp hq
    refine jw_iald (o := v5) dX12_differ_34 ev6 ?_
    refine jw_iadd dX12_differ_35 ?_
    refine jw_iconst dX12_differ_36 (v := (2 : Int32)) (by decide) ?_
    refine jw_aload_n dX12_differ_37 (o := (some x0)) rfl ?_
    refine jw_iload_n dX12_differ_38 rfl ?_
    obtain ⟨a7, ea7, hq⟩ := Option.bind_eq_some_iff.mp hq
    obtain ⟨eoa7, eta7⟩ := jw_rc_spec ea7
    obtain ⟨w9, h8, ew9, hq⟩ := jw_b2_spec hq
    refine jw_callV (As := [.int x1]) (S := [.int (2 : Int32), .int (v4 + v6)]) (a := a7) (v := some (.int w9)) dX12_differ_39 mt_X12_pair in_X12_pair se_X12_pair lk_X12_734 (c_X12_pair ew9) eta7 (by decide) rfl rfl (by decide) (Nat.le_of_ble_eq_true rfl) (by cases eoa7; rfl) ?_
    refine jw_imul dX12_differ_42 ?_
    refine jw_isub dX12_differ_43 ?_
    cases hq
    exact jw_iret (ty := .int) dX12_differ_44 rfl rfl
  · refine jw_if_le_f (tgt := 25) dX12_differ_20 (by decide) c3 ?_
    refine jw_iconst dX12_differ_23 (v := (0 : Int32)) (by decide) ?_
    cases hq
    exact jw_iret (ty := .int) dX12_differ_24 rfl rfl

set_option maxRecDepth 100000 in
set_option maxHeartbeats 4000000 in
theorem l_X12_differ {hi : jw_H} {h : jw_H} {x0 : Nat} {x1 : Int32} {r : Int32} {h' : jw_H} (hq : f_X12_differ  h x0 x1 = some (r, h')) : jw_E 4 uX12_differ hi 0 [some (.ref x0), some (.int x1)] [] h (.inl (some (.int r))) h' := by
  unfold f_X12_differ at hq
  refine jw_aload_n dX12_differ_0 (o := (some x0)) rfl ?_
  refine jw_iload_n dX12_differ_1 rfl ?_
  obtain ⟨w2, h1, ew2, hq⟩ := jw_b2_spec hq
  refine jw_callS (As := [.int x1]) (S := [.ref x0]) (v := some (.int w2)) dX12_differ_2 mt_X12_isFour st_X12_isFour lk_X12_691 (c_X12_isFour ew2) rfl (by decide) (Nat.le_of_ble_eq_true rfl) rfl ?_
  rcases jw_if hq with ⟨c3, hq⟩ | ⟨c3, hq⟩
  · refine jw_if_eq_t (tgt := 12) dX12_differ_5 (by decide) c3 ?_
    refine jw_iconst dX12_differ_12 (v := (1 : Int32)) (by decide) ?_
    exact l_X12_differ_b13  hq
  · refine jw_if_eq_f (tgt := 12) dX12_differ_5 (by decide) c3 ?_
    refine jw_iconst dX12_differ_8 (v := (0 : Int32)) (by decide) ?_
    refine jw_goto (tgt := 13) dX12_differ_9 (by decide) ?_
    exact l_X12_differ_b13  hq

theorem c_X12_differ {h : jw_H} {x0 : Nat} {x1 : Int32} {r : Int32} {h' : jw_H} (hq : f_X12_differ h x0 x1 = some (r, h')) : jw_Con (Cond.code yX12_differ cX12_differ 2 (some .int)) yX12_differ 4 [.ref x0, .int x1] h (.inl (some (.int r))) h' :=
  jw_con false (plainFor_of_name (by decide +kernel)) (fun z => nomatch z) (by simp [jw_ent, jw_sl0_nil, jw_sl0_int, jw_sl0_long, jw_sl0_ref, jw_sl0_rf, jw_sl0_scr, List.replicate]) (by simp [jw_sl0_nil, jw_sl0_int, jw_sl0_long, jw_sl0_ref, jw_sl0_rf, jw_sl0_scr]) (l_X12_differ hq)


/-! X12_pairOf -/
noncomputable def g_X12_pairOf_b62 (h : jw_H) (t0 : Int32) : Option (Int32 × jw_H) :=
 some (t0, h)

noncomputable def g_X12_pairOf_b21 (h : jw_H) (x0 : Nat) (x1 : Int32) (x2 : Int32) (t0 : Nat) (t1 : Int32) : Option (Int32 × jw_H) :=
 (jw_pI h 12 (some t0) 0 t1).bind fun h1 =>
 (jw_gI h1 12 (some x0) 0).bind fun v2 =>
 if v2 ≤ 0 then ((jw_rc h1 12 (some x0)).bind fun a4 =>
 jw_b2 (f_X12_pair h1 a4 x1) fun w6 h5 =>
 (jw_gR h5 12 (some x0) 79).bind fun v7 =>
 (jw_ai h5 20 v7 (x2 - (1 : Int32))).bind fun v8 =>
 if v8 ≤ 0 then (g_X12_pairOf_b62  h5 (-1 : Int32))
 else ((jw_gR h5 12 (some x0) 79).bind fun v10 =>
 (jw_ai h5 20 v10 (x2 - (1 : Int32))).bind fun v11 =>
 g_X12_pairOf_b62  h5 v11))
 else (some ((0 : Int32), h1))

noncomputable def g_X12_pairOf_b20 (h : jw_H) (x0 : Nat) (x1 : Int32) (x2 : Int32) (t0 : Nat) : Option (Int32 × jw_H) :=
 g_X12_pairOf_b21  h x0 x1 x2 t0 (1 : Int32)

noncomputable def f_X12_pairOf (h : jw_H) (x0 : Nat) (x1 : Int32) (x2 : Int32) : Option (Int32 × jw_H) :=
 jw_b2 (f_X12_isFour h x1) fun w2 h1 =>
 if w2 = 0 then (g_X12_pairOf_b20  h1 x0 x1 x2 x0)
 else ((jw_rc h1 12 (some x0)).bind fun a4 =>
 jw_b2 (f_X12_isLine h1 a4 x2) fun w6 h5 =>
 if w6 = 0 then (g_X12_pairOf_b20  h5 x0 x1 x2 x0)
 else (g_X12_pairOf_b21  h5 x0 x1 x2 x0 (0 : Int32)))

set_option maxRecDepth 100000 in
set_option maxHeartbeats 4000000 in
theorem l_X12_pairOf_b62 {hi : jw_H} {h : jw_H} {t0 : Int32} {r : Int32} {h' : jw_H} (hq : g_X12_pairOf_b62  h t0 = some (r, h')) : jw_E 4 uX12_pairOf hi 62 [none, none, none] [.int t0] h (.inl (some (.int r))) h' := by
  unfold g_X12_pairOf_b62 at hq
  cases hq
  exact jw_iret (ty := .int) dX12_pairOf_62 rfl rfl

set_option maxRecDepth 100000 in
set_option maxHeartbeats 4000000 in
theorem l_X12_pairOf_b21 {hi : jw_H} {h : jw_H} {x0 : Nat} {x1 : Int32} {x2 : Int32} {t0 : Nat} {t1 : Int32} {r : Int32} {h' : jw_H} (hq : g_X12_pairOf_b21  h x0 x1 x2 t0 t1 = some (r, h')) : jw_E 4 uX12_pairOf hi 21 [some (.ref x0), some (.int x1), some (.int x2)] [.int t1, .ref t0] h (.inl (some (.int r))) h' := by
  unfold g_X12_pairOf_b21 at hq
  obtain ⟨h1, eh1, hq⟩ := Option.bind_eq_some_iff.mp hq
  refine jw_putI (o := (some t0)) dX12_pairOf_21 eh1 fl_X12_105 rfl rfl ?_
  refine jw_aload_n dX12_pairOf_24 (o := (some x0)) rfl ?_
  obtain ⟨v2, ev2, hq⟩ := Option.bind_eq_some_iff.mp hq
  refine jw_getI (o := (some x0)) dX12_pairOf_25 ev2 fl_X12_105 rfl ?_
  rcases jw_if hq with ⟨c3, hq⟩ | ⟨c3, hq⟩
  · refine jw_if_le_t (tgt := 33) dX12_pairOf_28 (by decide) c3 ?_
    refine jw_aload_n dX12_pairOf_33 (o := (some x0)) rfl ?_
    refine jw_iload_n dX12_pairOf_34 rfl ?_
    obtain ⟨a4, ea4, hq⟩ := Option.bind_eq_some_iff.mp hq
    obtain ⟨eoa4, eta4⟩ := jw_rc_spec ea4
    obtain ⟨w6, h5, ew6, hq⟩ := jw_b2_spec hq
    refine jw_callV (As := [.int x1]) (S := []) (a := a4) (v := some (.int w6)) dX12_pairOf_35 mt_X12_pair in_X12_pair se_X12_pair lk_X12_734 (c_X12_pair ew6) eta4 (by decide) rfl rfl (by decide) (Nat.le_of_ble_eq_true rfl) (by cases eoa4; rfl) ?_
    refine jw_pop dX12_pairOf_38 rfl ?_
    refine jw_aload_n dX12_pairOf_39 (o := (some x0)) rfl ?_
    obtain ⟨v7, ev7, hq⟩ := Option.bind_eq_some_iff.mp hq
    refine jw_getR (o := (some x0)) dX12_pairOf_40 ev7 fl_X12_102 rfl ?_
    refine jw_iload_n dX12_pairOf_43 rfl ?_
    refine jw_iconst dX12_pairOf_44 (v := (1 : Int32)) (by decide) ?_
    refine jw_isub dX12_pairOf_45 ?_
    obtain ⟨v8, ev8, hq⟩ := Option.bind_eq_some_iff.mp hq
    refine jw_iald (o := v7) dX12_pairOf_46 ev8 ?_
    rcases jw_if hq with ⟨c9, hq⟩ | ⟨c9, hq⟩
    · refine jw_if_le_t (tgt := 61) dX12_pairOf_47 (by decide) c9 ?_
      refine jw_iconst dX12_pairOf_61 (v := (-1 : Int32)) (by decide) ?_
      refine jw_forget [false, false, false] (L' := [none, none, none]) rfl ?_
      exact l_X12_pairOf_b62  hq
    · refine jw_if_le_f (tgt := 61) dX12_pairOf_47 (by decide) c9 ?_
      refine jw_aload_n dX12_pairOf_50 (o := (some x0)) rfl ?_
      obtain ⟨v10, ev10, hq⟩ := Option.bind_eq_some_iff.mp hq
      refine jw_getR (o := (some x0)) dX12_pairOf_51 ev10 fl_X12_102 rfl ?_
      refine jw_iload_n dX12_pairOf_54 rfl ?_
      refine jw_iconst dX12_pairOf_55 (v := (1 : Int32)) (by decide) ?_
      refine jw_isub dX12_pairOf_56 ?_
      obtain ⟨v11, ev11, hq⟩ := Option.bind_eq_some_iff.mp hq
      refine jw_iald (o := v10) dX12_pairOf_57 ev11 ?_
      refine jw_goto (tgt := 62) dX12_pairOf_58 (by decide) ?_
      refine jw_forget [false, false, false] (L' := [none, none, none]) rfl ?_
      exact l_X12_pairOf_b62  hq
  · refine jw_if_le_f (tgt := 33) dX12_pairOf_28 (by decide) c3 ?_
    refine jw_iconst dX12_pairOf_31 (v := (0 : Int32)) (by decide) ?_
    cases hq
    exact jw_iret (ty := .int) dX12_pairOf_32 rfl rfl

set_option maxRecDepth 100000 in
set_option maxHeartbeats 4000000 in
theorem l_X12_pairOf_b20 {hi : jw_H} {h : jw_H} {x0 : Nat} {x1 : Int32} {x2 : Int32} {t0 : Nat} {r : Int32} {h' : jw_H} (hq : g_X12_pairOf_b20  h x0 x1 x2 t0 = some (r, h')) : jw_E 4 uX12_pairOf hi 20 [some (.ref x0), some (.int x1), some (.int x2)] [.ref t0] h (.inl (some (.int r))) h' := by
  unfold g_X12_pairOf_b20 at hq
  refine jw_iconst dX12_pairOf_20 (v := (1 : Int32)) (by decide) ?_
  exact l_X12_pairOf_b21  hq

set_option maxRecDepth 100000 in
set_option maxHeartbeats 4000000 in
theorem l_X12_pairOf {hi : jw_H} {h : jw_H} {x0 : Nat} {x1 : Int32} {x2 : Int32} {r : Int32} {h' : jw_H} (hq : f_X12_pairOf  h x0 x1 x2 = some (r, h')) : jw_E 4 uX12_pairOf hi 0 [some (.ref x0), some (.int x1), some (.int x2)] [] h (.inl (some (.int r))) h' := by
  unfold f_X12_pairOf at hq
  refine jw_aload_n dX12_pairOf_0 (o := (some x0)) rfl ?_
  refine jw_iload_n dX12_pairOf_1 rfl ?_
  obtain ⟨w2, h1, ew2, hq⟩ := jw_b2_spec hq
  refine jw_callS (As := [.int x1]) (S := [.ref x0]) (v := some (.int w2)) dX12_pairOf_2 mt_X12_isFour st_X12_isFour lk_X12_691 (c_X12_isFour ew2) rfl (by decide) (Nat.le_of_ble_eq_true rfl) rfl ?_
  rcases jw_if hq with ⟨c3, hq⟩ | ⟨c3, hq⟩
  · refine jw_if_eq_t (tgt := 20) dX12_pairOf_5 (by decide) c3 ?_
    exact l_X12_pairOf_b20  hq
  · refine jw_if_eq_f (tgt := 20) dX12_pairOf_5 (by decide) c3 ?_
    refine jw_aload_n dX12_pairOf_8 (o := (some x0)) rfl ?_
    refine jw_iload_n dX12_pairOf_9 rfl ?_
    obtain ⟨a4, ea4, hq⟩ := Option.bind_eq_some_iff.mp hq
    obtain ⟨eoa4, eta4⟩ := jw_rc_spec ea4
    obtain ⟨w6, h5, ew6, hq⟩ := jw_b2_spec hq
    refine jw_callV (As := [.int x2]) (S := [.ref x0]) (a := a4) (v := some (.int w6)) dX12_pairOf_10 mt_X12_isLine in_X12_isLine se_X12_isLine lk_X12_703 (c_X12_isLine ew6) eta4 (by decide) rfl rfl (by decide) (Nat.le_of_ble_eq_true rfl) (by cases eoa4; rfl) ?_
    rcases jw_if hq with ⟨c7, hq⟩ | ⟨c7, hq⟩
    · refine jw_if_eq_t (tgt := 20) dX12_pairOf_13 (by decide) c7 ?_
      exact l_X12_pairOf_b20  hq
    · refine jw_if_eq_f (tgt := 20) dX12_pairOf_13 (by decide) c7 ?_
      refine jw_iconst dX12_pairOf_16 (v := (0 : Int32)) (by decide) ?_
      refine jw_goto (tgt := 21) dX12_pairOf_17 (by decide) ?_
      exact l_X12_pairOf_b21  hq

theorem c_X12_pairOf {h : jw_H} {x0 : Nat} {x1 : Int32} {x2 : Int32} {r : Int32} {h' : jw_H} (hq : f_X12_pairOf h x0 x1 x2 = some (r, h')) : jw_Con (Cond.code yX12_pairOf cX12_pairOf 3 (some .int)) yX12_pairOf 4 [.ref x0, .int x1, .int x2] h (.inl (some (.int r))) h' :=
  jw_con false (plainFor_of_name (by decide +kernel)) (fun z => nomatch z) (by simp [jw_ent, jw_sl0_nil, jw_sl0_int, jw_sl0_long, jw_sl0_ref, jw_sl0_rf, jw_sl0_scr, List.replicate]) (by simp [jw_sl0_nil, jw_sl0_int, jw_sl0_long, jw_sl0_ref, jw_sl0_rf, jw_sl0_scr]) (l_X12_pairOf hq)


/-! X12_isSound -/
noncomputable def g_X12_isSound_b65 (k40 : jw_H → Nat → Int32 → Int32 → Option (Int32 × jw_H)) (h : jw_H) (x0 : Nat) (x2 : Int32) (t0 : Int32) : Option (Int32 × jw_H) :=
 k40 h x0 t0 (x2 + (1 : Int32))

noncomputable def g_X12_isSound_b64 (k40 : jw_H → Nat → Int32 → Int32 → Option (Int32 × jw_H)) (h : jw_H) (x0 : Nat) (x2 : Int32) : Option (Int32 × jw_H) :=
 g_X12_isSound_b65 k40 h x0 x2 (0 : Int32)

noncomputable def g_X12_isSound_b120 (k74 : jw_H → Nat → Int32 → Int32 → Option (Int32 × jw_H)) (h : jw_H) (x0 : Nat) (x2 : Int32) (t0 : Int32) : Option (Int32 × jw_H) :=
 k74 h x0 t0 (x2 + (1 : Int32))

noncomputable def g_X12_isSound_b119 (k74 : jw_H → Nat → Int32 → Int32 → Option (Int32 × jw_H)) (h : jw_H) (x0 : Nat) (x2 : Int32) : Option (Int32 × jw_H) :=
 g_X12_isSound_b120 k74 h x0 x2 (0 : Int32)

noncomputable def g_X12_isSound_b165 (k129 : jw_H → Nat → Int32 → Int32 → Option (Int32 × jw_H)) (h : jw_H) (x0 : Nat) (x2 : Int32) (t0 : Int32) : Option (Int32 × jw_H) :=
 k129 h x0 t0 (x2 + (1 : Int32))

noncomputable def g_X12_isSound_b160 (k129 : jw_H → Nat → Int32 → Int32 → Option (Int32 × jw_H)) (h : jw_H) (x0 : Nat) (x2 : Int32) : Option (Int32 × jw_H) :=
 g_X12_isSound_b165 k129 h x0 x2 (1 : Int32)

noncomputable def g_X12_isSound_b164 (k129 : jw_H → Nat → Int32 → Int32 → Option (Int32 × jw_H)) (h : jw_H) (x0 : Nat) (x2 : Int32) : Option (Int32 × jw_H) :=
 g_X12_isSound_b165 k129 h x0 x2 (0 : Int32)

noncomputable def g_X12_isSound_b217 (h : jw_H) (t0 : Int32) : Option (Int32 × jw_H) :=
 (jw_rb t0).bind fun v1 =>
 some (t0, h)

noncomputable def g_X12_isSound_b212 (h : jw_H)  : Option (Int32 × jw_H) :=
 g_X12_isSound_b217  h (1 : Int32)

noncomputable def g_X12_isSound_b216 (h : jw_H)  : Option (Int32 × jw_H) :=
 g_X12_isSound_b217  h (0 : Int32)

noncomputable def g_X12_isSound_b129 (k129 : jw_H → Nat → Int32 → Int32 → Option (Int32 × jw_H)) (h : jw_H) (x0 : Nat) (x1 : Int32) (x2 : Int32) : Option (Int32 × jw_H) :=
 if (5 : Int32) ≤ x2 then (if x1 = 0 then (g_X12_isSound_b216  h )
 else ((jw_gI h 12 (some x0) 12).bind fun v3 =>
 if v3 = 0 then ((jw_gI h 12 (some x0) 16).bind fun v10 =>
 if v10 = 0 then (g_X12_isSound_b212  h )
 else (g_X12_isSound_b216  h ))
 else ((jw_gI h 12 (some x0) 16).bind fun v5 =>
 if v5 < (1 : Int32) then (g_X12_isSound_b216  h )
 else ((jw_gI h 12 (some x0) 16).bind fun v7 =>
 (jw_gI h 12 (some x0) 12).bind fun v8 =>
 if v8 < v7 then (g_X12_isSound_b216  h )
 else (g_X12_isSound_b212  h )))))
 else (if x1 = 0 then (g_X12_isSound_b164 k129 h x0 x2)
 else ((jw_gR h 12 (some x0) 10).bind fun v13 =>
 (jw_ai h 20 v13 x2).bind fun v14 =>
 if v14 < 0 then (g_X12_isSound_b160 k129 h x0 x2)
 else ((jw_gR h 12 (some x0) 10).bind fun v16 =>
 (jw_ai h 20 v16 x2).bind fun v17 =>
 (jw_rc h 12 (some x0)).bind fun a18 =>
 jw_b2 (f_X12_lineWith h a18 v17) fun w20 h19 =>
 if w20 ≤ 0 then (g_X12_isSound_b164 k129 h19 x0 x2)
 else (g_X12_isSound_b160 k129 h19 x0 x2))))

noncomputable def f_X12_isSound_b129 (n : Nat) : jw_H → Nat → Int32 → Int32 → Option (Int32 × jw_H) :=
 Nat.rec (fun _ _ _ _ => none) (fun _ k129 => g_X12_isSound_b129 k129) n

noncomputable def g_X12_isSound_b74 (k74 : jw_H → Nat → Int32 → Int32 → Option (Int32 × jw_H)) (h : jw_H) (x0 : Nat) (x1 : Int32) (x2 : Int32) : Option (Int32 × jw_H) :=
 (jw_gI h 12 (some x0) 12).bind fun v1 =>
 if v1 ≤ x2 then (f_X12_isSound_b129  jw_FU h x0 x1 (0 : Int32))
 else (if x1 = 0 then (g_X12_isSound_b119 k74 h x0 x2)
 else ((jw_gR h 12 (some x0) 7).bind fun v4 =>
 (jw_ai h 20 v4 x2).bind fun v5 =>
 (jw_gI h 12 (some x0) 17).bind fun v6 =>
 if v6 ≤ v5 then (g_X12_isSound_b119 k74 h x0 x2)
 else ((jw_gR h 12 (some x0) 7).bind fun v8 =>
 (jw_ai h 20 v8 x2).bind fun v9 =>
 (jw_rc h 12 (some x0)).bind fun a10 =>
 jw_b2 (f_X12_lineWith h a10 v9) fun w12 h11 =>
 if w12 = (x2 + (1 : Int32)) then (g_X12_isSound_b120 k74 h11 x0 x2 (1 : Int32))
 else (g_X12_isSound_b119 k74 h11 x0 x2))))

noncomputable def f_X12_isSound_b74 (n : Nat) : jw_H → Nat → Int32 → Int32 → Option (Int32 × jw_H) :=
 Nat.rec (fun _ _ _ _ => none) (fun _ k74 => g_X12_isSound_b74 k74) n

noncomputable def g_X12_isSound_b40 (k40 : jw_H → Nat → Int32 → Int32 → Option (Int32 × jw_H)) (h : jw_H) (x0 : Nat) (x1 : Int32) (x2 : Int32) : Option (Int32 × jw_H) :=
 if (4 : Int32) ≤ x2 then (f_X12_isSound_b74  jw_FU h x0 x1 (0 : Int32))
 else (if x1 = 0 then (g_X12_isSound_b64 k40 h x0 x2)
 else ((jw_gR h 12 (some x0) 11).bind fun v3 =>
 (jw_ai h 20 v3 x2).bind fun v4 =>
 if (40 : Int32) < v4 then (g_X12_isSound_b64 k40 h x0 x2)
 else (g_X12_isSound_b65 k40 h x0 x2 (1 : Int32))))

noncomputable def f_X12_isSound_b40 (n : Nat) : jw_H → Nat → Int32 → Int32 → Option (Int32 × jw_H) :=
 Nat.rec (fun _ _ _ _ => none) (fun _ k40 => g_X12_isSound_b40 k40) n

noncomputable def g_X12_isSound_b37 (h : jw_H) (x0 : Nat) (t0 : Int32) : Option (Int32 × jw_H) :=
 f_X12_isSound_b40  jw_FU h x0 t0 (0 : Int32)

noncomputable def g_X12_isSound_b36 (h : jw_H) (x0 : Nat) : Option (Int32 × jw_H) :=
 g_X12_isSound_b37  h x0 (0 : Int32)

noncomputable def f_X12_isSound (h : jw_H) (x0 : Nat) : Option (Int32 × jw_H) :=
 (jw_pI h 12 (some x0) 0 (0 : Int32)).bind fun h1 =>
 (jw_gI h1 12 (some x0) 12).bind fun v2 =>
 if (40 : Int32) < v2 then (g_X12_isSound_b36  h1 x0)
 else ((jw_gI h1 12 (some x0) 14).bind fun v4 =>
 if (40 : Int32) < v4 then (g_X12_isSound_b36  h1 x0)
 else ((jw_gI h1 12 (some x0) 15).bind fun v6 =>
 if (100 : Int32) < v6 then (g_X12_isSound_b36  h1 x0)
 else (g_X12_isSound_b37  h1 x0 (1 : Int32))))

set_option maxRecDepth 100000 in
set_option maxHeartbeats 4000000 in
theorem l_X12_isSound_b65 {hi : jw_H} {k40 : jw_H → Nat → Int32 → Int32 → Option (Int32 × jw_H)} (hk40 : ∀ (h : jw_H) (x0 : Nat) (x1 : Int32) (x2 : Int32) (r : Int32) (h' : jw_H), k40 h x0 x1 x2 = some (r, h') → jw_E 1 uX12_isSound hi 40 [some (.ref x0), some (.int x1), some (.int x2)] [] h (.inl (some (.int r))) h') {h : jw_H} {x0 : Nat} {x2 : Int32} {t0 : Int32} {r : Int32} {h' : jw_H} (hq : g_X12_isSound_b65 k40 h x0 x2 t0 = some (r, h')) : jw_E 1 uX12_isSound hi 65 [some (.ref x0), none, some (.int x2)] [.int t0] h (.inl (some (.int r))) h' := by
  unfold g_X12_isSound_b65 at hq
  refine jw_istore_n (L' := [some (.ref x0), some (.int t0), some (.int x2)]) dX12_isSound_65 (Nat.le_of_ble_eq_true rfl) rfl ?_
  refine jw_iinc (L' := [some (.ref x0), some (.int t0), some (.int (x2 + (1 : Int32)))]) dX12_isSound_66 rfl (v := (1 : Int32)) (by decide) (Nat.le_of_ble_eq_true rfl) rfl ?_
  refine jw_goto (tgt := 40) dX12_isSound_69 (by decide) ?_
  exact hk40 _ _ _ _ _ _ hq

set_option maxRecDepth 100000 in
set_option maxHeartbeats 4000000 in
theorem l_X12_isSound_b64 {hi : jw_H} {k40 : jw_H → Nat → Int32 → Int32 → Option (Int32 × jw_H)} (hk40 : ∀ (h : jw_H) (x0 : Nat) (x1 : Int32) (x2 : Int32) (r : Int32) (h' : jw_H), k40 h x0 x1 x2 = some (r, h') → jw_E 1 uX12_isSound hi 40 [some (.ref x0), some (.int x1), some (.int x2)] [] h (.inl (some (.int r))) h') {h : jw_H} {x0 : Nat} {x2 : Int32} {r : Int32} {h' : jw_H} (hq : g_X12_isSound_b64 k40 h x0 x2 = some (r, h')) : jw_E 1 uX12_isSound hi 64 [some (.ref x0), none, some (.int x2)] [] h (.inl (some (.int r))) h' := by
  unfold g_X12_isSound_b64 at hq
  refine jw_iconst dX12_isSound_64 (v := (0 : Int32)) (by decide) ?_
  exact l_X12_isSound_b65 hk40 hq

set_option maxRecDepth 100000 in
set_option maxHeartbeats 4000000 in
theorem l_X12_isSound_b120 {hi : jw_H} {k74 : jw_H → Nat → Int32 → Int32 → Option (Int32 × jw_H)} (hk74 : ∀ (h : jw_H) (x0 : Nat) (x1 : Int32) (x2 : Int32) (r : Int32) (h' : jw_H), k74 h x0 x1 x2 = some (r, h') → jw_E 1 uX12_isSound hi 74 [some (.ref x0), some (.int x1), some (.int x2)] [] h (.inl (some (.int r))) h') {h : jw_H} {x0 : Nat} {x2 : Int32} {t0 : Int32} {r : Int32} {h' : jw_H} (hq : g_X12_isSound_b120 k74 h x0 x2 t0 = some (r, h')) : jw_E 1 uX12_isSound hi 120 [some (.ref x0), none, some (.int x2)] [.int t0] h (.inl (some (.int r))) h' := by
  unfold g_X12_isSound_b120 at hq
  refine jw_istore_n (L' := [some (.ref x0), some (.int t0), some (.int x2)]) dX12_isSound_120 (Nat.le_of_ble_eq_true rfl) rfl ?_
  refine jw_iinc (L' := [some (.ref x0), some (.int t0), some (.int (x2 + (1 : Int32)))]) dX12_isSound_121 rfl (v := (1 : Int32)) (by decide) (Nat.le_of_ble_eq_true rfl) rfl ?_
  refine jw_goto (tgt := 74) dX12_isSound_124 (by decide) ?_
  exact hk74 _ _ _ _ _ _ hq

set_option maxRecDepth 100000 in
set_option maxHeartbeats 4000000 in
theorem l_X12_isSound_b119 {hi : jw_H} {k74 : jw_H → Nat → Int32 → Int32 → Option (Int32 × jw_H)} (hk74 : ∀ (h : jw_H) (x0 : Nat) (x1 : Int32) (x2 : Int32) (r : Int32) (h' : jw_H), k74 h x0 x1 x2 = some (r, h') → jw_E 1 uX12_isSound hi 74 [some (.ref x0), some (.int x1), some (.int x2)] [] h (.inl (some (.int r))) h') {h : jw_H} {x0 : Nat} {x2 : Int32} {r : Int32} {h' : jw_H} (hq : g_X12_isSound_b119 k74 h x0 x2 = some (r, h')) : jw_E 1 uX12_isSound hi 119 [some (.ref x0), none, some (.int x2)] [] h (.inl (some (.int r))) h' := by
  unfold g_X12_isSound_b119 at hq
  refine jw_iconst dX12_isSound_119 (v := (0 : Int32)) (by decide) ?_
  exact l_X12_isSound_b120 hk74 hq

set_option maxRecDepth 100000 in
set_option maxHeartbeats 4000000 in
theorem l_X12_isSound_b165 {hi : jw_H} {k129 : jw_H → Nat → Int32 → Int32 → Option (Int32 × jw_H)} (hk129 : ∀ (h : jw_H) (x0 : Nat) (x1 : Int32) (x2 : Int32) (r : Int32) (h' : jw_H), k129 h x0 x1 x2 = some (r, h') → jw_E 1 uX12_isSound hi 129 [some (.ref x0), some (.int x1), some (.int x2)] [] h (.inl (some (.int r))) h') {h : jw_H} {x0 : Nat} {x2 : Int32} {t0 : Int32} {r : Int32} {h' : jw_H} (hq : g_X12_isSound_b165 k129 h x0 x2 t0 = some (r, h')) : jw_E 1 uX12_isSound hi 165 [some (.ref x0), none, some (.int x2)] [.int t0] h (.inl (some (.int r))) h' := by
  unfold g_X12_isSound_b165 at hq
  refine jw_istore_n (L' := [some (.ref x0), some (.int t0), some (.int x2)]) dX12_isSound_165 (Nat.le_of_ble_eq_true rfl) rfl ?_
  refine jw_iinc (L' := [some (.ref x0), some (.int t0), some (.int (x2 + (1 : Int32)))]) dX12_isSound_166 rfl (v := (1 : Int32)) (by decide) (Nat.le_of_ble_eq_true rfl) rfl ?_
  refine jw_goto (tgt := 129) dX12_isSound_169 (by decide) ?_
  exact hk129 _ _ _ _ _ _ hq

set_option maxRecDepth 100000 in
set_option maxHeartbeats 4000000 in
theorem l_X12_isSound_b160 {hi : jw_H} {k129 : jw_H → Nat → Int32 → Int32 → Option (Int32 × jw_H)} (hk129 : ∀ (h : jw_H) (x0 : Nat) (x1 : Int32) (x2 : Int32) (r : Int32) (h' : jw_H), k129 h x0 x1 x2 = some (r, h') → jw_E 1 uX12_isSound hi 129 [some (.ref x0), some (.int x1), some (.int x2)] [] h (.inl (some (.int r))) h') {h : jw_H} {x0 : Nat} {x2 : Int32} {r : Int32} {h' : jw_H} (hq : g_X12_isSound_b160 k129 h x0 x2 = some (r, h')) : jw_E 1 uX12_isSound hi 160 [some (.ref x0), none, some (.int x2)] [] h (.inl (some (.int r))) h' := by
  unfold g_X12_isSound_b160 at hq
  refine jw_iconst dX12_isSound_160 (v := (1 : Int32)) (by decide) ?_
  refine jw_goto (tgt := 165) dX12_isSound_161 (by decide) ?_
  exact l_X12_isSound_b165 hk129 hq

set_option maxRecDepth 100000 in
set_option maxHeartbeats 4000000 in
theorem l_X12_isSound_b164 {hi : jw_H} {k129 : jw_H → Nat → Int32 → Int32 → Option (Int32 × jw_H)} (hk129 : ∀ (h : jw_H) (x0 : Nat) (x1 : Int32) (x2 : Int32) (r : Int32) (h' : jw_H), k129 h x0 x1 x2 = some (r, h') → jw_E 1 uX12_isSound hi 129 [some (.ref x0), some (.int x1), some (.int x2)] [] h (.inl (some (.int r))) h') {h : jw_H} {x0 : Nat} {x2 : Int32} {r : Int32} {h' : jw_H} (hq : g_X12_isSound_b164 k129 h x0 x2 = some (r, h')) : jw_E 1 uX12_isSound hi 164 [some (.ref x0), none, some (.int x2)] [] h (.inl (some (.int r))) h' := by
  unfold g_X12_isSound_b164 at hq
  refine jw_iconst dX12_isSound_164 (v := (0 : Int32)) (by decide) ?_
  exact l_X12_isSound_b165 hk129 hq

set_option maxRecDepth 100000 in
set_option maxHeartbeats 4000000 in
theorem l_X12_isSound_b217 {hi : jw_H} {h : jw_H} {t0 : Int32} {r : Int32} {h' : jw_H} (hq : g_X12_isSound_b217  h t0 = some (r, h')) : jw_E 1 uX12_isSound hi 217 [none, none, none] [.int t0] h (.inl (some (.int r))) h' := by
  unfold g_X12_isSound_b217 at hq
  obtain ⟨v1, ev1, hq⟩ := Option.bind_eq_some_iff.mp hq
  cases hq
  exact jw_iret (ty := .boolean) dX12_isSound_217 rfl (jw_rb_spec ev1)

set_option maxRecDepth 100000 in
set_option maxHeartbeats 4000000 in
theorem l_X12_isSound_b212 {hi : jw_H} {h : jw_H}  {r : Int32} {h' : jw_H} (hq : g_X12_isSound_b212  h  = some (r, h')) : jw_E 1 uX12_isSound hi 212 [none, none, none] [] h (.inl (some (.int r))) h' := by
  unfold g_X12_isSound_b212 at hq
  refine jw_iconst dX12_isSound_212 (v := (1 : Int32)) (by decide) ?_
  refine jw_goto (tgt := 217) dX12_isSound_213 (by decide) ?_
  exact l_X12_isSound_b217  hq

set_option maxRecDepth 100000 in
set_option maxHeartbeats 4000000 in
theorem l_X12_isSound_b216 {hi : jw_H} {h : jw_H}  {r : Int32} {h' : jw_H} (hq : g_X12_isSound_b216  h  = some (r, h')) : jw_E 1 uX12_isSound hi 216 [none, none, none] [] h (.inl (some (.int r))) h' := by
  unfold g_X12_isSound_b216 at hq
  refine jw_iconst dX12_isSound_216 (v := (0 : Int32)) (by decide) ?_
  exact l_X12_isSound_b217  hq

set_option maxRecDepth 100000 in
set_option maxHeartbeats 4000000 in
theorem l_X12_isSound_b129g {hi : jw_H} {k129 : jw_H → Nat → Int32 → Int32 → Option (Int32 × jw_H)} (hk129 : ∀ (h : jw_H) (x0 : Nat) (x1 : Int32) (x2 : Int32) (r : Int32) (h' : jw_H), k129 h x0 x1 x2 = some (r, h') → jw_E 1 uX12_isSound hi 129 [some (.ref x0), some (.int x1), some (.int x2)] [] h (.inl (some (.int r))) h') {h : jw_H} {x0 : Nat} {x1 : Int32} {x2 : Int32} {r : Int32} {h' : jw_H} (hq : g_X12_isSound_b129 k129 h x0 x1 x2 = some (r, h')) : jw_E 1 uX12_isSound hi 129 [some (.ref x0), some (.int x1), some (.int x2)] [] h (.inl (some (.int r))) h' := by
  unfold g_X12_isSound_b129 at hq
  refine jw_iload_n dX12_isSound_129 rfl ?_
  refine jw_iconst dX12_isSound_130 (v := (5 : Int32)) (by decide) ?_
  rcases jw_if hq with ⟨c1, hq⟩ | ⟨c1, hq⟩
  · refine jw_icmp_ge_t (tgt := 172) dX12_isSound_131 (by decide) c1 ?_
    refine jw_iload_n dX12_isSound_172 rfl ?_
    rcases jw_if hq with ⟨c2, hq⟩ | ⟨c2, hq⟩
    · refine jw_if_eq_t (tgt := 216) dX12_isSound_173 (by decide) c2 ?_
      refine jw_forget [false, false, false] (L' := [none, none, none]) rfl ?_
      exact l_X12_isSound_b216  hq
    · refine jw_if_eq_f (tgt := 216) dX12_isSound_173 (by decide) c2 ?_
      refine jw_aload_n dX12_isSound_176 (o := (some x0)) rfl ?_
      obtain ⟨v3, ev3, hq⟩ := Option.bind_eq_some_iff.mp hq
      refine jw_getI (o := (some x0)) dX12_isSound_177 ev3 fl_X12_124 rfl ?_
      rcases jw_if hq with ⟨c4, hq⟩ | ⟨c4, hq⟩
      · refine jw_if_ne_f (tgt := 193) dX12_isSound_180 (by decide) c4 ?_
        refine jw_aload_n dX12_isSound_183 (o := (some x0)) rfl ?_
        obtain ⟨v10, ev10, hq⟩ := Option.bind_eq_some_iff.mp hq
        refine jw_getI (o := (some x0)) dX12_isSound_184 ev10 fl_X12_295 rfl ?_
        rcases jw_if hq with ⟨c11, hq⟩ | ⟨c11, hq⟩
        · refine jw_if_ne_f (tgt := 216) dX12_isSound_187 (by decide) c11 ?_
          refine jw_goto (tgt := 212) dX12_isSound_190 (by decide) ?_
          refine jw_forget [false, false, false] (L' := [none, none, none]) rfl ?_
          exact l_X12_isSound_b212  hq
        · refine jw_if_ne_t (tgt := 216) dX12_isSound_187 (by decide) c11 ?_
          refine jw_forget [false, false, false] (L' := [none, none, none]) rfl ?_
          exact l_X12_isSound_b216  hq
      · refine jw_if_ne_t (tgt := 193) dX12_isSound_180 (by decide) c4 ?_
        refine jw_aload_n dX12_isSound_193 (o := (some x0)) rfl ?_
        obtain ⟨v5, ev5, hq⟩ := Option.bind_eq_some_iff.mp hq
        refine jw_getI (o := (some x0)) dX12_isSound_194 ev5 fl_X12_295 rfl ?_
        refine jw_iconst dX12_isSound_197 (v := (1 : Int32)) (by decide) ?_
        rcases jw_if hq with ⟨c6, hq⟩ | ⟨c6, hq⟩
        · refine jw_icmp_lt_t (tgt := 216) dX12_isSound_198 (by decide) c6 ?_
          refine jw_forget [false, false, false] (L' := [none, none, none]) rfl ?_
          exact l_X12_isSound_b216  hq
        · refine jw_icmp_lt_f (tgt := 216) dX12_isSound_198 (by decide) c6 ?_
          refine jw_aload_n dX12_isSound_201 (o := (some x0)) rfl ?_
          obtain ⟨v7, ev7, hq⟩ := Option.bind_eq_some_iff.mp hq
          refine jw_getI (o := (some x0)) dX12_isSound_202 ev7 fl_X12_295 rfl ?_
          refine jw_aload_n dX12_isSound_205 (o := (some x0)) rfl ?_
          obtain ⟨v8, ev8, hq⟩ := Option.bind_eq_some_iff.mp hq
          refine jw_getI (o := (some x0)) dX12_isSound_206 ev8 fl_X12_124 rfl ?_
          rcases jw_if hq with ⟨c9, hq⟩ | ⟨c9, hq⟩
          · refine jw_icmp_gt_t (tgt := 216) dX12_isSound_209 (by decide) c9 ?_
            refine jw_forget [false, false, false] (L' := [none, none, none]) rfl ?_
            exact l_X12_isSound_b216  hq
          · refine jw_icmp_gt_f (tgt := 216) dX12_isSound_209 (by decide) c9 ?_
            refine jw_forget [false, false, false] (L' := [none, none, none]) rfl ?_
            exact l_X12_isSound_b212  hq
  · refine jw_icmp_ge_f (tgt := 172) dX12_isSound_131 (by decide) c1 ?_
    refine jw_iload_n dX12_isSound_134 rfl ?_
    rcases jw_if hq with ⟨c12, hq⟩ | ⟨c12, hq⟩
    · refine jw_if_eq_t (tgt := 164) dX12_isSound_135 (by decide) c12 ?_
      refine jw_forget [true, false, true] (L' := [some (.ref x0), none, some (.int x2)]) rfl ?_
      exact l_X12_isSound_b164 hk129 hq
    · refine jw_if_eq_f (tgt := 164) dX12_isSound_135 (by decide) c12 ?_
      refine jw_aload_n dX12_isSound_138 (o := (some x0)) rfl ?_
      obtain ⟨v13, ev13, hq⟩ := Option.bind_eq_some_iff.mp hq
      refine jw_getR (o := (some x0)) dX12_isSound_139 ev13 fl_X12_35 rfl ?_
      refine jw_iload_n dX12_isSound_142 rfl ?_
      obtain ⟨v14, ev14, hq⟩ := Option.bind_eq_some_iff.mp hq
      refine jw_iald (o := v13) dX12_isSound_143 ev14 ?_
      rcases jw_if hq with ⟨c15, hq⟩ | ⟨c15, hq⟩
      · refine jw_if_lt_t (tgt := 160) dX12_isSound_144 (by decide) c15 ?_
        refine jw_forget [true, false, true] (L' := [some (.ref x0), none, some (.int x2)]) rfl ?_
        exact l_X12_isSound_b160 hk129 hq
      · refine jw_if_lt_f (tgt := 160) dX12_isSound_144 (by decide) c15 ?_
        refine jw_aload_n dX12_isSound_147 (o := (some x0)) rfl ?_
        refine jw_aload_n dX12_isSound_148 (o := (some x0)) rfl ?_
        obtain ⟨v16, ev16, hq⟩ := Option.bind_eq_some_iff.mp hq
        refine jw_getR (o := (some x0)) dX12_isSound_149 ev16 fl_X12_35 rfl ?_
        refine jw_iload_n dX12_isSound_152 rfl ?_
        obtain ⟨v17, ev17, hq⟩ := Option.bind_eq_some_iff.mp hq
        refine jw_iald (o := v16) dX12_isSound_153 ev17 ?_
        obtain ⟨a18, ea18, hq⟩ := Option.bind_eq_some_iff.mp hq
        obtain ⟨eoa18, eta18⟩ := jw_rc_spec ea18
        obtain ⟨w20, h19, ew20, hq⟩ := jw_b2_spec hq
        refine jw_callV (As := [.int v17]) (S := []) (a := a18) (v := some (.int w20)) dX12_isSound_154 mt_X12_lineWith in_X12_lineWith se_X12_lineWith lk_X12_307 (c_X12_lineWith ew20) eta18 (by decide) rfl rfl (by decide) (Nat.le_of_ble_eq_true rfl) (by cases eoa18; rfl) ?_
        rcases jw_if hq with ⟨c21, hq⟩ | ⟨c21, hq⟩
        · refine jw_if_le_t (tgt := 164) dX12_isSound_157 (by decide) c21 ?_
          refine jw_forget [true, false, true] (L' := [some (.ref x0), none, some (.int x2)]) rfl ?_
          exact l_X12_isSound_b164 hk129 hq
        · refine jw_if_le_f (tgt := 164) dX12_isSound_157 (by decide) c21 ?_
          refine jw_forget [true, false, true] (L' := [some (.ref x0), none, some (.int x2)]) rfl ?_
          exact l_X12_isSound_b160 hk129 hq

theorem l_X12_isSound_b129 {hi : jw_H} : ∀ (n : Nat) (h : jw_H) (x0 : Nat) (x1 : Int32) (x2 : Int32) (r : Int32) (h' : jw_H), f_X12_isSound_b129  n h x0 x1 x2 = some (r, h') → jw_E 1 uX12_isSound hi 129 [some (.ref x0), some (.int x1), some (.int x2)] [] h (.inl (some (.int r))) h' := by
  intro n
  induction n with
  | zero => intro h x0 x1 x2 r h' hq; exact nomatch hq
  | succ n ih => intro h x0 x1 x2 r h' hq; exact l_X12_isSound_b129g ih hq

set_option maxRecDepth 100000 in
set_option maxHeartbeats 4000000 in
theorem l_X12_isSound_b74g {hi : jw_H} {k74 : jw_H → Nat → Int32 → Int32 → Option (Int32 × jw_H)} (hk74 : ∀ (h : jw_H) (x0 : Nat) (x1 : Int32) (x2 : Int32) (r : Int32) (h' : jw_H), k74 h x0 x1 x2 = some (r, h') → jw_E 1 uX12_isSound hi 74 [some (.ref x0), some (.int x1), some (.int x2)] [] h (.inl (some (.int r))) h') {h : jw_H} {x0 : Nat} {x1 : Int32} {x2 : Int32} {r : Int32} {h' : jw_H} (hq : g_X12_isSound_b74 k74 h x0 x1 x2 = some (r, h')) : jw_E 1 uX12_isSound hi 74 [some (.ref x0), some (.int x1), some (.int x2)] [] h (.inl (some (.int r))) h' := by
  unfold g_X12_isSound_b74 at hq
  refine jw_iload_n dX12_isSound_74 rfl ?_
  refine jw_aload_n dX12_isSound_75 (o := (some x0)) rfl ?_
  obtain ⟨v1, ev1, hq⟩ := Option.bind_eq_some_iff.mp hq
  refine jw_getI (o := (some x0)) dX12_isSound_76 ev1 fl_X12_124 rfl ?_
  rcases jw_if hq with ⟨c2, hq⟩ | ⟨c2, hq⟩
  · refine jw_icmp_ge_t (tgt := 127) dX12_isSound_79 (by decide) c2 ?_
    refine jw_iconst dX12_isSound_127 (v := (0 : Int32)) (by decide) ?_
    refine jw_istore_n (L' := [some (.ref x0), some (.int x1), some (.int (0 : Int32))]) dX12_isSound_128 (Nat.le_of_ble_eq_true rfl) rfl ?_
    exact l_X12_isSound_b129  jw_FU _ _ _ _ _ _ hq
  · refine jw_icmp_ge_f (tgt := 127) dX12_isSound_79 (by decide) c2 ?_
    refine jw_iload_n dX12_isSound_82 rfl ?_
    rcases jw_if hq with ⟨c3, hq⟩ | ⟨c3, hq⟩
    · refine jw_if_eq_t (tgt := 119) dX12_isSound_83 (by decide) c3 ?_
      refine jw_forget [true, false, true] (L' := [some (.ref x0), none, some (.int x2)]) rfl ?_
      exact l_X12_isSound_b119 hk74 hq
    · refine jw_if_eq_f (tgt := 119) dX12_isSound_83 (by decide) c3 ?_
      refine jw_aload_n dX12_isSound_86 (o := (some x0)) rfl ?_
      obtain ⟨v4, ev4, hq⟩ := Option.bind_eq_some_iff.mp hq
      refine jw_getR (o := (some x0)) dX12_isSound_87 ev4 fl_X12_26 rfl ?_
      refine jw_iload_n dX12_isSound_90 rfl ?_
      obtain ⟨v5, ev5, hq⟩ := Option.bind_eq_some_iff.mp hq
      refine jw_iald (o := v4) dX12_isSound_91 ev5 ?_
      refine jw_aload_n dX12_isSound_92 (o := (some x0)) rfl ?_
      obtain ⟨v6, ev6, hq⟩ := Option.bind_eq_some_iff.mp hq
      refine jw_getI (o := (some x0)) dX12_isSound_93 ev6 fl_X12_134 rfl ?_
      rcases jw_if hq with ⟨c7, hq⟩ | ⟨c7, hq⟩
      · refine jw_icmp_ge_t (tgt := 119) dX12_isSound_96 (by decide) c7 ?_
        refine jw_forget [true, false, true] (L' := [some (.ref x0), none, some (.int x2)]) rfl ?_
        exact l_X12_isSound_b119 hk74 hq
      · refine jw_icmp_ge_f (tgt := 119) dX12_isSound_96 (by decide) c7 ?_
        refine jw_aload_n dX12_isSound_99 (o := (some x0)) rfl ?_
        refine jw_aload_n dX12_isSound_100 (o := (some x0)) rfl ?_
        obtain ⟨v8, ev8, hq⟩ := Option.bind_eq_some_iff.mp hq
        refine jw_getR (o := (some x0)) dX12_isSound_101 ev8 fl_X12_26 rfl ?_
        refine jw_iload_n dX12_isSound_104 rfl ?_
        obtain ⟨v9, ev9, hq⟩ := Option.bind_eq_some_iff.mp hq
        refine jw_iald (o := v8) dX12_isSound_105 ev9 ?_
        obtain ⟨a10, ea10, hq⟩ := Option.bind_eq_some_iff.mp hq
        obtain ⟨eoa10, eta10⟩ := jw_rc_spec ea10
        obtain ⟨w12, h11, ew12, hq⟩ := jw_b2_spec hq
        refine jw_callV (As := [.int v9]) (S := []) (a := a10) (v := some (.int w12)) dX12_isSound_106 mt_X12_lineWith in_X12_lineWith se_X12_lineWith lk_X12_307 (c_X12_lineWith ew12) eta10 (by decide) rfl rfl (by decide) (Nat.le_of_ble_eq_true rfl) (by cases eoa10; rfl) ?_
        refine jw_iload_n dX12_isSound_109 rfl ?_
        refine jw_iconst dX12_isSound_110 (v := (1 : Int32)) (by decide) ?_
        refine jw_iadd dX12_isSound_111 ?_
        rcases jw_if hq with ⟨c13, hq⟩ | ⟨c13, hq⟩
        · refine jw_icmp_ne_f (tgt := 119) dX12_isSound_112 (by decide) c13 ?_
          refine jw_iconst dX12_isSound_115 (v := (1 : Int32)) (by decide) ?_
          refine jw_goto (tgt := 120) dX12_isSound_116 (by decide) ?_
          refine jw_forget [true, false, true] (L' := [some (.ref x0), none, some (.int x2)]) rfl ?_
          exact l_X12_isSound_b120 hk74 hq
        · refine jw_icmp_ne_t (tgt := 119) dX12_isSound_112 (by decide) c13 ?_
          refine jw_forget [true, false, true] (L' := [some (.ref x0), none, some (.int x2)]) rfl ?_
          exact l_X12_isSound_b119 hk74 hq

theorem l_X12_isSound_b74 {hi : jw_H} : ∀ (n : Nat) (h : jw_H) (x0 : Nat) (x1 : Int32) (x2 : Int32) (r : Int32) (h' : jw_H), f_X12_isSound_b74  n h x0 x1 x2 = some (r, h') → jw_E 1 uX12_isSound hi 74 [some (.ref x0), some (.int x1), some (.int x2)] [] h (.inl (some (.int r))) h' := by
  intro n
  induction n with
  | zero => intro h x0 x1 x2 r h' hq; exact nomatch hq
  | succ n ih => intro h x0 x1 x2 r h' hq; exact l_X12_isSound_b74g ih hq

set_option maxRecDepth 100000 in
set_option maxHeartbeats 4000000 in
theorem l_X12_isSound_b40g {hi : jw_H} {k40 : jw_H → Nat → Int32 → Int32 → Option (Int32 × jw_H)} (hk40 : ∀ (h : jw_H) (x0 : Nat) (x1 : Int32) (x2 : Int32) (r : Int32) (h' : jw_H), k40 h x0 x1 x2 = some (r, h') → jw_E 1 uX12_isSound hi 40 [some (.ref x0), some (.int x1), some (.int x2)] [] h (.inl (some (.int r))) h') {h : jw_H} {x0 : Nat} {x1 : Int32} {x2 : Int32} {r : Int32} {h' : jw_H} (hq : g_X12_isSound_b40 k40 h x0 x1 x2 = some (r, h')) : jw_E 1 uX12_isSound hi 40 [some (.ref x0), some (.int x1), some (.int x2)] [] h (.inl (some (.int r))) h' := by
  unfold g_X12_isSound_b40 at hq
  refine jw_iload_n dX12_isSound_40 rfl ?_
  refine jw_iconst dX12_isSound_41 (v := (4 : Int32)) (by decide) ?_
  rcases jw_if hq with ⟨c1, hq⟩ | ⟨c1, hq⟩
  · refine jw_icmp_ge_t (tgt := 72) dX12_isSound_42 (by decide) c1 ?_
    refine jw_iconst dX12_isSound_72 (v := (0 : Int32)) (by decide) ?_
    refine jw_istore_n (L' := [some (.ref x0), some (.int x1), some (.int (0 : Int32))]) dX12_isSound_73 (Nat.le_of_ble_eq_true rfl) rfl ?_
    exact l_X12_isSound_b74  jw_FU _ _ _ _ _ _ hq
  · refine jw_icmp_ge_f (tgt := 72) dX12_isSound_42 (by decide) c1 ?_
    refine jw_iload_n dX12_isSound_45 rfl ?_
    rcases jw_if hq with ⟨c2, hq⟩ | ⟨c2, hq⟩
    · refine jw_if_eq_t (tgt := 64) dX12_isSound_46 (by decide) c2 ?_
      refine jw_forget [true, false, true] (L' := [some (.ref x0), none, some (.int x2)]) rfl ?_
      exact l_X12_isSound_b64 hk40 hq
    · refine jw_if_eq_f (tgt := 64) dX12_isSound_46 (by decide) c2 ?_
      refine jw_aload_n dX12_isSound_49 (o := (some x0)) rfl ?_
      obtain ⟨v3, ev3, hq⟩ := Option.bind_eq_some_iff.mp hq
      refine jw_getR (o := (some x0)) dX12_isSound_50 ev3 fl_X12_38 rfl ?_
      refine jw_iload_n dX12_isSound_53 rfl ?_
      obtain ⟨v4, ev4, hq⟩ := Option.bind_eq_some_iff.mp hq
      refine jw_iald (o := v3) dX12_isSound_54 ev4 ?_
      refine jw_bipush dX12_isSound_55 (v := (40 : Int32)) (by decide) ?_
      rcases jw_if hq with ⟨c5, hq⟩ | ⟨c5, hq⟩
      · refine jw_icmp_gt_t (tgt := 64) dX12_isSound_57 (by decide) c5 ?_
        refine jw_forget [true, false, true] (L' := [some (.ref x0), none, some (.int x2)]) rfl ?_
        exact l_X12_isSound_b64 hk40 hq
      · refine jw_icmp_gt_f (tgt := 64) dX12_isSound_57 (by decide) c5 ?_
        refine jw_iconst dX12_isSound_60 (v := (1 : Int32)) (by decide) ?_
        refine jw_goto (tgt := 65) dX12_isSound_61 (by decide) ?_
        refine jw_forget [true, false, true] (L' := [some (.ref x0), none, some (.int x2)]) rfl ?_
        exact l_X12_isSound_b65 hk40 hq

theorem l_X12_isSound_b40 {hi : jw_H} : ∀ (n : Nat) (h : jw_H) (x0 : Nat) (x1 : Int32) (x2 : Int32) (r : Int32) (h' : jw_H), f_X12_isSound_b40  n h x0 x1 x2 = some (r, h') → jw_E 1 uX12_isSound hi 40 [some (.ref x0), some (.int x1), some (.int x2)] [] h (.inl (some (.int r))) h' := by
  intro n
  induction n with
  | zero => intro h x0 x1 x2 r h' hq; exact nomatch hq
  | succ n ih => intro h x0 x1 x2 r h' hq; exact l_X12_isSound_b40g ih hq

set_option maxRecDepth 100000 in
set_option maxHeartbeats 4000000 in
theorem l_X12_isSound_b37 {hi : jw_H} {h : jw_H} {x0 : Nat} {t0 : Int32} {r : Int32} {h' : jw_H} (hq : g_X12_isSound_b37  h x0 t0 = some (r, h')) : jw_E 1 uX12_isSound hi 37 [some (.ref x0), none, none] [.int t0] h (.inl (some (.int r))) h' := by
  unfold g_X12_isSound_b37 at hq
  refine jw_istore_n (L' := [some (.ref x0), some (.int t0), none]) dX12_isSound_37 (Nat.le_of_ble_eq_true rfl) rfl ?_
  refine jw_iconst dX12_isSound_38 (v := (0 : Int32)) (by decide) ?_
  refine jw_istore_n (L' := [some (.ref x0), some (.int t0), some (.int (0 : Int32))]) dX12_isSound_39 (Nat.le_of_ble_eq_true rfl) rfl ?_
  exact l_X12_isSound_b40  jw_FU _ _ _ _ _ _ hq

set_option maxRecDepth 100000 in
set_option maxHeartbeats 4000000 in
theorem l_X12_isSound_b36 {hi : jw_H} {h : jw_H} {x0 : Nat} {r : Int32} {h' : jw_H} (hq : g_X12_isSound_b36  h x0 = some (r, h')) : jw_E 1 uX12_isSound hi 36 [some (.ref x0), none, none] [] h (.inl (some (.int r))) h' := by
  unfold g_X12_isSound_b36 at hq
  refine jw_iconst dX12_isSound_36 (v := (0 : Int32)) (by decide) ?_
  exact l_X12_isSound_b37  hq

set_option maxRecDepth 100000 in
set_option maxHeartbeats 4000000 in
theorem l_X12_isSound {hi : jw_H} {h : jw_H} {x0 : Nat} {r : Int32} {h' : jw_H} (hq : f_X12_isSound  h x0 = some (r, h')) : jw_E 1 uX12_isSound hi 0 [some (.ref x0), none, none] [] h (.inl (some (.int r))) h' := by
  unfold f_X12_isSound at hq
  refine jw_aload_n dX12_isSound_0 (o := (some x0)) rfl ?_
  refine jw_iconst dX12_isSound_1 (v := (0 : Int32)) (by decide) ?_
  obtain ⟨h1, eh1, hq⟩ := Option.bind_eq_some_iff.mp hq
  refine jw_putI (o := (some x0)) dX12_isSound_2 eh1 fl_X12_105 rfl rfl ?_
  refine jw_aload_n dX12_isSound_5 (o := (some x0)) rfl ?_
  obtain ⟨v2, ev2, hq⟩ := Option.bind_eq_some_iff.mp hq
  refine jw_getI (o := (some x0)) dX12_isSound_6 ev2 fl_X12_124 rfl ?_
  refine jw_bipush dX12_isSound_9 (v := (40 : Int32)) (by decide) ?_
  rcases jw_if hq with ⟨c3, hq⟩ | ⟨c3, hq⟩
  · refine jw_icmp_gt_t (tgt := 36) dX12_isSound_11 (by decide) c3 ?_
    exact l_X12_isSound_b36  hq
  · refine jw_icmp_gt_f (tgt := 36) dX12_isSound_11 (by decide) c3 ?_
    refine jw_aload_n dX12_isSound_14 (o := (some x0)) rfl ?_
    obtain ⟨v4, ev4, hq⟩ := Option.bind_eq_some_iff.mp hq
    refine jw_getI (o := (some x0)) dX12_isSound_15 ev4 fl_X12_366 rfl ?_
    refine jw_bipush dX12_isSound_18 (v := (40 : Int32)) (by decide) ?_
    rcases jw_if hq with ⟨c5, hq⟩ | ⟨c5, hq⟩
    · refine jw_icmp_gt_t (tgt := 36) dX12_isSound_20 (by decide) c5 ?_
      exact l_X12_isSound_b36  hq
    · refine jw_icmp_gt_f (tgt := 36) dX12_isSound_20 (by decide) c5 ?_
      refine jw_aload_n dX12_isSound_23 (o := (some x0)) rfl ?_
      obtain ⟨v6, ev6, hq⟩ := Option.bind_eq_some_iff.mp hq
      refine jw_getI (o := (some x0)) dX12_isSound_24 ev6 fl_X12_357 rfl ?_
      refine jw_bipush dX12_isSound_27 (v := (100 : Int32)) (by decide) ?_
      rcases jw_if hq with ⟨c7, hq⟩ | ⟨c7, hq⟩
      · refine jw_icmp_gt_t (tgt := 36) dX12_isSound_29 (by decide) c7 ?_
        exact l_X12_isSound_b36  hq
      · refine jw_icmp_gt_f (tgt := 36) dX12_isSound_29 (by decide) c7 ?_
        refine jw_iconst dX12_isSound_32 (v := (1 : Int32)) (by decide) ?_
        refine jw_goto (tgt := 37) dX12_isSound_33 (by decide) ?_
        exact l_X12_isSound_b37  hq

theorem c_X12_isSound {h : jw_H} {x0 : Nat} {r : Int32} {h' : jw_H} (hq : f_X12_isSound h x0 = some (r, h')) : jw_Con (Cond.code yX12_isSound cX12_isSound 3 (some .boolean)) yX12_isSound 1 [.ref x0] h (.inl (some (.int r))) h' :=
  jw_con false (plainFor_of_name (by decide +kernel)) (fun z => nomatch z) (by simp [jw_ent, jw_sl0_nil, jw_sl0_int, jw_sl0_long, jw_sl0_ref, jw_sl0_rf, jw_sl0_scr, List.replicate]) (by simp [jw_sl0_nil, jw_sl0_int, jw_sl0_long, jw_sl0_ref, jw_sl0_rf, jw_sl0_scr]) (l_X12_isSound hq)

