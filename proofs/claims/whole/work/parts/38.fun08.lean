/-! X12_hold -/
noncomputable def g_X12_hold_b25 (k25 : jw_H → Nat → Int32 → Int32 → Option (Int32 × jw_H)) (h : jw_H) (x0 : Nat) (x1 : Int32) (x2 : Int32) : Option (Int32 × jw_H) :=
 (jw_gI h 12 (some x0) 43).bind fun v1 =>
 if v1 < x2 then ((jw_gI h 12 (some x0) 43).bind fun v3 =>
 (jw_gI h 12 (some x0) 42).bind fun v4 =>
 (jw_pI h 12 (some x0) 14 (((x1 + v3) - v4) + (1 : Int32))).bind fun h5 =>
 (jw_gI h5 12 (some x0) 43).bind fun v6 =>
 (jw_pI h5 12 (some x0) 16 v6).bind fun h7 =>
 some ((0 : Int32), h7))
 else (jw_b2 (f_X12_textRow h x2) fun w9 h8 =>
 (jw_gI h8 12 (some x0) 42).bind fun v10 =>
 (jw_rc h8 12 (some x0)).bind fun a11 =>
 jw_b2 (f_X12_copyRow h8 a11 w9 ((((82 : Int32) + x1) + x2) - v10)) fun w13 h12 =>
 k25 h12 x0 x1 (x2 + (1 : Int32)))

noncomputable def f_X12_hold_b25 (n : Nat) : jw_H → Nat → Int32 → Int32 → Option (Int32 × jw_H) :=
 Nat.rec (fun _ _ _ _ => none) (fun _ k25 => g_X12_hold_b25 k25) n

noncomputable def f_X12_hold (h : jw_H) (x0 : Nat) (x1 : Int32) : Option (Int32 × jw_H) :=
 (jw_gI h 12 (some x0) 43).bind fun v1 =>
 (jw_gI h 12 (some x0) 42).bind fun v2 =>
 if (((x1 + v1) - v2) + (1 : Int32)) ≤ (40 : Int32) then ((jw_gI h 12 (some x0) 42).bind fun v4 =>
 f_X12_hold_b25  jw_FU h x0 x1 v4)
 else (some ((4 : Int32), h))

set_option maxRecDepth 100000 in
set_option maxHeartbeats 4000000 in
theorem l_X12_hold_b25g {hi : jw_H} {k25 : jw_H → Nat → Int32 → Int32 → Option (Int32 × jw_H)} (hk25 : ∀ (h : jw_H) (x0 : Nat) (x1 : Int32) (x2 : Int32) (r : Int32) (h' : jw_H), k25 h x0 x1 x2 = some (r, h') → jw_E 1 uX12_hold hi 25 [some (.ref x0), some (.int x1), some (.int x2)] [] h (.inl (some (.int r))) h') {h : jw_H} {x0 : Nat} {x1 : Int32} {x2 : Int32} {r : Int32} {h' : jw_H} (hq : g_X12_hold_b25 k25 h x0 x1 x2 = some (r, h')) : jw_E 1 uX12_hold hi 25 [some (.ref x0), some (.int x1), some (.int x2)] [] h (.inl (some (.int r))) h' := by
  unfold g_X12_hold_b25 at hq
  refine jw_iload_n dX12_hold_25 rfl ?_
  refine jw_aload_n dX12_hold_26 (o := (some x0)) rfl ?_
  obtain ⟨v1, ev1, hq⟩ := Option.bind_eq_some_iff.mp hq
  refine jw_getI (o := (some x0)) dX12_hold_27 ev1 fl_X12_320 rfl ?_
  rcases jw_if hq with ⟨c2, hq⟩ | ⟨c2, hq⟩
  · refine jw_icmp_gt_t (tgt := 58) dX12_hold_30 (by decide) c2 ?_
    refine jw_aload_n dX12_hold_58 (o := (some x0)) rfl ?_
    refine jw_iload_n dX12_hold_59 rfl ?_
    refine jw_aload_n dX12_hold_60 (o := (some x0)) rfl ?_
    obtain ⟨v3, ev3, hq⟩ := Option.bind_eq_some_iff.mp hq
    refine jw_getI (o := (some x0)) dX12_hold_61 ev3 fl_X12_320 rfl ?_
    refine jw_iadd dX12_hold_64 ?_
    refine jw_aload_n dX12_hold_65 (o := (some x0)) rfl ?_
    obtain ⟨v4, ev4, hq⟩ := Option.bind_eq_some_iff.mp hq
    refine jw_getI (o := (some x0)) dX12_hold_66 ev4 fl_X12_317 rfl ?_
    refine jw_isub dX12_hold_69 ?_
    refine jw_iconst dX12_hold_70 (v := (1 : Int32)) (by decide) ?_
    refine jw_iadd dX12_hold_71 ?_
    obtain ⟨h5, eh5, hq⟩ := Option.bind_eq_some_iff.mp hq
    refine jw_putI (o := (some x0)) dX12_hold_72 eh5 fl_X12_366 rfl rfl ?_
    refine jw_aload_n dX12_hold_75 (o := (some x0)) rfl ?_
    refine jw_aload_n dX12_hold_76 (o := (some x0)) rfl ?_
    obtain ⟨v6, ev6, hq⟩ := Option.bind_eq_some_iff.mp hq
    refine jw_getI (o := (some x0)) dX12_hold_77 ev6 fl_X12_320 rfl ?_
    obtain ⟨h7, eh7, hq⟩ := Option.bind_eq_some_iff.mp hq
    refine jw_putI (o := (some x0)) dX12_hold_80 eh7 fl_X12_295 rfl rfl ?_
    refine jw_iconst dX12_hold_83 (v := (0 : Int32)) (by decide) ?_
    cases hq
    exact jw_iret (ty := .int) dX12_hold_84 rfl rfl
  · refine jw_icmp_gt_f (tgt := 58) dX12_hold_30 (by decide) c2 ?_
    refine jw_aload_n dX12_hold_33 (o := (some x0)) rfl ?_
    refine jw_iload_n dX12_hold_34 rfl ?_
    obtain ⟨w9, h8, ew9, hq⟩ := jw_b2_spec hq
    refine jw_callS (As := [.int x2]) (S := [.ref x0]) (v := some (.int w9)) dX12_hold_35 mt_X12_textRow st_X12_textRow lk_X12_298 (c_X12_textRow ew9) rfl (by decide) (Nat.le_of_ble_eq_true rfl) rfl ?_
    refine jw_bipush dX12_hold_38 (v := (82 : Int32)) (by decide) ?_
    refine jw_iload_n dX12_hold_40 rfl ?_
    refine jw_iadd dX12_hold_41 ?_
    refine jw_iload_n dX12_hold_42 rfl ?_
    refine jw_iadd dX12_hold_43 ?_
    refine jw_aload_n dX12_hold_44 (o := (some x0)) rfl ?_
    obtain ⟨v10, ev10, hq⟩ := Option.bind_eq_some_iff.mp hq
    refine jw_getI (o := (some x0)) dX12_hold_45 ev10 fl_X12_317 rfl ?_
    refine jw_isub dX12_hold_48 ?_
    obtain ⟨a11, ea11, hq⟩ := Option.bind_eq_some_iff.mp hq
    obtain ⟨eoa11, eta11⟩ := jw_rc_spec ea11
    obtain ⟨w13, h12, ew13, hq⟩ := jw_b2_spec hq
    refine jw_callV (As := [.int w9, .int ((((82 : Int32) + x1) + x2) - v10)]) (S := []) (a := a11) (v := none) dX12_hold_49 mt_X12_copyRow in_X12_copyRow se_X12_copyRow lk_X12_127 (c_X12_copyRow ew13) eta11 (by decide) rfl rfl (by decide) (Nat.le_of_ble_eq_true rfl) (by cases eoa11; rfl) ?_
    refine jw_iinc (L' := [some (.ref x0), some (.int x1), some (.int (x2 + (1 : Int32)))]) dX12_hold_52 rfl (v := (1 : Int32)) (by decide) (Nat.le_of_ble_eq_true rfl) rfl ?_
    refine jw_goto (tgt := 25) dX12_hold_55 (by decide) ?_
    exact hk25 _ _ _ _ _ _ hq

theorem l_X12_hold_b25 {hi : jw_H} : ∀ (n : Nat) (h : jw_H) (x0 : Nat) (x1 : Int32) (x2 : Int32) (r : Int32) (h' : jw_H), f_X12_hold_b25  n h x0 x1 x2 = some (r, h') → jw_E 1 uX12_hold hi 25 [some (.ref x0), some (.int x1), some (.int x2)] [] h (.inl (some (.int r))) h' := by
  intro n
  induction n with
  | zero => intro h x0 x1 x2 r h' hq; exact nomatch hq
  | succ n ih => intro h x0 x1 x2 r h' hq; exact l_X12_hold_b25g ih hq

set_option maxRecDepth 100000 in
set_option maxHeartbeats 4000000 in
theorem l_X12_hold {hi : jw_H} {h : jw_H} {x0 : Nat} {x1 : Int32} {r : Int32} {h' : jw_H} (hq : f_X12_hold  h x0 x1 = some (r, h')) : jw_E 1 uX12_hold hi 0 [some (.ref x0), some (.int x1), none] [] h (.inl (some (.int r))) h' := by
  unfold f_X12_hold at hq
  refine jw_iload_n dX12_hold_0 rfl ?_
  refine jw_aload_n dX12_hold_1 (o := (some x0)) rfl ?_
  obtain ⟨v1, ev1, hq⟩ := Option.bind_eq_some_iff.mp hq
  refine jw_getI (o := (some x0)) dX12_hold_2 ev1 fl_X12_320 rfl ?_
  refine jw_iadd dX12_hold_5 ?_
  refine jw_aload_n dX12_hold_6 (o := (some x0)) rfl ?_
  obtain ⟨v2, ev2, hq⟩ := Option.bind_eq_some_iff.mp hq
  refine jw_getI (o := (some x0)) dX12_hold_7 ev2 fl_X12_317 rfl ?_
  refine jw_isub dX12_hold_10 ?_
  refine jw_iconst dX12_hold_11 (v := (1 : Int32)) (by decide) ?_
  refine jw_iadd dX12_hold_12 ?_
  refine jw_bipush dX12_hold_13 (v := (40 : Int32)) (by decide) ?_
  rcases jw_if hq with ⟨c3, hq⟩ | ⟨c3, hq⟩
  · refine jw_icmp_le_t (tgt := 20) dX12_hold_15 (by decide) c3 ?_
    refine jw_aload_n dX12_hold_20 (o := (some x0)) rfl ?_
    obtain ⟨v4, ev4, hq⟩ := Option.bind_eq_some_iff.mp hq
    refine jw_getI (o := (some x0)) dX12_hold_21 ev4 fl_X12_317 rfl ?_
    refine jw_istore_n (L' := [some (.ref x0), some (.int x1), some (.int v4)]) dX12_hold_24 (Nat.le_of_ble_eq_true rfl) rfl ?_
    exact l_X12_hold_b25  jw_FU _ _ _ _ _ _ hq
  · refine jw_icmp_le_f (tgt := 20) dX12_hold_15 (by decide) c3 ?_
    refine jw_iconst dX12_hold_18 (v := (4 : Int32)) (by decide) ?_
    cases hq
    exact jw_iret (ty := .int) dX12_hold_19 rfl rfl

theorem c_X12_hold {h : jw_H} {x0 : Nat} {x1 : Int32} {r : Int32} {h' : jw_H} (hq : f_X12_hold h x0 x1 = some (r, h')) : jw_Con (Cond.code yX12_hold cX12_hold 3 (some .int)) yX12_hold 1 [.ref x0, .int x1] h (.inl (some (.int r))) h' :=
  jw_con false (plainFor_of_name (by decide +kernel)) (fun z => nomatch z) (by simp [jw_ent, jw_sl0_nil, jw_sl0_int, jw_sl0_long, jw_sl0_ref, jw_sl0_rf, jw_sl0_scr, List.replicate]) (by simp [jw_sl0_nil, jw_sl0_int, jw_sl0_long, jw_sl0_ref, jw_sl0_rf, jw_sl0_scr]) (l_X12_hold hq)


/-! X12_bringHeld -/
noncomputable def g_X12_bringHeld_b27 (k27 : jw_H → Nat → Int32 → Option (Int32 × jw_H)) (h : jw_H) (x0 : Nat) (x1 : Int32) : Option (Int32 × jw_H) :=
 (jw_gI h 12 (some x0) 14).bind fun v1 =>
 if v1 ≤ x1 then ((jw_gI h 12 (some x0) 43).bind fun v3 =>
 (jw_gI h 12 (some x0) 14).bind fun v4 =>
 (jw_pI h 12 (some x0) 16 (v3 + v4)).bind fun h5 =>
 some ((0 : Int32), h5))
 else ((jw_gI h 12 (some x0) 43).bind fun v6 =>
 (jw_rc h 12 (some x0)).bind fun a7 =>
 jw_b2 (f_X12_bring h a7 ((82 : Int32) + x1) (v6 + x1)) fun w9 h8 =>
 k27 h8 x0 (x1 + (1 : Int32)))

noncomputable def f_X12_bringHeld_b27 (n : Nat) : jw_H → Nat → Int32 → Option (Int32 × jw_H) :=
 Nat.rec (fun _ _ _ => none) (fun _ k27 => g_X12_bringHeld_b27 k27) n

noncomputable def f_X12_bringHeld (h : jw_H) (x0 : Nat) : Option (Int32 × jw_H) :=
 (jw_gI h 12 (some x0) 14).bind fun v1 =>
 if v1 = 0 then (some ((5 : Int32), h))
 else ((jw_gI h 12 (some x0) 12).bind fun v3 =>
 (jw_gI h 12 (some x0) 14).bind fun v4 =>
 if (v3 + v4) ≤ (40 : Int32) then (f_X12_bringHeld_b27  jw_FU h x0 (0 : Int32))
 else (some ((4 : Int32), h)))

set_option maxRecDepth 100000 in
set_option maxHeartbeats 4000000 in
theorem l_X12_bringHeld_b27g {hi : jw_H} {k27 : jw_H → Nat → Int32 → Option (Int32 × jw_H)} (hk27 : ∀ (h : jw_H) (x0 : Nat) (x1 : Int32) (r : Int32) (h' : jw_H), k27 h x0 x1 = some (r, h') → jw_E 3 uX12_bringHeld hi 27 [some (.ref x0), some (.int x1)] [] h (.inl (some (.int r))) h') {h : jw_H} {x0 : Nat} {x1 : Int32} {r : Int32} {h' : jw_H} (hq : g_X12_bringHeld_b27 k27 h x0 x1 = some (r, h')) : jw_E 3 uX12_bringHeld hi 27 [some (.ref x0), some (.int x1)] [] h (.inl (some (.int r))) h' := by
  unfold g_X12_bringHeld_b27 at hq
  refine jw_iload_n dX12_bringHeld_27 rfl ?_
  refine jw_aload_n dX12_bringHeld_28 (o := (some x0)) rfl ?_
  obtain ⟨v1, ev1, hq⟩ := Option.bind_eq_some_iff.mp hq
  refine jw_getI (o := (some x0)) dX12_bringHeld_29 ev1 fl_X12_366 rfl ?_
  rcases jw_if hq with ⟨c2, hq⟩ | ⟨c2, hq⟩
  · refine jw_icmp_ge_t (tgt := 55) dX12_bringHeld_32 (by decide) c2 ?_
    refine jw_aload_n dX12_bringHeld_55 (o := (some x0)) rfl ?_
    refine jw_aload_n dX12_bringHeld_56 (o := (some x0)) rfl ?_
    obtain ⟨v3, ev3, hq⟩ := Option.bind_eq_some_iff.mp hq
    refine jw_getI (o := (some x0)) dX12_bringHeld_57 ev3 fl_X12_320 rfl ?_
    refine jw_aload_n dX12_bringHeld_60 (o := (some x0)) rfl ?_
    obtain ⟨v4, ev4, hq⟩ := Option.bind_eq_some_iff.mp hq
    refine jw_getI (o := (some x0)) dX12_bringHeld_61 ev4 fl_X12_366 rfl ?_
    refine jw_iadd dX12_bringHeld_64 ?_
    obtain ⟨h5, eh5, hq⟩ := Option.bind_eq_some_iff.mp hq
    refine jw_putI (o := (some x0)) dX12_bringHeld_65 eh5 fl_X12_295 rfl rfl ?_
    refine jw_iconst dX12_bringHeld_68 (v := (0 : Int32)) (by decide) ?_
    cases hq
    exact jw_iret (ty := .int) dX12_bringHeld_69 rfl rfl
  · refine jw_icmp_ge_f (tgt := 55) dX12_bringHeld_32 (by decide) c2 ?_
    refine jw_aload_n dX12_bringHeld_35 (o := (some x0)) rfl ?_
    refine jw_bipush dX12_bringHeld_36 (v := (82 : Int32)) (by decide) ?_
    refine jw_iload_n dX12_bringHeld_38 rfl ?_
    refine jw_iadd dX12_bringHeld_39 ?_
    refine jw_aload_n dX12_bringHeld_40 (o := (some x0)) rfl ?_
    obtain ⟨v6, ev6, hq⟩ := Option.bind_eq_some_iff.mp hq
    refine jw_getI (o := (some x0)) dX12_bringHeld_41 ev6 fl_X12_320 rfl ?_
    refine jw_iload_n dX12_bringHeld_44 rfl ?_
    refine jw_iadd dX12_bringHeld_45 ?_
    obtain ⟨a7, ea7, hq⟩ := Option.bind_eq_some_iff.mp hq
    obtain ⟨eoa7, eta7⟩ := jw_rc_spec ea7
    obtain ⟨w9, h8, ew9, hq⟩ := jw_b2_spec hq
    refine jw_callV (As := [.int ((82 : Int32) + x1), .int (v6 + x1)]) (S := []) (a := a7) (v := none) dX12_bringHeld_46 mt_X12_bring in_X12_bring se_X12_bring lk_X12_332 (c_X12_bring ew9) eta7 (by decide) rfl rfl (by decide) (Nat.le_of_ble_eq_true rfl) (by cases eoa7; rfl) ?_
    refine jw_iinc (L' := [some (.ref x0), some (.int (x1 + (1 : Int32)))]) dX12_bringHeld_49 rfl (v := (1 : Int32)) (by decide) (Nat.le_of_ble_eq_true rfl) rfl ?_
    refine jw_goto (tgt := 27) dX12_bringHeld_52 (by decide) ?_
    exact hk27 _ _ _ _ _ hq

theorem l_X12_bringHeld_b27 {hi : jw_H} : ∀ (n : Nat) (h : jw_H) (x0 : Nat) (x1 : Int32) (r : Int32) (h' : jw_H), f_X12_bringHeld_b27  n h x0 x1 = some (r, h') → jw_E 3 uX12_bringHeld hi 27 [some (.ref x0), some (.int x1)] [] h (.inl (some (.int r))) h' := by
  intro n
  induction n with
  | zero => intro h x0 x1 r h' hq; exact nomatch hq
  | succ n ih => intro h x0 x1 r h' hq; exact l_X12_bringHeld_b27g ih hq

set_option maxRecDepth 100000 in
set_option maxHeartbeats 4000000 in
theorem l_X12_bringHeld {hi : jw_H} {h : jw_H} {x0 : Nat} {r : Int32} {h' : jw_H} (hq : f_X12_bringHeld  h x0 = some (r, h')) : jw_E 3 uX12_bringHeld hi 0 [some (.ref x0), none] [] h (.inl (some (.int r))) h' := by
  unfold f_X12_bringHeld at hq
  refine jw_aload_n dX12_bringHeld_0 (o := (some x0)) rfl ?_
  obtain ⟨v1, ev1, hq⟩ := Option.bind_eq_some_iff.mp hq
  refine jw_getI (o := (some x0)) dX12_bringHeld_1 ev1 fl_X12_366 rfl ?_
  rcases jw_if hq with ⟨c2, hq⟩ | ⟨c2, hq⟩
  · refine jw_if_ne_f (tgt := 9) dX12_bringHeld_4 (by decide) c2 ?_
    refine jw_iconst dX12_bringHeld_7 (v := (5 : Int32)) (by decide) ?_
    cases hq
    exact jw_iret (ty := .int) dX12_bringHeld_8 rfl rfl
  · refine jw_if_ne_t (tgt := 9) dX12_bringHeld_4 (by decide) c2 ?_
    refine jw_aload_n dX12_bringHeld_9 (o := (some x0)) rfl ?_
    obtain ⟨v3, ev3, hq⟩ := Option.bind_eq_some_iff.mp hq
    refine jw_getI (o := (some x0)) dX12_bringHeld_10 ev3 fl_X12_124 rfl ?_
    refine jw_aload_n dX12_bringHeld_13 (o := (some x0)) rfl ?_
    obtain ⟨v4, ev4, hq⟩ := Option.bind_eq_some_iff.mp hq
    refine jw_getI (o := (some x0)) dX12_bringHeld_14 ev4 fl_X12_366 rfl ?_
    refine jw_iadd dX12_bringHeld_17 ?_
    refine jw_bipush dX12_bringHeld_18 (v := (40 : Int32)) (by decide) ?_
    rcases jw_if hq with ⟨c5, hq⟩ | ⟨c5, hq⟩
    · refine jw_icmp_le_t (tgt := 25) dX12_bringHeld_20 (by decide) c5 ?_
      refine jw_iconst dX12_bringHeld_25 (v := (0 : Int32)) (by decide) ?_
      refine jw_istore_n (L' := [some (.ref x0), some (.int (0 : Int32))]) dX12_bringHeld_26 (Nat.le_of_ble_eq_true rfl) rfl ?_
      exact l_X12_bringHeld_b27  jw_FU _ _ _ _ _ hq
    · refine jw_icmp_le_f (tgt := 25) dX12_bringHeld_20 (by decide) c5 ?_
      refine jw_iconst dX12_bringHeld_23 (v := (4 : Int32)) (by decide) ?_
      cases hq
      exact jw_iret (ty := .int) dX12_bringHeld_24 rfl rfl

theorem c_X12_bringHeld {h : jw_H} {x0 : Nat} {r : Int32} {h' : jw_H} (hq : f_X12_bringHeld h x0 = some (r, h')) : jw_Con (Cond.code yX12_bringHeld cX12_bringHeld 2 (some .int)) yX12_bringHeld 3 [.ref x0] h (.inl (some (.int r))) h' :=
  jw_con false (plainFor_of_name (by decide +kernel)) (fun z => nomatch z) (by simp [jw_ent, jw_sl0_nil, jw_sl0_int, jw_sl0_long, jw_sl0_ref, jw_sl0_rf, jw_sl0_scr, List.replicate]) (by simp [jw_sl0_nil, jw_sl0_int, jw_sl0_long, jw_sl0_ref, jw_sl0_rf, jw_sl0_scr]) (l_X12_bringHeld hq)


/-! X12_exchange -/
noncomputable def g_X12_exchange_b123 (k123 : jw_H → Nat → Int32 → Int32 → Option (Int32 × jw_H)) (h : jw_H) (x0 : Nat) (x1 : Int32) (x2 : Int32) : Option (Int32 × jw_H) :=
 if x1 ≤ x2 then ((jw_pI h 12 (some x0) 14 x1).bind fun h2 =>
 some ((0 : Int32), h2))
 else ((jw_rc h 12 (some x0)).bind fun a3 =>
 jw_b2 (f_X12_copyRow h a3 ((431 : Int32) + x2) ((82 : Int32) + x2)) fun w5 h4 =>
 k123 h4 x0 x1 (x2 + (1 : Int32)))

noncomputable def f_X12_exchange_b123 (n : Nat) : jw_H → Nat → Int32 → Int32 → Option (Int32 × jw_H) :=
 Nat.rec (fun _ _ _ _ => none) (fun _ k123 => g_X12_exchange_b123 k123) n

noncomputable def g_X12_exchange_b76 (k76 : jw_H → Nat → Int32 → Int32 → Option (Int32 × jw_H)) (h : jw_H) (x0 : Nat) (x1 : Int32) (x2 : Int32) : Option (Int32 × jw_H) :=
 (jw_gI h 12 (some x0) 14).bind fun v1 =>
 if v1 ≤ x2 then ((jw_gI h 12 (some x0) 42).bind fun v3 =>
 (jw_gI h 12 (some x0) 14).bind fun v4 =>
 (jw_pI h 12 (some x0) 16 ((v3 - (1 : Int32)) + v4)).bind fun h5 =>
 f_X12_exchange_b123  jw_FU h5 x0 x1 (0 : Int32))
 else ((jw_gI h 12 (some x0) 42).bind fun v6 =>
 (jw_rc h 12 (some x0)).bind fun a7 =>
 jw_b2 (f_X12_bring h a7 ((82 : Int32) + x2) ((v6 - (1 : Int32)) + x2)) fun w9 h8 =>
 k76 h8 x0 x1 (x2 + (1 : Int32)))

noncomputable def f_X12_exchange_b76 (n : Nat) : jw_H → Nat → Int32 → Int32 → Option (Int32 × jw_H) :=
 Nat.rec (fun _ _ _ _ => none) (fun _ k76 => g_X12_exchange_b76 k76) n

noncomputable def g_X12_exchange_b41 (k41 : jw_H → Nat → Int32 → Int32 → Option (Int32 × jw_H)) (h : jw_H) (x0 : Nat) (x1 : Int32) (x2 : Int32) : Option (Int32 × jw_H) :=
 if x1 ≤ x2 then ((jw_rc h 12 (some x0)).bind fun a2 =>
 jw_b2 (f_X12_goAll h a2) fun w4 h3 =>
 f_X12_exchange_b76  jw_FU h3 x0 x1 (0 : Int32))
 else ((jw_gI h 12 (some x0) 42).bind fun v5 =>
 jw_b2 (f_X12_textRow h (v5 + x2)) fun w7 h6 =>
 (jw_rc h6 12 (some x0)).bind fun a8 =>
 jw_b2 (f_X12_copyRow h6 a8 w7 ((431 : Int32) + x2)) fun w10 h9 =>
 k41 h9 x0 x1 (x2 + (1 : Int32)))

noncomputable def f_X12_exchange_b41 (n : Nat) : jw_H → Nat → Int32 → Int32 → Option (Int32 × jw_H) :=
 Nat.rec (fun _ _ _ _ => none) (fun _ k41 => g_X12_exchange_b41 k41) n

noncomputable def f_X12_exchange (h : jw_H) (x0 : Nat) : Option (Int32 × jw_H) :=
 (jw_gI h 12 (some x0) 43).bind fun v1 =>
 (jw_gI h 12 (some x0) 42).bind fun v2 =>
 (jw_gI h 12 (some x0) 14).bind fun v3 =>
 if v3 = 0 then (some ((5 : Int32), h))
 else ((jw_gI h 12 (some x0) 12).bind fun v5 =>
 (jw_gI h 12 (some x0) 14).bind fun v6 =>
 if ((v5 - ((v1 - v2) + (1 : Int32))) + v6) ≤ (40 : Int32) then (f_X12_exchange_b41  jw_FU h x0 ((v1 - v2) + (1 : Int32)) (0 : Int32))
 else (some ((4 : Int32), h)))

set_option maxRecDepth 100000 in
set_option maxHeartbeats 4000000 in
theorem l_X12_exchange_b123g {hi : jw_H} {k123 : jw_H → Nat → Int32 → Int32 → Option (Int32 × jw_H)} (hk123 : ∀ (h : jw_H) (x0 : Nat) (x1 : Int32) (x2 : Int32) (r : Int32) (h' : jw_H), k123 h x0 x1 x2 = some (r, h') → jw_E 4 uX12_exchange hi 123 [some (.ref x0), some (.int x1), some (.int x2)] [] h (.inl (some (.int r))) h') {h : jw_H} {x0 : Nat} {x1 : Int32} {x2 : Int32} {r : Int32} {h' : jw_H} (hq : g_X12_exchange_b123 k123 h x0 x1 x2 = some (r, h')) : jw_E 4 uX12_exchange hi 123 [some (.ref x0), some (.int x1), some (.int x2)] [] h (.inl (some (.int r))) h' := by
  unfold g_X12_exchange_b123 at hq
  refine jw_iload_n dX12_exchange_123 rfl ?_
  refine jw_iload_n dX12_exchange_124 rfl ?_
  rcases jw_if hq with ⟨c1, hq⟩ | ⟨c1, hq⟩
  · refine jw_icmp_ge_t (tgt := 147) dX12_exchange_125 (by decide) c1 ?_
    refine jw_aload_n dX12_exchange_147 (o := (some x0)) rfl ?_
    refine jw_iload_n dX12_exchange_148 rfl ?_
    obtain ⟨h2, eh2, hq⟩ := Option.bind_eq_some_iff.mp hq
    refine jw_putI (o := (some x0)) dX12_exchange_149 eh2 fl_X12_366 rfl rfl ?_
    refine jw_iconst dX12_exchange_152 (v := (0 : Int32)) (by decide) ?_
    cases hq
    exact jw_iret (ty := .int) dX12_exchange_153 rfl rfl
  · refine jw_icmp_ge_f (tgt := 147) dX12_exchange_125 (by decide) c1 ?_
    refine jw_aload_n dX12_exchange_128 (o := (some x0)) rfl ?_
    refine jw_sipush dX12_exchange_129 (v := (431 : Int32)) (by decide) ?_
    refine jw_iload_n dX12_exchange_132 rfl ?_
    refine jw_iadd dX12_exchange_133 ?_
    refine jw_bipush dX12_exchange_134 (v := (82 : Int32)) (by decide) ?_
    refine jw_iload_n dX12_exchange_136 rfl ?_
    refine jw_iadd dX12_exchange_137 ?_
    obtain ⟨a3, ea3, hq⟩ := Option.bind_eq_some_iff.mp hq
    obtain ⟨eoa3, eta3⟩ := jw_rc_spec ea3
    obtain ⟨w5, h4, ew5, hq⟩ := jw_b2_spec hq
    refine jw_callV (As := [.int ((431 : Int32) + x2), .int ((82 : Int32) + x2)]) (S := []) (a := a3) (v := none) dX12_exchange_138 mt_X12_copyRow in_X12_copyRow se_X12_copyRow lk_X12_127 (c_X12_copyRow ew5) eta3 (by decide) rfl rfl (by decide) (Nat.le_of_ble_eq_true rfl) (by cases eoa3; rfl) ?_
    refine jw_iinc (L' := [some (.ref x0), some (.int x1), some (.int (x2 + (1 : Int32)))]) dX12_exchange_141 rfl (v := (1 : Int32)) (by decide) (Nat.le_of_ble_eq_true rfl) rfl ?_
    refine jw_goto (tgt := 123) dX12_exchange_144 (by decide) ?_
    exact hk123 _ _ _ _ _ _ hq

theorem l_X12_exchange_b123 {hi : jw_H} : ∀ (n : Nat) (h : jw_H) (x0 : Nat) (x1 : Int32) (x2 : Int32) (r : Int32) (h' : jw_H), f_X12_exchange_b123  n h x0 x1 x2 = some (r, h') → jw_E 4 uX12_exchange hi 123 [some (.ref x0), some (.int x1), some (.int x2)] [] h (.inl (some (.int r))) h' := by
  intro n
  induction n with
  | zero => intro h x0 x1 x2 r h' hq; exact nomatch hq
  | succ n ih => intro h x0 x1 x2 r h' hq; exact l_X12_exchange_b123g ih hq

set_option maxRecDepth 100000 in
set_option maxHeartbeats 4000000 in
theorem l_X12_exchange_b76g {hi : jw_H} {k76 : jw_H → Nat → Int32 → Int32 → Option (Int32 × jw_H)} (hk76 : ∀ (h : jw_H) (x0 : Nat) (x1 : Int32) (x2 : Int32) (r : Int32) (h' : jw_H), k76 h x0 x1 x2 = some (r, h') → jw_E 4 uX12_exchange hi 76 [some (.ref x0), some (.int x1), some (.int x2)] [] h (.inl (some (.int r))) h') {h : jw_H} {x0 : Nat} {x1 : Int32} {x2 : Int32} {r : Int32} {h' : jw_H} (hq : g_X12_exchange_b76 k76 h x0 x1 x2 = some (r, h')) : jw_E 4 uX12_exchange hi 76 [some (.ref x0), some (.int x1), some (.int x2)] [] h (.inl (some (.int r))) h' := by
  unfold g_X12_exchange_b76 at hq
  refine jw_iload_n dX12_exchange_76 rfl ?_
  refine jw_aload_n dX12_exchange_77 (o := (some x0)) rfl ?_
  obtain ⟨v1, ev1, hq⟩ := Option.bind_eq_some_iff.mp hq
  refine jw_getI (o := (some x0)) dX12_exchange_78 ev1 fl_X12_366 rfl ?_
  rcases jw_if hq with ⟨c2, hq⟩ | ⟨c2, hq⟩
  · refine jw_icmp_ge_t (tgt := 106) dX12_exchange_81 (by decide) c2 ?_
    refine jw_aload_n dX12_exchange_106 (o := (some x0)) rfl ?_
    refine jw_aload_n dX12_exchange_107 (o := (some x0)) rfl ?_
    obtain ⟨v3, ev3, hq⟩ := Option.bind_eq_some_iff.mp hq
    refine jw_getI (o := (some x0)) dX12_exchange_108 ev3 fl_X12_317 rfl ?_
    refine jw_iconst dX12_exchange_111 (v := (1 : Int32)) (by decide) ?_
    refine jw_isub dX12_exchange_112 ?_
    refine jw_aload_n dX12_exchange_113 (o := (some x0)) rfl ?_
    obtain ⟨v4, ev4, hq⟩ := Option.bind_eq_some_iff.mp hq
    refine jw_getI (o := (some x0)) dX12_exchange_114 ev4 fl_X12_366 rfl ?_
    refine jw_iadd dX12_exchange_117 ?_
    obtain ⟨h5, eh5, hq⟩ := Option.bind_eq_some_iff.mp hq
    refine jw_putI (o := (some x0)) dX12_exchange_118 eh5 fl_X12_295 rfl rfl ?_
    refine jw_iconst dX12_exchange_121 (v := (0 : Int32)) (by decide) ?_
    refine jw_istore_n (L' := [some (.ref x0), some (.int x1), some (.int (0 : Int32))]) dX12_exchange_122 (Nat.le_of_ble_eq_true rfl) rfl ?_
    exact l_X12_exchange_b123  jw_FU _ _ _ _ _ _ hq
  · refine jw_icmp_ge_f (tgt := 106) dX12_exchange_81 (by decide) c2 ?_
    refine jw_aload_n dX12_exchange_84 (o := (some x0)) rfl ?_
    refine jw_bipush dX12_exchange_85 (v := (82 : Int32)) (by decide) ?_
    refine jw_iload_n dX12_exchange_87 rfl ?_
    refine jw_iadd dX12_exchange_88 ?_
    refine jw_aload_n dX12_exchange_89 (o := (some x0)) rfl ?_
    obtain ⟨v6, ev6, hq⟩ := Option.bind_eq_some_iff.mp hq
    refine jw_getI (o := (some x0)) dX12_exchange_90 ev6 fl_X12_317 rfl ?_
    refine jw_iconst dX12_exchange_93 (v := (1 : Int32)) (by decide) ?_
    refine jw_isub dX12_exchange_94 ?_
    refine jw_iload_n dX12_exchange_95 rfl ?_
    refine jw_iadd dX12_exchange_96 ?_
    obtain ⟨a7, ea7, hq⟩ := Option.bind_eq_some_iff.mp hq
    obtain ⟨eoa7, eta7⟩ := jw_rc_spec ea7
    obtain ⟨w9, h8, ew9, hq⟩ := jw_b2_spec hq
    refine jw_callV (As := [.int ((82 : Int32) + x2), .int ((v6 - (1 : Int32)) + x2)]) (S := []) (a := a7) (v := none) dX12_exchange_97 mt_X12_bring in_X12_bring se_X12_bring lk_X12_332 (c_X12_bring ew9) eta7 (by decide) rfl rfl (by decide) (Nat.le_of_ble_eq_true rfl) (by cases eoa7; rfl) ?_
    refine jw_iinc (L' := [some (.ref x0), some (.int x1), some (.int (x2 + (1 : Int32)))]) dX12_exchange_100 rfl (v := (1 : Int32)) (by decide) (Nat.le_of_ble_eq_true rfl) rfl ?_
    refine jw_goto (tgt := 76) dX12_exchange_103 (by decide) ?_
    exact hk76 _ _ _ _ _ _ hq

theorem l_X12_exchange_b76 {hi : jw_H} : ∀ (n : Nat) (h : jw_H) (x0 : Nat) (x1 : Int32) (x2 : Int32) (r : Int32) (h' : jw_H), f_X12_exchange_b76  n h x0 x1 x2 = some (r, h') → jw_E 4 uX12_exchange hi 76 [some (.ref x0), some (.int x1), some (.int x2)] [] h (.inl (some (.int r))) h' := by
  intro n
  induction n with
  | zero => intro h x0 x1 x2 r h' hq; exact nomatch hq
  | succ n ih => intro h x0 x1 x2 r h' hq; exact l_X12_exchange_b76g ih hq

set_option maxRecDepth 100000 in
set_option maxHeartbeats 4000000 in
theorem l_X12_exchange_b41g {hi : jw_H} {k41 : jw_H → Nat → Int32 → Int32 → Option (Int32 × jw_H)} (hk41 : ∀ (h : jw_H) (x0 : Nat) (x1 : Int32) (x2 : Int32) (r : Int32) (h' : jw_H), k41 h x0 x1 x2 = some (r, h') → jw_E 4 uX12_exchange hi 41 [some (.ref x0), some (.int x1), some (.int x2)] [] h (.inl (some (.int r))) h') {h : jw_H} {x0 : Nat} {x1 : Int32} {x2 : Int32} {r : Int32} {h' : jw_H} (hq : g_X12_exchange_b41 k41 h x0 x1 x2 = some (r, h')) : jw_E 4 uX12_exchange hi 41 [some (.ref x0), some (.int x1), some (.int x2)] [] h (.inl (some (.int r))) h' := by
  unfold g_X12_exchange_b41 at hq
  refine jw_iload_n dX12_exchange_41 rfl ?_
  refine jw_iload_n dX12_exchange_42 rfl ?_
  rcases jw_if hq with ⟨c1, hq⟩ | ⟨c1, hq⟩
  · refine jw_icmp_ge_t (tgt := 70) dX12_exchange_43 (by decide) c1 ?_
    refine jw_aload_n dX12_exchange_70 (o := (some x0)) rfl ?_
    obtain ⟨a2, ea2, hq⟩ := Option.bind_eq_some_iff.mp hq
    obtain ⟨eoa2, eta2⟩ := jw_rc_spec ea2
    obtain ⟨w4, h3, ew4, hq⟩ := jw_b2_spec hq
    refine jw_callV (As := []) (S := []) (a := a2) (v := none) dX12_exchange_71 mt_X12_goAll in_X12_goAll se_X12_goAll lk_X12_345 (c_X12_goAll ew4) eta2 (by decide) rfl rfl (by decide) (Nat.le_of_ble_eq_true rfl) (by cases eoa2; rfl) ?_
    refine jw_iconst dX12_exchange_74 (v := (0 : Int32)) (by decide) ?_
    refine jw_istore_n (L' := [some (.ref x0), some (.int x1), some (.int (0 : Int32))]) dX12_exchange_75 (Nat.le_of_ble_eq_true rfl) rfl ?_
    exact l_X12_exchange_b76  jw_FU _ _ _ _ _ _ hq
  · refine jw_icmp_ge_f (tgt := 70) dX12_exchange_43 (by decide) c1 ?_
    refine jw_aload_n dX12_exchange_46 (o := (some x0)) rfl ?_
    refine jw_aload_n dX12_exchange_47 (o := (some x0)) rfl ?_
    obtain ⟨v5, ev5, hq⟩ := Option.bind_eq_some_iff.mp hq
    refine jw_getI (o := (some x0)) dX12_exchange_48 ev5 fl_X12_317 rfl ?_
    refine jw_iload_n dX12_exchange_51 rfl ?_
    refine jw_iadd dX12_exchange_52 ?_
    obtain ⟨w7, h6, ew7, hq⟩ := jw_b2_spec hq
    refine jw_callS (As := [.int (v5 + x2)]) (S := [.ref x0]) (v := some (.int w7)) dX12_exchange_53 mt_X12_textRow st_X12_textRow lk_X12_298 (c_X12_textRow ew7) rfl (by decide) (Nat.le_of_ble_eq_true rfl) rfl ?_
    refine jw_sipush dX12_exchange_56 (v := (431 : Int32)) (by decide) ?_
    refine jw_iload_n dX12_exchange_59 rfl ?_
    refine jw_iadd dX12_exchange_60 ?_
    obtain ⟨a8, ea8, hq⟩ := Option.bind_eq_some_iff.mp hq
    obtain ⟨eoa8, eta8⟩ := jw_rc_spec ea8
    obtain ⟨w10, h9, ew10, hq⟩ := jw_b2_spec hq
    refine jw_callV (As := [.int w7, .int ((431 : Int32) + x2)]) (S := []) (a := a8) (v := none) dX12_exchange_61 mt_X12_copyRow in_X12_copyRow se_X12_copyRow lk_X12_127 (c_X12_copyRow ew10) eta8 (by decide) rfl rfl (by decide) (Nat.le_of_ble_eq_true rfl) (by cases eoa8; rfl) ?_
    refine jw_iinc (L' := [some (.ref x0), some (.int x1), some (.int (x2 + (1 : Int32)))]) dX12_exchange_64 rfl (v := (1 : Int32)) (by decide) (Nat.le_of_ble_eq_true rfl) rfl ?_
    refine jw_goto (tgt := 41) dX12_exchange_67 (by decide) ?_
    exact hk41 _ _ _ _ _ _ hq

theorem l_X12_exchange_b41 {hi : jw_H} : ∀ (n : Nat) (h : jw_H) (x0 : Nat) (x1 : Int32) (x2 : Int32) (r : Int32) (h' : jw_H), f_X12_exchange_b41  n h x0 x1 x2 = some (r, h') → jw_E 4 uX12_exchange hi 41 [some (.ref x0), some (.int x1), some (.int x2)] [] h (.inl (some (.int r))) h' := by
  intro n
  induction n with
  | zero => intro h x0 x1 x2 r h' hq; exact nomatch hq
  | succ n ih => intro h x0 x1 x2 r h' hq; exact l_X12_exchange_b41g ih hq

set_option maxRecDepth 100000 in
set_option maxHeartbeats 4000000 in
theorem l_X12_exchange {hi : jw_H} {h : jw_H} {x0 : Nat} {r : Int32} {h' : jw_H} (hq : f_X12_exchange  h x0 = some (r, h')) : jw_E 4 uX12_exchange hi 0 [some (.ref x0), none, none] [] h (.inl (some (.int r))) h' := by
  unfold f_X12_exchange at hq
  refine jw_aload_n dX12_exchange_0 (o := (some x0)) rfl ?_
  obtain ⟨v1, ev1, hq⟩ := Option.bind_eq_some_iff.mp hq
  refine jw_getI (o := (some x0)) dX12_exchange_1 ev1 fl_X12_320 rfl ?_
  refine jw_aload_n dX12_exchange_4 (o := (some x0)) rfl ?_
  obtain ⟨v2, ev2, hq⟩ := Option.bind_eq_some_iff.mp hq
  refine jw_getI (o := (some x0)) dX12_exchange_5 ev2 fl_X12_317 rfl ?_
  refine jw_isub dX12_exchange_8 ?_
  refine jw_iconst dX12_exchange_9 (v := (1 : Int32)) (by decide) ?_
  refine jw_iadd dX12_exchange_10 ?_
  refine jw_istore_n (L' := [some (.ref x0), some (.int ((v1 - v2) + (1 : Int32))), none]) dX12_exchange_11 (Nat.le_of_ble_eq_true rfl) rfl ?_
  refine jw_aload_n dX12_exchange_12 (o := (some x0)) rfl ?_
  obtain ⟨v3, ev3, hq⟩ := Option.bind_eq_some_iff.mp hq
  refine jw_getI (o := (some x0)) dX12_exchange_13 ev3 fl_X12_366 rfl ?_
  rcases jw_if hq with ⟨c4, hq⟩ | ⟨c4, hq⟩
  · refine jw_if_ne_f (tgt := 21) dX12_exchange_16 (by decide) c4 ?_
    refine jw_iconst dX12_exchange_19 (v := (5 : Int32)) (by decide) ?_
    cases hq
    exact jw_iret (ty := .int) dX12_exchange_20 rfl rfl
  · refine jw_if_ne_t (tgt := 21) dX12_exchange_16 (by decide) c4 ?_
    refine jw_aload_n dX12_exchange_21 (o := (some x0)) rfl ?_
    obtain ⟨v5, ev5, hq⟩ := Option.bind_eq_some_iff.mp hq
    refine jw_getI (o := (some x0)) dX12_exchange_22 ev5 fl_X12_124 rfl ?_
    refine jw_iload_n dX12_exchange_25 rfl ?_
    refine jw_isub dX12_exchange_26 ?_
    refine jw_aload_n dX12_exchange_27 (o := (some x0)) rfl ?_
    obtain ⟨v6, ev6, hq⟩ := Option.bind_eq_some_iff.mp hq
    refine jw_getI (o := (some x0)) dX12_exchange_28 ev6 fl_X12_366 rfl ?_
    refine jw_iadd dX12_exchange_31 ?_
    refine jw_bipush dX12_exchange_32 (v := (40 : Int32)) (by decide) ?_
    rcases jw_if hq with ⟨c7, hq⟩ | ⟨c7, hq⟩
    · refine jw_icmp_le_t (tgt := 39) dX12_exchange_34 (by decide) c7 ?_
      refine jw_iconst dX12_exchange_39 (v := (0 : Int32)) (by decide) ?_
      refine jw_istore_n (L' := [some (.ref x0), some (.int ((v1 - v2) + (1 : Int32))), some (.int (0 : Int32))]) dX12_exchange_40 (Nat.le_of_ble_eq_true rfl) rfl ?_
      exact l_X12_exchange_b41  jw_FU _ _ _ _ _ _ hq
    · refine jw_icmp_le_f (tgt := 39) dX12_exchange_34 (by decide) c7 ?_
      refine jw_iconst dX12_exchange_37 (v := (4 : Int32)) (by decide) ?_
      cases hq
      exact jw_iret (ty := .int) dX12_exchange_38 rfl rfl

theorem c_X12_exchange {h : jw_H} {x0 : Nat} {r : Int32} {h' : jw_H} (hq : f_X12_exchange h x0 = some (r, h')) : jw_Con (Cond.code yX12_exchange cX12_exchange 3 (some .int)) yX12_exchange 4 [.ref x0] h (.inl (some (.int r))) h' :=
  jw_con false (plainFor_of_name (by decide +kernel)) (fun z => nomatch z) (by simp [jw_ent, jw_sl0_nil, jw_sl0_int, jw_sl0_long, jw_sl0_ref, jw_sl0_rf, jw_sl0_scr, List.replicate]) (by simp [jw_sl0_nil, jw_sl0_int, jw_sl0_long, jw_sl0_ref, jw_sl0_rf, jw_sl0_scr]) (l_X12_exchange hq)


/-! X12_moveRight -/
noncomputable def g_X12_moveRight_b7 (k7 : jw_H → Nat → Int32 → Int32 → Int32 → Option (Int32 × jw_H)) (h : jw_H) (x0 : Nat) (x1 : Int32) (x2 : Int32) (x3 : Int32) : Option (Int32 × jw_H) :=
 if x2 ≤ x3 then ((jw_rc h 12 (some x0)).bind fun a2 =>
 jw_b2 (f_X12_len h a2 x1) fun w4 h3 =>
 (jw_rc h3 12 (some x0)).bind fun a5 =>
 jw_b2 (f_X12_makesRow h3 a5 x1 (0 : Int32) w4) fun w7 h6 =>
 (jw_rc h6 12 (some x0)).bind fun a8 =>
 jw_b2 (f_X12_lays h6 a8 x1) fun w10 h9 =>
 (jw_rb w10).bind fun v11 =>
 some (w10, h9))
 else ((jw_rc h 12 (some x0)).bind fun a12 =>
 jw_b2 (f_X12_makes h a12 (32 : Int32)) fun w14 h13 =>
 k7 h13 x0 x1 x2 (x3 + (1 : Int32)))

noncomputable def f_X12_moveRight_b7 (n : Nat) : jw_H → Nat → Int32 → Int32 → Int32 → Option (Int32 × jw_H) :=
 Nat.rec (fun _ _ _ _ _ => none) (fun _ k7 => g_X12_moveRight_b7 k7) n

noncomputable def f_X12_moveRight (h : jw_H) (x0 : Nat) (x1 : Int32) (x2 : Int32) : Option (Int32 × jw_H) :=
 (jw_pI h 12 (some x0) 20 (0 : Int32)).bind fun h1 =>
 f_X12_moveRight_b7  jw_FU h1 x0 x1 x2 (0 : Int32)

set_option maxRecDepth 100000 in
set_option maxHeartbeats 4000000 in
theorem l_X12_moveRight_b7g {hi : jw_H} {k7 : jw_H → Nat → Int32 → Int32 → Int32 → Option (Int32 × jw_H)} (hk7 : ∀ (h : jw_H) (x0 : Nat) (x1 : Int32) (x2 : Int32) (x3 : Int32) (r : Int32) (h' : jw_H), k7 h x0 x1 x2 x3 = some (r, h') → jw_E 2 uX12_moveRight hi 7 [some (.ref x0), some (.int x1), some (.int x2), some (.int x3)] [] h (.inl (some (.int r))) h') {h : jw_H} {x0 : Nat} {x1 : Int32} {x2 : Int32} {x3 : Int32} {r : Int32} {h' : jw_H} (hq : g_X12_moveRight_b7 k7 h x0 x1 x2 x3 = some (r, h')) : jw_E 2 uX12_moveRight hi 7 [some (.ref x0), some (.int x1), some (.int x2), some (.int x3)] [] h (.inl (some (.int r))) h' := by
  unfold g_X12_moveRight_b7 at hq
  refine jw_iload_n dX12_moveRight_7 rfl ?_
  refine jw_iload_n dX12_moveRight_8 rfl ?_
  rcases jw_if hq with ⟨c1, hq⟩ | ⟨c1, hq⟩
  · refine jw_icmp_ge_t (tgt := 24) dX12_moveRight_9 (by decide) c1 ?_
    refine jw_aload_n dX12_moveRight_24 (o := (some x0)) rfl ?_
    refine jw_iload_n dX12_moveRight_25 rfl ?_
    refine jw_iconst dX12_moveRight_26 (v := (0 : Int32)) (by decide) ?_
    refine jw_aload_n dX12_moveRight_27 (o := (some x0)) rfl ?_
    refine jw_iload_n dX12_moveRight_28 rfl ?_
    obtain ⟨a2, ea2, hq⟩ := Option.bind_eq_some_iff.mp hq
    obtain ⟨eoa2, eta2⟩ := jw_rc_spec ea2
    obtain ⟨w4, h3, ew4, hq⟩ := jw_b2_spec hq
    refine jw_callV (As := [.int x1]) (S := [.int (0 : Int32), .int x1, .ref x0]) (a := a2) (v := some (.int w4)) dX12_moveRight_29 mt_X12_len in_X12_len se_X12_len lk_X12_109 (c_X12_len ew4) eta2 (by decide) rfl rfl (by decide) (Nat.le_of_ble_eq_true rfl) (by cases eoa2; rfl) ?_
    obtain ⟨a5, ea5, hq⟩ := Option.bind_eq_some_iff.mp hq
    obtain ⟨eoa5, eta5⟩ := jw_rc_spec ea5
    obtain ⟨w7, h6, ew7, hq⟩ := jw_b2_spec hq
    refine jw_callV (As := [.int x1, .int (0 : Int32), .int w4]) (S := []) (a := a5) (v := none) dX12_moveRight_32 mt_X12_makesRow in_X12_makesRow se_X12_makesRow lk_X12_348 (c_X12_makesRow ew7) eta5 (by decide) rfl rfl (by decide) (Nat.le_of_ble_eq_true rfl) (by cases eoa5; rfl) ?_
    refine jw_aload_n dX12_moveRight_35 (o := (some x0)) rfl ?_
    refine jw_iload_n dX12_moveRight_36 rfl ?_
    obtain ⟨a8, ea8, hq⟩ := Option.bind_eq_some_iff.mp hq
    obtain ⟨eoa8, eta8⟩ := jw_rc_spec ea8
    obtain ⟨w10, h9, ew10, hq⟩ := jw_b2_spec hq
    refine jw_callV (As := [.int x1]) (S := []) (a := a8) (v := some (.int w10)) dX12_moveRight_37 mt_X12_lays in_X12_lays se_X12_lays lk_X12_329 (c_X12_lays ew10) eta8 (by decide) rfl rfl (by decide) (Nat.le_of_ble_eq_true rfl) (by cases eoa8; rfl) ?_
    obtain ⟨v11, ev11, hq⟩ := Option.bind_eq_some_iff.mp hq
    cases hq
    exact jw_iret (ty := .boolean) dX12_moveRight_40 rfl (jw_rb_spec ev11)
  · refine jw_icmp_ge_f (tgt := 24) dX12_moveRight_9 (by decide) c1 ?_
    refine jw_aload_n dX12_moveRight_12 (o := (some x0)) rfl ?_
    refine jw_bipush dX12_moveRight_13 (v := (32 : Int32)) (by decide) ?_
    obtain ⟨a12, ea12, hq⟩ := Option.bind_eq_some_iff.mp hq
    obtain ⟨eoa12, eta12⟩ := jw_rc_spec ea12
    obtain ⟨w14, h13, ew14, hq⟩ := jw_b2_spec hq
    refine jw_callV (As := [.int (32 : Int32)]) (S := []) (a := a12) (v := none) dX12_moveRight_15 mt_X12_makes in_X12_makes se_X12_makes lk_X12_120 (c_X12_makes ew14) eta12 (by decide) rfl rfl (by decide) (Nat.le_of_ble_eq_true rfl) (by cases eoa12; rfl) ?_
    refine jw_iinc (L' := [some (.ref x0), some (.int x1), some (.int x2), some (.int (x3 + (1 : Int32)))]) dX12_moveRight_18 rfl (v := (1 : Int32)) (by decide) (Nat.le_of_ble_eq_true rfl) rfl ?_
    refine jw_goto (tgt := 7) dX12_moveRight_21 (by decide) ?_
    exact hk7 _ _ _ _ _ _ _ hq

theorem l_X12_moveRight_b7 {hi : jw_H} : ∀ (n : Nat) (h : jw_H) (x0 : Nat) (x1 : Int32) (x2 : Int32) (x3 : Int32) (r : Int32) (h' : jw_H), f_X12_moveRight_b7  n h x0 x1 x2 x3 = some (r, h') → jw_E 2 uX12_moveRight hi 7 [some (.ref x0), some (.int x1), some (.int x2), some (.int x3)] [] h (.inl (some (.int r))) h' := by
  intro n
  induction n with
  | zero => intro h x0 x1 x2 x3 r h' hq; exact nomatch hq
  | succ n ih => intro h x0 x1 x2 x3 r h' hq; exact l_X12_moveRight_b7g ih hq

set_option maxRecDepth 100000 in
set_option maxHeartbeats 4000000 in
theorem l_X12_moveRight {hi : jw_H} {h : jw_H} {x0 : Nat} {x1 : Int32} {x2 : Int32} {r : Int32} {h' : jw_H} (hq : f_X12_moveRight  h x0 x1 x2 = some (r, h')) : jw_E 2 uX12_moveRight hi 0 [some (.ref x0), some (.int x1), some (.int x2), none] [] h (.inl (some (.int r))) h' := by
  unfold f_X12_moveRight at hq
  refine jw_aload_n dX12_moveRight_0 (o := (some x0)) rfl ?_
  refine jw_iconst dX12_moveRight_1 (v := (0 : Int32)) (by decide) ?_
  obtain ⟨h1, eh1, hq⟩ := Option.bind_eq_some_iff.mp hq
  refine jw_putI (o := (some x0)) dX12_moveRight_2 eh1 fl_X12_117 rfl rfl ?_
  refine jw_iconst dX12_moveRight_5 (v := (0 : Int32)) (by decide) ?_
  refine jw_istore_n (L' := [some (.ref x0), some (.int x1), some (.int x2), some (.int (0 : Int32))]) dX12_moveRight_6 (Nat.le_of_ble_eq_true rfl) rfl ?_
  exact l_X12_moveRight_b7  jw_FU _ _ _ _ _ _ _ hq

theorem c_X12_moveRight {h : jw_H} {x0 : Nat} {x1 : Int32} {x2 : Int32} {r : Int32} {h' : jw_H} (hq : f_X12_moveRight h x0 x1 x2 = some (r, h')) : jw_Con (Cond.code yX12_moveRight cX12_moveRight 4 (some .boolean)) yX12_moveRight 2 [.ref x0, .int x1, .int x2] h (.inl (some (.int r))) h' :=
  jw_con false (plainFor_of_name (by decide +kernel)) (fun z => nomatch z) (by simp [jw_ent, jw_sl0_nil, jw_sl0_int, jw_sl0_long, jw_sl0_ref, jw_sl0_rf, jw_sl0_scr, List.replicate]) (by simp [jw_sl0_nil, jw_sl0_int, jw_sl0_long, jw_sl0_ref, jw_sl0_rf, jw_sl0_scr]) (l_X12_moveRight hq)


/-! X12_moveLeft -/
noncomputable def g_X12_moveLeft_b33 (h : jw_H) (x0 : Nat) (x1 : Int32) (x3 : Int32) : Option (Unit × jw_H) :=
 (jw_pI h 12 (some x0) 20 (0 : Int32)).bind fun h1 =>
 (jw_rc h1 12 (some x0)).bind fun a2 =>
 jw_b2 (f_X12_len h1 a2 x1) fun w4 h3 =>
 (jw_rc h3 12 (some x0)).bind fun a5 =>
 jw_b2 (f_X12_makesRow h3 a5 x1 x3 w4) fun w7 h6 =>
 (jw_rc h6 12 (some x0)).bind fun a8 =>
 jw_b2 (f_X12_lays h6 a8 x1) fun w10 h9 =>
 some ((), h9)

noncomputable def g_X12_moveLeft_b2 (k2 : jw_H → Nat → Int32 → Int32 → Int32 → Option (Unit × jw_H)) (h : jw_H) (x0 : Nat) (x1 : Int32) (x2 : Int32) (x3 : Int32) : Option (Unit × jw_H) :=
 if x2 ≤ x3 then (g_X12_moveLeft_b33  h x0 x1 x3)
 else ((jw_rc h 12 (some x0)).bind fun a2 =>
 jw_b2 (f_X12_len h a2 x1) fun w4 h3 =>
 if w4 ≤ x3 then (g_X12_moveLeft_b33  h3 x0 x1 x3)
 else ((jw_rc h3 12 (some x0)).bind fun a6 =>
 jw_b2 (f_X12_sign h3 a6 x1 x3) fun w8 h7 =>
 if w8 = (32 : Int32) then (k2 h7 x0 x1 x2 (x3 + (1 : Int32)))
 else (g_X12_moveLeft_b33  h7 x0 x1 x3)))

noncomputable def f_X12_moveLeft_b2 (n : Nat) : jw_H → Nat → Int32 → Int32 → Int32 → Option (Unit × jw_H) :=
 Nat.rec (fun _ _ _ _ _ => none) (fun _ k2 => g_X12_moveLeft_b2 k2) n

noncomputable def f_X12_moveLeft (h : jw_H) (x0 : Nat) (x1 : Int32) (x2 : Int32) : Option (Unit × jw_H) :=
 f_X12_moveLeft_b2  jw_FU h x0 x1 x2 (0 : Int32)

set_option maxRecDepth 100000 in
set_option maxHeartbeats 4000000 in
theorem l_X12_moveLeft_b33 {hi : jw_H} {h : jw_H} {x0 : Nat} {x1 : Int32} {x3 : Int32} {r : Unit} {h' : jw_H} (hq : g_X12_moveLeft_b33  h x0 x1 x3 = some (r, h')) : jw_E 2 uX12_moveLeft hi 33 [some (.ref x0), some (.int x1), none, some (.int x3)] [] h (.inl none) h' := by
  unfold g_X12_moveLeft_b33 at hq
  refine jw_aload_n dX12_moveLeft_33 (o := (some x0)) rfl ?_
  refine jw_iconst dX12_moveLeft_34 (v := (0 : Int32)) (by decide) ?_
  obtain ⟨h1, eh1, hq⟩ := Option.bind_eq_some_iff.mp hq
  refine jw_putI (o := (some x0)) dX12_moveLeft_35 eh1 fl_X12_117 rfl rfl ?_
  refine jw_aload_n dX12_moveLeft_38 (o := (some x0)) rfl ?_
  refine jw_iload_n dX12_moveLeft_39 rfl ?_
  refine jw_iload_n dX12_moveLeft_40 rfl ?_
  refine jw_aload_n dX12_moveLeft_41 (o := (some x0)) rfl ?_
  refine jw_iload_n dX12_moveLeft_42 rfl ?_
  obtain ⟨a2, ea2, hq⟩ := Option.bind_eq_some_iff.mp hq
  obtain ⟨eoa2, eta2⟩ := jw_rc_spec ea2
  obtain ⟨w4, h3, ew4, hq⟩ := jw_b2_spec hq
  refine jw_callV (As := [.int x1]) (S := [.int x3, .int x1, .ref x0]) (a := a2) (v := some (.int w4)) dX12_moveLeft_43 mt_X12_len in_X12_len se_X12_len lk_X12_109 (c_X12_len ew4) eta2 (by decide) rfl rfl (by decide) (Nat.le_of_ble_eq_true rfl) (by cases eoa2; rfl) ?_
  obtain ⟨a5, ea5, hq⟩ := Option.bind_eq_some_iff.mp hq
  obtain ⟨eoa5, eta5⟩ := jw_rc_spec ea5
  obtain ⟨w7, h6, ew7, hq⟩ := jw_b2_spec hq
  refine jw_callV (As := [.int x1, .int x3, .int w4]) (S := []) (a := a5) (v := none) dX12_moveLeft_46 mt_X12_makesRow in_X12_makesRow se_X12_makesRow lk_X12_348 (c_X12_makesRow ew7) eta5 (by decide) rfl rfl (by decide) (Nat.le_of_ble_eq_true rfl) (by cases eoa5; rfl) ?_
  refine jw_aload_n dX12_moveLeft_49 (o := (some x0)) rfl ?_
  refine jw_iload_n dX12_moveLeft_50 rfl ?_
  obtain ⟨a8, ea8, hq⟩ := Option.bind_eq_some_iff.mp hq
  obtain ⟨eoa8, eta8⟩ := jw_rc_spec ea8
  obtain ⟨w10, h9, ew10, hq⟩ := jw_b2_spec hq
  refine jw_callV (As := [.int x1]) (S := []) (a := a8) (v := some (.int w10)) dX12_moveLeft_51 mt_X12_lays in_X12_lays se_X12_lays lk_X12_329 (c_X12_lays ew10) eta8 (by decide) rfl rfl (by decide) (Nat.le_of_ble_eq_true rfl) (by cases eoa8; rfl) ?_
  refine jw_pop dX12_moveLeft_54 rfl ?_
  cases hq
  exact jw_vret dX12_moveLeft_55 rfl

set_option maxRecDepth 100000 in
set_option maxHeartbeats 4000000 in
theorem l_X12_moveLeft_b2g {hi : jw_H} {k2 : jw_H → Nat → Int32 → Int32 → Int32 → Option (Unit × jw_H)} (hk2 : ∀ (h : jw_H) (x0 : Nat) (x1 : Int32) (x2 : Int32) (x3 : Int32) (r : Unit) (h' : jw_H), k2 h x0 x1 x2 x3 = some (r, h') → jw_E 2 uX12_moveLeft hi 2 [some (.ref x0), some (.int x1), some (.int x2), some (.int x3)] [] h (.inl none) h') {h : jw_H} {x0 : Nat} {x1 : Int32} {x2 : Int32} {x3 : Int32} {r : Unit} {h' : jw_H} (hq : g_X12_moveLeft_b2 k2 h x0 x1 x2 x3 = some (r, h')) : jw_E 2 uX12_moveLeft hi 2 [some (.ref x0), some (.int x1), some (.int x2), some (.int x3)] [] h (.inl none) h' := by
  unfold g_X12_moveLeft_b2 at hq
  refine jw_iload_n dX12_moveLeft_2 rfl ?_
  refine jw_iload_n dX12_moveLeft_3 rfl ?_
  rcases jw_if hq with ⟨c1, hq⟩ | ⟨c1, hq⟩
  · refine jw_icmp_ge_t (tgt := 33) dX12_moveLeft_4 (by decide) c1 ?_
    refine jw_forget [true, true, false, true] (L' := [some (.ref x0), some (.int x1), none, some (.int x3)]) rfl ?_
    exact l_X12_moveLeft_b33  hq
  · refine jw_icmp_ge_f (tgt := 33) dX12_moveLeft_4 (by decide) c1 ?_
    refine jw_iload_n dX12_moveLeft_7 rfl ?_
    refine jw_aload_n dX12_moveLeft_8 (o := (some x0)) rfl ?_
    refine jw_iload_n dX12_moveLeft_9 rfl ?_
    obtain ⟨a2, ea2, hq⟩ := Option.bind_eq_some_iff.mp hq
    obtain ⟨eoa2, eta2⟩ := jw_rc_spec ea2
    obtain ⟨w4, h3, ew4, hq⟩ := jw_b2_spec hq
    refine jw_callV (As := [.int x1]) (S := [.int x3]) (a := a2) (v := some (.int w4)) dX12_moveLeft_10 mt_X12_len in_X12_len se_X12_len lk_X12_109 (c_X12_len ew4) eta2 (by decide) rfl rfl (by decide) (Nat.le_of_ble_eq_true rfl) (by cases eoa2; rfl) ?_
    rcases jw_if hq with ⟨c5, hq⟩ | ⟨c5, hq⟩
    · refine jw_icmp_ge_t (tgt := 33) dX12_moveLeft_13 (by decide) c5 ?_
      refine jw_forget [true, true, false, true] (L' := [some (.ref x0), some (.int x1), none, some (.int x3)]) rfl ?_
      exact l_X12_moveLeft_b33  hq
    · refine jw_icmp_ge_f (tgt := 33) dX12_moveLeft_13 (by decide) c5 ?_
      refine jw_aload_n dX12_moveLeft_16 (o := (some x0)) rfl ?_
      refine jw_iload_n dX12_moveLeft_17 rfl ?_
      refine jw_iload_n dX12_moveLeft_18 rfl ?_
      obtain ⟨a6, ea6, hq⟩ := Option.bind_eq_some_iff.mp hq
      obtain ⟨eoa6, eta6⟩ := jw_rc_spec ea6
      obtain ⟨w8, h7, ew8, hq⟩ := jw_b2_spec hq
      refine jw_callV (As := [.int x1, .int x3]) (S := []) (a := a6) (v := some (.int w8)) dX12_moveLeft_19 mt_X12_sign in_X12_sign se_X12_sign lk_X12_113 (c_X12_sign ew8) eta6 (by decide) rfl rfl (by decide) (Nat.le_of_ble_eq_true rfl) (by cases eoa6; rfl) ?_
      refine jw_bipush dX12_moveLeft_22 (v := (32 : Int32)) (by decide) ?_
      rcases jw_if hq with ⟨c9, hq⟩ | ⟨c9, hq⟩
      · refine jw_icmp_ne_f (tgt := 33) dX12_moveLeft_24 (by decide) c9 ?_
        refine jw_iinc (L' := [some (.ref x0), some (.int x1), some (.int x2), some (.int (x3 + (1 : Int32)))]) dX12_moveLeft_27 rfl (v := (1 : Int32)) (by decide) (Nat.le_of_ble_eq_true rfl) rfl ?_
        refine jw_goto (tgt := 2) dX12_moveLeft_30 (by decide) ?_
        exact hk2 _ _ _ _ _ _ _ hq
      · refine jw_icmp_ne_t (tgt := 33) dX12_moveLeft_24 (by decide) c9 ?_
        refine jw_forget [true, true, false, true] (L' := [some (.ref x0), some (.int x1), none, some (.int x3)]) rfl ?_
        exact l_X12_moveLeft_b33  hq

theorem l_X12_moveLeft_b2 {hi : jw_H} : ∀ (n : Nat) (h : jw_H) (x0 : Nat) (x1 : Int32) (x2 : Int32) (x3 : Int32) (r : Unit) (h' : jw_H), f_X12_moveLeft_b2  n h x0 x1 x2 x3 = some (r, h') → jw_E 2 uX12_moveLeft hi 2 [some (.ref x0), some (.int x1), some (.int x2), some (.int x3)] [] h (.inl none) h' := by
  intro n
  induction n with
  | zero => intro h x0 x1 x2 x3 r h' hq; exact nomatch hq
  | succ n ih => intro h x0 x1 x2 x3 r h' hq; exact l_X12_moveLeft_b2g ih hq

set_option maxRecDepth 100000 in
set_option maxHeartbeats 4000000 in
theorem l_X12_moveLeft {hi : jw_H} {h : jw_H} {x0 : Nat} {x1 : Int32} {x2 : Int32} {r : Unit} {h' : jw_H} (hq : f_X12_moveLeft  h x0 x1 x2 = some (r, h')) : jw_E 2 uX12_moveLeft hi 0 [some (.ref x0), some (.int x1), some (.int x2), none] [] h (.inl none) h' := by
  unfold f_X12_moveLeft at hq
  refine jw_iconst dX12_moveLeft_0 (v := (0 : Int32)) (by decide) ?_
  refine jw_istore_n (L' := [some (.ref x0), some (.int x1), some (.int x2), some (.int (0 : Int32))]) dX12_moveLeft_1 (Nat.le_of_ble_eq_true rfl) rfl ?_
  exact l_X12_moveLeft_b2  jw_FU _ _ _ _ _ _ _ hq

theorem c_X12_moveLeft {h : jw_H} {x0 : Nat} {x1 : Int32} {x2 : Int32} {r : Unit} {h' : jw_H} (hq : f_X12_moveLeft h x0 x1 x2 = some (r, h')) : jw_Con (Cond.code yX12_moveLeft cX12_moveLeft 4 none) yX12_moveLeft 2 [.ref x0, .int x1, .int x2] h (.inl none) h' :=
  jw_con false (plainFor_of_name (by decide +kernel)) (fun z => nomatch z) (by simp [jw_ent, jw_sl0_nil, jw_sl0_int, jw_sl0_long, jw_sl0_ref, jw_sl0_rf, jw_sl0_scr, List.replicate]) (by simp [jw_sl0_nil, jw_sl0_int, jw_sl0_long, jw_sl0_ref, jw_sl0_rf, jw_sl0_scr]) (l_X12_moveLeft hq)


/-! X12_shift -/
noncomputable def g_X12_shift_b43 (k5 : jw_H → Nat → Int32 → Int32 → Int32 → Option (Int32 × jw_H)) (h : jw_H) (x0 : Nat) (x1 : Int32) (x2 : Int32) (x3 : Int32) : Option (Int32 × jw_H) :=
 k5 h x0 x1 x2 (x3 + (1 : Int32))

noncomputable def g_X12_shift_b5 (k5 : jw_H → Nat → Int32 → Int32 → Int32 → Option (Int32 × jw_H)) (h : jw_H) (x0 : Nat) (x1 : Int32) (x2 : Int32) (x3 : Int32) : Option (Int32 × jw_H) :=
 (jw_gI h 12 (some x0) 43).bind fun v1 =>
 if v1 < x3 then ((jw_gI h 12 (some x0) 43).bind fun v3 =>
 (jw_pI h 12 (some x0) 16 v3).bind fun h4 =>
 some ((0 : Int32), h4))
 else (if x2 = 0 then (jw_b2 (f_X12_textRow h x3) fun w13 h12 =>
 (jw_rc h12 12 (some x0)).bind fun a14 =>
 jw_b2 (f_X12_moveLeft h12 a14 w13 x1) fun w16 h15 =>
 g_X12_shift_b43 k5 h15 x0 x1 x2 x3)
 else (jw_b2 (f_X12_textRow h x3) fun w7 h6 =>
 (jw_rc h6 12 (some x0)).bind fun a8 =>
 jw_b2 (f_X12_moveRight h6 a8 w7 x1) fun w10 h9 =>
 if w10 = 0 then (some ((4 : Int32), h9))
 else (g_X12_shift_b43 k5 h9 x0 x1 x2 x3)))

noncomputable def f_X12_shift_b5 (n : Nat) : jw_H → Nat → Int32 → Int32 → Int32 → Option (Int32 × jw_H) :=
 Nat.rec (fun _ _ _ _ _ => none) (fun _ k5 => g_X12_shift_b5 k5) n

noncomputable def f_X12_shift (h : jw_H) (x0 : Nat) (x1 : Int32) (x2 : Int32) : Option (Int32 × jw_H) :=
 (jw_gI h 12 (some x0) 42).bind fun v1 =>
 f_X12_shift_b5  jw_FU h x0 x1 x2 v1

set_option maxRecDepth 100000 in
set_option maxHeartbeats 4000000 in
theorem l_X12_shift_b43 {hi : jw_H} {k5 : jw_H → Nat → Int32 → Int32 → Int32 → Option (Int32 × jw_H)} (hk5 : ∀ (h : jw_H) (x0 : Nat) (x1 : Int32) (x2 : Int32) (x3 : Int32) (r : Int32) (h' : jw_H), k5 h x0 x1 x2 x3 = some (r, h') → jw_E 3 uX12_shift hi 5 [some (.ref x0), some (.int x1), some (.int x2), some (.int x3)] [] h (.inl (some (.int r))) h') {h : jw_H} {x0 : Nat} {x1 : Int32} {x2 : Int32} {x3 : Int32} {r : Int32} {h' : jw_H} (hq : g_X12_shift_b43 k5 h x0 x1 x2 x3 = some (r, h')) : jw_E 3 uX12_shift hi 43 [some (.ref x0), some (.int x1), some (.int x2), some (.int x3)] [] h (.inl (some (.int r))) h' := by
  unfold g_X12_shift_b43 at hq
  refine jw_iinc (L' := [some (.ref x0), some (.int x1), some (.int x2), some (.int (x3 + (1 : Int32)))]) dX12_shift_43 rfl (v := (1 : Int32)) (by decide) (Nat.le_of_ble_eq_true rfl) rfl ?_
  refine jw_goto (tgt := 5) dX12_shift_46 (by decide) ?_
  exact hk5 _ _ _ _ _ _ _ hq

set_option maxRecDepth 100000 in
set_option maxHeartbeats 4000000 in
theorem l_X12_shift_b5g {hi : jw_H} {k5 : jw_H → Nat → Int32 → Int32 → Int32 → Option (Int32 × jw_H)} (hk5 : ∀ (h : jw_H) (x0 : Nat) (x1 : Int32) (x2 : Int32) (x3 : Int32) (r : Int32) (h' : jw_H), k5 h x0 x1 x2 x3 = some (r, h') → jw_E 3 uX12_shift hi 5 [some (.ref x0), some (.int x1), some (.int x2), some (.int x3)] [] h (.inl (some (.int r))) h') {h : jw_H} {x0 : Nat} {x1 : Int32} {x2 : Int32} {x3 : Int32} {r : Int32} {h' : jw_H} (hq : g_X12_shift_b5 k5 h x0 x1 x2 x3 = some (r, h')) : jw_E 3 uX12_shift hi 5 [some (.ref x0), some (.int x1), some (.int x2), some (.int x3)] [] h (.inl (some (.int r))) h' := by
  unfold g_X12_shift_b5 at hq
  refine jw_iload_n dX12_shift_5 rfl ?_
  refine jw_aload_n dX12_shift_6 (o := (some x0)) rfl ?_
  obtain ⟨v1, ev1, hq⟩ := Option.bind_eq_some_iff.mp hq
  refine jw_getI (o := (some x0)) dX12_shift_7 ev1 fl_X12_320 rfl ?_
  rcases jw_if hq with ⟨c2, hq⟩ | ⟨c2, hq⟩
  · refine jw_icmp_gt_t (tgt := 49) dX12_shift_10 (by decide) c2 ?_
    refine jw_aload_n dX12_shift_49 (o := (some x0)) rfl ?_
    refine jw_aload_n dX12_shift_50 (o := (some x0)) rfl ?_
    obtain ⟨v3, ev3, hq⟩ := Option.bind_eq_some_iff.mp hq
    refine jw_getI (o := (some x0)) dX12_shift_51 ev3 fl_X12_320 rfl ?_
    obtain ⟨h4, eh4, hq⟩ := Option.bind_eq_some_iff.mp hq
    refine jw_putI (o := (some x0)) dX12_shift_54 eh4 fl_X12_295 rfl rfl ?_
    refine jw_iconst dX12_shift_57 (v := (0 : Int32)) (by decide) ?_
    cases hq
    exact jw_iret (ty := .int) dX12_shift_58 rfl rfl
  · refine jw_icmp_gt_f (tgt := 49) dX12_shift_10 (by decide) c2 ?_
    refine jw_iload_n dX12_shift_13 rfl ?_
    rcases jw_if hq with ⟨c5, hq⟩ | ⟨c5, hq⟩
    · refine jw_if_ne_f (tgt := 29) dX12_shift_14 (by decide) c5 ?_
      refine jw_aload_n dX12_shift_17 (o := (some x0)) rfl ?_
      refine jw_iload_n dX12_shift_18 rfl ?_
      obtain ⟨w13, h12, ew13, hq⟩ := jw_b2_spec hq
      refine jw_callS (As := [.int x3]) (S := [.ref x0]) (v := some (.int w13)) dX12_shift_19 mt_X12_textRow st_X12_textRow lk_X12_298 (c_X12_textRow ew13) rfl (by decide) (Nat.le_of_ble_eq_true rfl) rfl ?_
      refine jw_iload_n dX12_shift_22 rfl ?_
      obtain ⟨a14, ea14, hq⟩ := Option.bind_eq_some_iff.mp hq
      obtain ⟨eoa14, eta14⟩ := jw_rc_spec ea14
      obtain ⟨w16, h15, ew16, hq⟩ := jw_b2_spec hq
      refine jw_callV (As := [.int w13, .int x1]) (S := []) (a := a14) (v := none) dX12_shift_23 mt_X12_moveLeft in_X12_moveLeft se_X12_moveLeft lk_X12_369 (c_X12_moveLeft ew16) eta14 (by decide) rfl rfl (by decide) (Nat.le_of_ble_eq_true rfl) (by cases eoa14; rfl) ?_
      refine jw_goto (tgt := 43) dX12_shift_26 (by decide) ?_
      exact l_X12_shift_b43 hk5 hq
    · refine jw_if_ne_t (tgt := 29) dX12_shift_14 (by decide) c5 ?_
      refine jw_aload_n dX12_shift_29 (o := (some x0)) rfl ?_
      refine jw_iload_n dX12_shift_30 rfl ?_
      obtain ⟨w7, h6, ew7, hq⟩ := jw_b2_spec hq
      refine jw_callS (As := [.int x3]) (S := [.ref x0]) (v := some (.int w7)) dX12_shift_31 mt_X12_textRow st_X12_textRow lk_X12_298 (c_X12_textRow ew7) rfl (by decide) (Nat.le_of_ble_eq_true rfl) rfl ?_
      refine jw_iload_n dX12_shift_34 rfl ?_
      obtain ⟨a8, ea8, hq⟩ := Option.bind_eq_some_iff.mp hq
      obtain ⟨eoa8, eta8⟩ := jw_rc_spec ea8
      obtain ⟨w10, h9, ew10, hq⟩ := jw_b2_spec hq
      refine jw_callV (As := [.int w7, .int x1]) (S := []) (a := a8) (v := some (.int w10)) dX12_shift_35 mt_X12_moveRight in_X12_moveRight se_X12_moveRight lk_X12_372 (c_X12_moveRight ew10) eta8 (by decide) rfl rfl (by decide) (Nat.le_of_ble_eq_true rfl) (by cases eoa8; rfl) ?_
      rcases jw_if hq with ⟨c11, hq⟩ | ⟨c11, hq⟩
      · refine jw_if_ne_f (tgt := 43) dX12_shift_38 (by decide) c11 ?_
        refine jw_iconst dX12_shift_41 (v := (4 : Int32)) (by decide) ?_
        cases hq
        exact jw_iret (ty := .int) dX12_shift_42 rfl rfl
      · refine jw_if_ne_t (tgt := 43) dX12_shift_38 (by decide) c11 ?_
        exact l_X12_shift_b43 hk5 hq

theorem l_X12_shift_b5 {hi : jw_H} : ∀ (n : Nat) (h : jw_H) (x0 : Nat) (x1 : Int32) (x2 : Int32) (x3 : Int32) (r : Int32) (h' : jw_H), f_X12_shift_b5  n h x0 x1 x2 x3 = some (r, h') → jw_E 3 uX12_shift hi 5 [some (.ref x0), some (.int x1), some (.int x2), some (.int x3)] [] h (.inl (some (.int r))) h' := by
  intro n
  induction n with
  | zero => intro h x0 x1 x2 x3 r h' hq; exact nomatch hq
  | succ n ih => intro h x0 x1 x2 x3 r h' hq; exact l_X12_shift_b5g ih hq

set_option maxRecDepth 100000 in
set_option maxHeartbeats 4000000 in
theorem l_X12_shift {hi : jw_H} {h : jw_H} {x0 : Nat} {x1 : Int32} {x2 : Int32} {r : Int32} {h' : jw_H} (hq : f_X12_shift  h x0 x1 x2 = some (r, h')) : jw_E 3 uX12_shift hi 0 [some (.ref x0), some (.int x1), some (.int x2), none] [] h (.inl (some (.int r))) h' := by
  unfold f_X12_shift at hq
  refine jw_aload_n dX12_shift_0 (o := (some x0)) rfl ?_
  obtain ⟨v1, ev1, hq⟩ := Option.bind_eq_some_iff.mp hq
  refine jw_getI (o := (some x0)) dX12_shift_1 ev1 fl_X12_317 rfl ?_
  refine jw_istore_n (L' := [some (.ref x0), some (.int x1), some (.int x2), some (.int v1)]) dX12_shift_4 (Nat.le_of_ble_eq_true rfl) rfl ?_
  exact l_X12_shift_b5  jw_FU _ _ _ _ _ _ _ hq

theorem c_X12_shift {h : jw_H} {x0 : Nat} {x1 : Int32} {x2 : Int32} {r : Int32} {h' : jw_H} (hq : f_X12_shift h x0 x1 x2 = some (r, h')) : jw_Con (Cond.code yX12_shift cX12_shift 4 (some .int)) yX12_shift 3 [.ref x0, .int x1, .int x2] h (.inl (some (.int r))) h' :=
  jw_con false (plainFor_of_name (by decide +kernel)) (fun z => nomatch z) (by simp [jw_ent, jw_sl0_nil, jw_sl0_int, jw_sl0_long, jw_sl0_ref, jw_sl0_rf, jw_sl0_scr, List.replicate]) (by simp [jw_sl0_nil, jw_sl0_int, jw_sl0_long, jw_sl0_ref, jw_sl0_rf, jw_sl0_scr]) (l_X12_shift hq)


/-! X12_compare -/
noncomputable def g_X12_compare_b90 (h : jw_H) (x5 : Int32) (t0 : Int32) : Option (Int32 × jw_H) :=
 some ((x5 - t0), h)

noncomputable def g_X12_compare_b67 (h : jw_H) (x0 : Nat) (x2 : Int32) (x4 : Int32) (t0 : Int32) : Option (Int32 × jw_H) :=
 (jw_rc h 12 (some x0)).bind fun a1 =>
 jw_b2 (f_X12_len h a1 x2) fun w3 h2 =>
 if w3 ≤ x4 then (g_X12_compare_b90  h2 t0 (0 : Int32))
 else ((jw_rc h2 12 (some x0)).bind fun a5 =>
 jw_b2 (f_X12_sign h2 a5 x2 x4) fun w7 h6 =>
 g_X12_compare_b90  h6 t0 w7)

noncomputable def g_X12_compare_b46 (h : jw_H) (x0 : Nat) (x1 : Int32) (x2 : Int32) (x4 : Int32) : Option (Int32 × jw_H) :=
 (jw_rc h 12 (some x0)).bind fun a1 =>
 jw_b2 (f_X12_len h a1 x1) fun w3 h2 =>
 if w3 ≤ x4 then (g_X12_compare_b67  h2 x0 x2 x4 (0 : Int32))
 else ((jw_rc h2 12 (some x0)).bind fun a5 =>
 jw_b2 (f_X12_sign h2 a5 x1 x4) fun w7 h6 =>
 g_X12_compare_b67  h6 x0 x2 x4 w7)

noncomputable def g_X12_compare_b3 (k3 : jw_H → Nat → Int32 → Int32 → Int32 → Option (Int32 × jw_H)) (h : jw_H) (x0 : Nat) (x1 : Int32) (x2 : Int32) (x4 : Int32) : Option (Int32 × jw_H) :=
 (jw_rc h 12 (some x0)).bind fun a1 =>
 jw_b2 (f_X12_len h a1 x1) fun w3 h2 =>
 if w3 ≤ x4 then (g_X12_compare_b46  h2 x0 x1 x2 x4)
 else ((jw_rc h2 12 (some x0)).bind fun a5 =>
 jw_b2 (f_X12_len h2 a5 x2) fun w7 h6 =>
 if w7 ≤ x4 then (g_X12_compare_b46  h6 x0 x1 x2 x4)
 else ((jw_rc h6 12 (some x0)).bind fun a9 =>
 jw_b2 (f_X12_sign h6 a9 x1 x4) fun w11 h10 =>
 (jw_rc h10 12 (some x0)).bind fun a12 =>
 jw_b2 (f_X12_sign h10 a12 x2 x4) fun w14 h13 =>
 if w11 = w14 then (k3 h13 x0 x1 x2 (x4 + (1 : Int32)))
 else (g_X12_compare_b46  h13 x0 x1 x2 x4)))

noncomputable def f_X12_compare_b3 (n : Nat) : jw_H → Nat → Int32 → Int32 → Int32 → Option (Int32 × jw_H) :=
 Nat.rec (fun _ _ _ _ _ => none) (fun _ k3 => g_X12_compare_b3 k3) n

noncomputable def f_X12_compare (h : jw_H) (x0 : Nat) (x1 : Int32) (x2 : Int32) (x3 : Int32) : Option (Int32 × jw_H) :=
 f_X12_compare_b3  jw_FU h x0 x1 x2 x3

set_option maxRecDepth 100000 in
set_option maxHeartbeats 4000000 in
theorem l_X12_compare_b90 {hi : jw_H} {h : jw_H} {x5 : Int32} {t0 : Int32} {r : Int32} {h' : jw_H} (hq : g_X12_compare_b90  h x5 t0 = some (r, h')) : jw_E 1 uX12_compare hi 90 [none, none, none, none, none, some (.int x5), none] [.int t0] h (.inl (some (.int r))) h' := by
  unfold g_X12_compare_b90 at hq
  refine jw_istore (L' := [none, none, none, none, none, some (.int x5), some (.int t0)]) dX12_compare_90 (Nat.le_of_ble_eq_true rfl) rfl ?_
  refine jw_iload dX12_compare_92 rfl ?_
  refine jw_iload dX12_compare_94 rfl ?_
  refine jw_isub dX12_compare_96 ?_
  cases hq
  exact jw_iret (ty := .int) dX12_compare_97 rfl rfl

set_option maxRecDepth 100000 in
set_option maxHeartbeats 4000000 in
theorem l_X12_compare_b67 {hi : jw_H} {h : jw_H} {x0 : Nat} {x2 : Int32} {x4 : Int32} {t0 : Int32} {r : Int32} {h' : jw_H} (hq : g_X12_compare_b67  h x0 x2 x4 t0 = some (r, h')) : jw_E 1 uX12_compare hi 67 [some (.ref x0), none, some (.int x2), none, some (.int x4), none, none] [.int t0] h (.inl (some (.int r))) h' := by
  unfold g_X12_compare_b67 at hq
  refine jw_istore (L' := [some (.ref x0), none, some (.int x2), none, some (.int x4), some (.int t0), none]) dX12_compare_67 (Nat.le_of_ble_eq_true rfl) rfl ?_
  refine jw_iload dX12_compare_69 rfl ?_
  refine jw_aload_n dX12_compare_71 (o := (some x0)) rfl ?_
  refine jw_iload_n dX12_compare_72 rfl ?_
  obtain ⟨a1, ea1, hq⟩ := Option.bind_eq_some_iff.mp hq
  obtain ⟨eoa1, eta1⟩ := jw_rc_spec ea1
  obtain ⟨w3, h2, ew3, hq⟩ := jw_b2_spec hq
  refine jw_callV (As := [.int x2]) (S := [.int x4]) (a := a1) (v := some (.int w3)) dX12_compare_73 mt_X12_len in_X12_len se_X12_len lk_X12_109 (c_X12_len ew3) eta1 (by decide) rfl rfl (by decide) (Nat.le_of_ble_eq_true rfl) (by cases eoa1; rfl) ?_
  rcases jw_if hq with ⟨c4, hq⟩ | ⟨c4, hq⟩
  · refine jw_icmp_ge_t (tgt := 89) dX12_compare_76 (by decide) c4 ?_
    refine jw_iconst dX12_compare_89 (v := (0 : Int32)) (by decide) ?_
    refine jw_forget [false, true, false, true, false, true, true] (L' := [none, none, none, none, none, some (.int t0), none]) rfl ?_
    exact l_X12_compare_b90  hq
  · refine jw_icmp_ge_f (tgt := 89) dX12_compare_76 (by decide) c4 ?_
    refine jw_aload_n dX12_compare_79 (o := (some x0)) rfl ?_
    refine jw_iload_n dX12_compare_80 rfl ?_
    refine jw_iload dX12_compare_81 rfl ?_
    obtain ⟨a5, ea5, hq⟩ := Option.bind_eq_some_iff.mp hq
    obtain ⟨eoa5, eta5⟩ := jw_rc_spec ea5
    obtain ⟨w7, h6, ew7, hq⟩ := jw_b2_spec hq
    refine jw_callV (As := [.int x2, .int x4]) (S := []) (a := a5) (v := some (.int w7)) dX12_compare_83 mt_X12_sign in_X12_sign se_X12_sign lk_X12_113 (c_X12_sign ew7) eta5 (by decide) rfl rfl (by decide) (Nat.le_of_ble_eq_true rfl) (by cases eoa5; rfl) ?_
    refine jw_goto (tgt := 90) dX12_compare_86 (by decide) ?_
    refine jw_forget [false, true, false, true, false, true, true] (L' := [none, none, none, none, none, some (.int t0), none]) rfl ?_
    exact l_X12_compare_b90  hq

set_option maxRecDepth 100000 in
set_option maxHeartbeats 4000000 in
theorem l_X12_compare_b46 {hi : jw_H} {h : jw_H} {x0 : Nat} {x1 : Int32} {x2 : Int32} {x4 : Int32} {r : Int32} {h' : jw_H} (hq : g_X12_compare_b46  h x0 x1 x2 x4 = some (r, h')) : jw_E 1 uX12_compare hi 46 [some (.ref x0), some (.int x1), some (.int x2), none, some (.int x4), none, none] [] h (.inl (some (.int r))) h' := by
  unfold g_X12_compare_b46 at hq
  refine jw_iload dX12_compare_46 rfl ?_
  refine jw_aload_n dX12_compare_48 (o := (some x0)) rfl ?_
  refine jw_iload_n dX12_compare_49 rfl ?_
  obtain ⟨a1, ea1, hq⟩ := Option.bind_eq_some_iff.mp hq
  obtain ⟨eoa1, eta1⟩ := jw_rc_spec ea1
  obtain ⟨w3, h2, ew3, hq⟩ := jw_b2_spec hq
  refine jw_callV (As := [.int x1]) (S := [.int x4]) (a := a1) (v := some (.int w3)) dX12_compare_50 mt_X12_len in_X12_len se_X12_len lk_X12_109 (c_X12_len ew3) eta1 (by decide) rfl rfl (by decide) (Nat.le_of_ble_eq_true rfl) (by cases eoa1; rfl) ?_
  rcases jw_if hq with ⟨c4, hq⟩ | ⟨c4, hq⟩
  · refine jw_icmp_ge_t (tgt := 66) dX12_compare_53 (by decide) c4 ?_
    refine jw_iconst dX12_compare_66 (v := (0 : Int32)) (by decide) ?_
    refine jw_forget [true, false, true, true, true, true, true] (L' := [some (.ref x0), none, some (.int x2), none, some (.int x4), none, none]) rfl ?_
    exact l_X12_compare_b67  hq
  · refine jw_icmp_ge_f (tgt := 66) dX12_compare_53 (by decide) c4 ?_
    refine jw_aload_n dX12_compare_56 (o := (some x0)) rfl ?_
    refine jw_iload_n dX12_compare_57 rfl ?_
    refine jw_iload dX12_compare_58 rfl ?_
    obtain ⟨a5, ea5, hq⟩ := Option.bind_eq_some_iff.mp hq
    obtain ⟨eoa5, eta5⟩ := jw_rc_spec ea5
    obtain ⟨w7, h6, ew7, hq⟩ := jw_b2_spec hq
    refine jw_callV (As := [.int x1, .int x4]) (S := []) (a := a5) (v := some (.int w7)) dX12_compare_60 mt_X12_sign in_X12_sign se_X12_sign lk_X12_113 (c_X12_sign ew7) eta5 (by decide) rfl rfl (by decide) (Nat.le_of_ble_eq_true rfl) (by cases eoa5; rfl) ?_
    refine jw_goto (tgt := 67) dX12_compare_63 (by decide) ?_
    refine jw_forget [true, false, true, true, true, true, true] (L' := [some (.ref x0), none, some (.int x2), none, some (.int x4), none, none]) rfl ?_
    exact l_X12_compare_b67  hq

set_option maxRecDepth 100000 in
set_option maxHeartbeats 4000000 in
theorem l_X12_compare_b3g {hi : jw_H} {k3 : jw_H → Nat → Int32 → Int32 → Int32 → Option (Int32 × jw_H)} (hk3 : ∀ (h : jw_H) (x0 : Nat) (x1 : Int32) (x2 : Int32) (x4 : Int32) (r : Int32) (h' : jw_H), k3 h x0 x1 x2 x4 = some (r, h') → jw_E 1 uX12_compare hi 3 [some (.ref x0), some (.int x1), some (.int x2), none, some (.int x4), none, none] [] h (.inl (some (.int r))) h') {h : jw_H} {x0 : Nat} {x1 : Int32} {x2 : Int32} {x4 : Int32} {r : Int32} {h' : jw_H} (hq : g_X12_compare_b3 k3 h x0 x1 x2 x4 = some (r, h')) : jw_E 1 uX12_compare hi 3 [some (.ref x0), some (.int x1), some (.int x2), none, some (.int x4), none, none] [] h (.inl (some (.int r))) h' := by
  unfold g_X12_compare_b3 at hq
  refine jw_iload dX12_compare_3 rfl ?_
  refine jw_aload_n dX12_compare_5 (o := (some x0)) rfl ?_
  refine jw_iload_n dX12_compare_6 rfl ?_
  obtain ⟨a1, ea1, hq⟩ := Option.bind_eq_some_iff.mp hq
  obtain ⟨eoa1, eta1⟩ := jw_rc_spec ea1
  obtain ⟨w3, h2, ew3, hq⟩ := jw_b2_spec hq
  refine jw_callV (As := [.int x1]) (S := [.int x4]) (a := a1) (v := some (.int w3)) dX12_compare_7 mt_X12_len in_X12_len se_X12_len lk_X12_109 (c_X12_len ew3) eta1 (by decide) rfl rfl (by decide) (Nat.le_of_ble_eq_true rfl) (by cases eoa1; rfl) ?_
  rcases jw_if hq with ⟨c4, hq⟩ | ⟨c4, hq⟩
  · refine jw_icmp_ge_t (tgt := 46) dX12_compare_10 (by decide) c4 ?_
    exact l_X12_compare_b46  hq
  · refine jw_icmp_ge_f (tgt := 46) dX12_compare_10 (by decide) c4 ?_
    refine jw_iload dX12_compare_13 rfl ?_
    refine jw_aload_n dX12_compare_15 (o := (some x0)) rfl ?_
    refine jw_iload_n dX12_compare_16 rfl ?_
    obtain ⟨a5, ea5, hq⟩ := Option.bind_eq_some_iff.mp hq
    obtain ⟨eoa5, eta5⟩ := jw_rc_spec ea5
    obtain ⟨w7, h6, ew7, hq⟩ := jw_b2_spec hq
    refine jw_callV (As := [.int x2]) (S := [.int x4]) (a := a5) (v := some (.int w7)) dX12_compare_17 mt_X12_len in_X12_len se_X12_len lk_X12_109 (c_X12_len ew7) eta5 (by decide) rfl rfl (by decide) (Nat.le_of_ble_eq_true rfl) (by cases eoa5; rfl) ?_
    rcases jw_if hq with ⟨c8, hq⟩ | ⟨c8, hq⟩
    · refine jw_icmp_ge_t (tgt := 46) dX12_compare_20 (by decide) c8 ?_
      exact l_X12_compare_b46  hq
    · refine jw_icmp_ge_f (tgt := 46) dX12_compare_20 (by decide) c8 ?_
      refine jw_aload_n dX12_compare_23 (o := (some x0)) rfl ?_
      refine jw_iload_n dX12_compare_24 rfl ?_
      refine jw_iload dX12_compare_25 rfl ?_
      obtain ⟨a9, ea9, hq⟩ := Option.bind_eq_some_iff.mp hq
      obtain ⟨eoa9, eta9⟩ := jw_rc_spec ea9
      obtain ⟨w11, h10, ew11, hq⟩ := jw_b2_spec hq
      refine jw_callV (As := [.int x1, .int x4]) (S := []) (a := a9) (v := some (.int w11)) dX12_compare_27 mt_X12_sign in_X12_sign se_X12_sign lk_X12_113 (c_X12_sign ew11) eta9 (by decide) rfl rfl (by decide) (Nat.le_of_ble_eq_true rfl) (by cases eoa9; rfl) ?_
      refine jw_aload_n dX12_compare_30 (o := (some x0)) rfl ?_
      refine jw_iload_n dX12_compare_31 rfl ?_
      refine jw_iload dX12_compare_32 rfl ?_
      obtain ⟨a12, ea12, hq⟩ := Option.bind_eq_some_iff.mp hq
      obtain ⟨eoa12, eta12⟩ := jw_rc_spec ea12
      obtain ⟨w14, h13, ew14, hq⟩ := jw_b2_spec hq
      refine jw_callV (As := [.int x2, .int x4]) (S := [.int w11]) (a := a12) (v := some (.int w14)) dX12_compare_34 mt_X12_sign in_X12_sign se_X12_sign lk_X12_113 (c_X12_sign ew14) eta12 (by decide) rfl rfl (by decide) (Nat.le_of_ble_eq_true rfl) (by cases eoa12; rfl) ?_
      rcases jw_if hq with ⟨c15, hq⟩ | ⟨c15, hq⟩
      · refine jw_icmp_ne_f (tgt := 46) dX12_compare_37 (by decide) c15 ?_
        refine jw_iinc (L' := [some (.ref x0), some (.int x1), some (.int x2), none, some (.int (x4 + (1 : Int32))), none, none]) dX12_compare_40 rfl (v := (1 : Int32)) (by decide) (Nat.le_of_ble_eq_true rfl) rfl ?_
        refine jw_goto (tgt := 3) dX12_compare_43 (by decide) ?_
        exact hk3 _ _ _ _ _ _ _ hq
      · refine jw_icmp_ne_t (tgt := 46) dX12_compare_37 (by decide) c15 ?_
        exact l_X12_compare_b46  hq

theorem l_X12_compare_b3 {hi : jw_H} : ∀ (n : Nat) (h : jw_H) (x0 : Nat) (x1 : Int32) (x2 : Int32) (x4 : Int32) (r : Int32) (h' : jw_H), f_X12_compare_b3  n h x0 x1 x2 x4 = some (r, h') → jw_E 1 uX12_compare hi 3 [some (.ref x0), some (.int x1), some (.int x2), none, some (.int x4), none, none] [] h (.inl (some (.int r))) h' := by
  intro n
  induction n with
  | zero => intro h x0 x1 x2 x4 r h' hq; exact nomatch hq
  | succ n ih => intro h x0 x1 x2 x4 r h' hq; exact l_X12_compare_b3g ih hq

set_option maxRecDepth 100000 in
set_option maxHeartbeats 4000000 in
theorem l_X12_compare {hi : jw_H} {h : jw_H} {x0 : Nat} {x1 : Int32} {x2 : Int32} {x3 : Int32} {r : Int32} {h' : jw_H} (hq : f_X12_compare  h x0 x1 x2 x3 = some (r, h')) : jw_E 1 uX12_compare hi 0 [some (.ref x0), some (.int x1), some (.int x2), some (.int x3), none, none, none] [] h (.inl (some (.int r))) h' := by
  unfold f_X12_compare at hq
  refine jw_iload_n dX12_compare_0 rfl ?_
  refine jw_istore (L' := [some (.ref x0), some (.int x1), some (.int x2), some (.int x3), some (.int x3), none, none]) dX12_compare_1 (Nat.le_of_ble_eq_true rfl) rfl ?_
  refine jw_forget [true, true, true, false, true, true, true] (L' := [some (.ref x0), some (.int x1), some (.int x2), none, some (.int x3), none, none]) rfl ?_
  exact l_X12_compare_b3  jw_FU _ _ _ _ _ _ _ hq

theorem c_X12_compare {h : jw_H} {x0 : Nat} {x1 : Int32} {x2 : Int32} {x3 : Int32} {r : Int32} {h' : jw_H} (hq : f_X12_compare h x0 x1 x2 x3 = some (r, h')) : jw_Con (Cond.code yX12_compare cX12_compare 7 (some .int)) yX12_compare 1 [.ref x0, .int x1, .int x2, .int x3] h (.inl (some (.int r))) h' :=
  jw_con false (plainFor_of_name (by decide +kernel)) (fun z => nomatch z) (by simp [jw_ent, jw_sl0_nil, jw_sl0_int, jw_sl0_long, jw_sl0_ref, jw_sl0_rf, jw_sl0_scr, List.replicate]) (by simp [jw_sl0_nil, jw_sl0_int, jw_sl0_long, jw_sl0_ref, jw_sl0_rf, jw_sl0_scr]) (l_X12_compare hq)


/-! X12_sort -/
noncomputable def g_X12_sort_b91 (k39 : jw_H → Nat → Int32 → Int32 → Int32 → Int32 → Int32 → Option (Int32 × jw_H)) (h : jw_H) (x0 : Nat) (x1 : Int32) (x2 : Int32) (x3 : Int32) (x4 : Int32) (x5 : Int32) : Option (Int32 × jw_H) :=
 jw_b2 (f_X12_textRow h (x5 - (1 : Int32))) fun w2 h1 =>
 jw_b2 (f_X12_textRow h1 x5) fun w4 h3 =>
 (jw_rc h3 12 (some x0)).bind fun a5 =>
 jw_b2 (f_X12_copyRow h3 a5 w2 w4) fun w7 h6 =>
 (jw_gR h6 12 (some x0) 7).bind fun v8 =>
 (jw_gR h6 12 (some x0) 7).bind fun v9 =>
 (jw_ai h6 20 v9 (x5 - (2 : Int32))).bind fun v10 =>
 (jw_si h6 20 v8 (x5 - (1 : Int32)) v10).bind fun h11 =>
 k39 h11 x0 x1 x2 x3 x4 (x5 + (-1 : Int32))

noncomputable def g_X12_sort_b131 (k7 : jw_H → Nat → Int32 → Int32 → Int32 → Option (Int32 × jw_H)) (h : jw_H) (x0 : Nat) (x1 : Int32) (x2 : Int32) (x3 : Int32) (x4 : Int32) (x5 : Int32) : Option (Int32 × jw_H) :=
 jw_b2 (f_X12_textRow h x5) fun w2 h1 =>
 (jw_rc h1 12 (some x0)).bind fun a3 =>
 jw_b2 (f_X12_copyRow h1 a3 (429 : Int32) w2) fun w5 h4 =>
 (jw_gR h4 12 (some x0) 7).bind fun v6 =>
 (jw_si h4 20 v6 (x5 - (1 : Int32)) x4).bind fun h7 =>
 k7 h7 x0 x1 x2 (x3 + (1 : Int32))

noncomputable def g_X12_sort_b39 (k7 : jw_H → Nat → Int32 → Int32 → Int32 → Option (Int32 × jw_H)) (k39 : jw_H → Nat → Int32 → Int32 → Int32 → Int32 → Int32 → Option (Int32 × jw_H)) (h : jw_H) (x0 : Nat) (x1 : Int32) (x2 : Int32) (x3 : Int32) (x4 : Int32) (x5 : Int32) : Option (Int32 × jw_H) :=
 (jw_gI h 12 (some x0) 42).bind fun v1 =>
 if x5 ≤ v1 then (g_X12_sort_b131 k7 h x0 x1 x2 x3 x4 x5)
 else (if x2 = 0 then (jw_b2 (f_X12_textRow h (x5 - (1 : Int32))) fun w5 h4 =>
 (jw_rc h4 12 (some x0)).bind fun a6 =>
 jw_b2 (f_X12_compare h4 a6 w5 (429 : Int32) x1) fun w8 h7 =>
 if 0 ≤ w8 then (g_X12_sort_b131 k7 h7 x0 x1 x2 x3 x4 x5)
 else (g_X12_sort_b91 k39 h7 x0 x1 x2 x3 x4 x5))
 else (jw_b2 (f_X12_textRow h (x5 - (1 : Int32))) fun w11 h10 =>
 (jw_rc h10 12 (some x0)).bind fun a12 =>
 jw_b2 (f_X12_compare h10 a12 w11 (429 : Int32) x1) fun w14 h13 =>
 if w14 ≤ 0 then (g_X12_sort_b131 k7 h13 x0 x1 x2 x3 x4 x5)
 else (g_X12_sort_b91 k39 h13 x0 x1 x2 x3 x4 x5)))

noncomputable def f_X12_sort_b39 (k7 : jw_H → Nat → Int32 → Int32 → Int32 → Option (Int32 × jw_H)) (n : Nat) : jw_H → Nat → Int32 → Int32 → Int32 → Int32 → Int32 → Option (Int32 × jw_H) :=
 Nat.rec (fun _ _ _ _ _ _ _ => none) (fun _ k39 => g_X12_sort_b39 k7 k39) n

noncomputable def g_X12_sort_b7 (k7 : jw_H → Nat → Int32 → Int32 → Int32 → Option (Int32 × jw_H)) (h : jw_H) (x0 : Nat) (x1 : Int32) (x2 : Int32) (x3 : Int32) : Option (Int32 × jw_H) :=
 (jw_gI h 12 (some x0) 43).bind fun v1 =>
 if v1 < x3 then ((jw_gI h 12 (some x0) 43).bind fun v3 =>
 (jw_pI h 12 (some x0) 16 v3).bind fun h4 =>
 some ((0 : Int32), h4))
 else (jw_b2 (f_X12_textRow h x3) fun w6 h5 =>
 (jw_rc h5 12 (some x0)).bind fun a7 =>
 jw_b2 (f_X12_copyRow h5 a7 w6 (429 : Int32)) fun w9 h8 =>
 (jw_gR h8 12 (some x0) 7).bind fun v10 =>
 (jw_ai h8 20 v10 (x3 - (1 : Int32))).bind fun v11 =>
 f_X12_sort_b39 k7 jw_FU h8 x0 x1 x2 x3 v11 x3)

noncomputable def f_X12_sort_b7 (n : Nat) : jw_H → Nat → Int32 → Int32 → Int32 → Option (Int32 × jw_H) :=
 Nat.rec (fun _ _ _ _ _ => none) (fun _ k7 => g_X12_sort_b7 k7) n

noncomputable def f_X12_sort (h : jw_H) (x0 : Nat) (x1 : Int32) (x2 : Int32) : Option (Int32 × jw_H) :=
 (jw_gI h 12 (some x0) 42).bind fun v1 =>
 f_X12_sort_b7  jw_FU h x0 x1 x2 (v1 + (1 : Int32))

set_option maxRecDepth 100000 in
set_option maxHeartbeats 4000000 in
theorem l_X12_sort_b91 {hi : jw_H} {k39 : jw_H → Nat → Int32 → Int32 → Int32 → Int32 → Int32 → Option (Int32 × jw_H)} (hk39 : ∀ (h : jw_H) (x0 : Nat) (x1 : Int32) (x2 : Int32) (x3 : Int32) (x4 : Int32) (x5 : Int32) (r : Int32) (h' : jw_H), k39 h x0 x1 x2 x3 x4 x5 = some (r, h') → jw_E 2 uX12_sort hi 39 [some (.ref x0), some (.int x1), some (.int x2), some (.int x3), some (.int x4), some (.int x5)] [] h (.inl (some (.int r))) h') {h : jw_H} {x0 : Nat} {x1 : Int32} {x2 : Int32} {x3 : Int32} {x4 : Int32} {x5 : Int32} {r : Int32} {h' : jw_H} (hq : g_X12_sort_b91 k39 h x0 x1 x2 x3 x4 x5 = some (r, h')) : jw_E 2 uX12_sort hi 91 [some (.ref x0), some (.int x1), some (.int x2), some (.int x3), some (.int x4), some (.int x5)] [] h (.inl (some (.int r))) h' := by
  unfold g_X12_sort_b91 at hq
  refine jw_aload_n dX12_sort_91 (o := (some x0)) rfl ?_
  refine jw_iload dX12_sort_92 rfl ?_
  refine jw_iconst dX12_sort_94 (v := (1 : Int32)) (by decide) ?_
  refine jw_isub dX12_sort_95 ?_
  obtain ⟨w2, h1, ew2, hq⟩ := jw_b2_spec hq
  refine jw_callS (As := [.int (x5 - (1 : Int32))]) (S := [.ref x0]) (v := some (.int w2)) dX12_sort_96 mt_X12_textRow st_X12_textRow lk_X12_298 (c_X12_textRow ew2) rfl (by decide) (Nat.le_of_ble_eq_true rfl) rfl ?_
  refine jw_iload dX12_sort_99 rfl ?_
  obtain ⟨w4, h3, ew4, hq⟩ := jw_b2_spec hq
  refine jw_callS (As := [.int x5]) (S := [.int w2, .ref x0]) (v := some (.int w4)) dX12_sort_101 mt_X12_textRow st_X12_textRow lk_X12_298 (c_X12_textRow ew4) rfl (by decide) (Nat.le_of_ble_eq_true rfl) rfl ?_
  obtain ⟨a5, ea5, hq⟩ := Option.bind_eq_some_iff.mp hq
  obtain ⟨eoa5, eta5⟩ := jw_rc_spec ea5
  obtain ⟨w7, h6, ew7, hq⟩ := jw_b2_spec hq
  refine jw_callV (As := [.int w2, .int w4]) (S := []) (a := a5) (v := none) dX12_sort_104 mt_X12_copyRow in_X12_copyRow se_X12_copyRow lk_X12_127 (c_X12_copyRow ew7) eta5 (by decide) rfl rfl (by decide) (Nat.le_of_ble_eq_true rfl) (by cases eoa5; rfl) ?_
  refine jw_aload_n dX12_sort_107 (o := (some x0)) rfl ?_
  obtain ⟨v8, ev8, hq⟩ := Option.bind_eq_some_iff.mp hq
  refine jw_getR (o := (some x0)) dX12_sort_108 ev8 fl_X12_26 rfl ?_
  refine jw_iload dX12_sort_111 rfl ?_
  refine jw_iconst dX12_sort_113 (v := (1 : Int32)) (by decide) ?_
  refine jw_isub dX12_sort_114 ?_
  refine jw_aload_n dX12_sort_115 (o := (some x0)) rfl ?_
  obtain ⟨v9, ev9, hq⟩ := Option.bind_eq_some_iff.mp hq
  refine jw_getR (o := (some x0)) dX12_sort_116 ev9 fl_X12_26 rfl ?_
  refine jw_iload dX12_sort_119 rfl ?_
  refine jw_iconst dX12_sort_121 (v := (2 : Int32)) (by decide) ?_
  refine jw_isub dX12_sort_122 ?_
  obtain ⟨v10, ev10, hq⟩ := Option.bind_eq_some_iff.mp hq
  refine jw_iald (o := v9) dX12_sort_123 ev10 ?_
  obtain ⟨h11, eh11, hq⟩ := Option.bind_eq_some_iff.mp hq
  refine jw_iast (o := v8) dX12_sort_124 eh11 ?_
  refine jw_iinc (L' := [some (.ref x0), some (.int x1), some (.int x2), some (.int x3), some (.int x4), some (.int (x5 + (-1 : Int32)))]) dX12_sort_125 rfl (v := (-1 : Int32)) (by decide) (Nat.le_of_ble_eq_true rfl) rfl ?_
  refine jw_goto (tgt := 39) dX12_sort_128 (by decide) ?_
  exact hk39 _ _ _ _ _ _ _ _ _ hq

set_option maxRecDepth 100000 in
set_option maxHeartbeats 4000000 in
theorem l_X12_sort_b131 {hi : jw_H} {k7 : jw_H → Nat → Int32 → Int32 → Int32 → Option (Int32 × jw_H)} (hk7 : ∀ (h : jw_H) (x0 : Nat) (x1 : Int32) (x2 : Int32) (x3 : Int32) (r : Int32) (h' : jw_H), k7 h x0 x1 x2 x3 = some (r, h') → jw_E 2 uX12_sort hi 7 [some (.ref x0), some (.int x1), some (.int x2), some (.int x3), none, none] [] h (.inl (some (.int r))) h') {h : jw_H} {x0 : Nat} {x1 : Int32} {x2 : Int32} {x3 : Int32} {x4 : Int32} {x5 : Int32} {r : Int32} {h' : jw_H} (hq : g_X12_sort_b131 k7 h x0 x1 x2 x3 x4 x5 = some (r, h')) : jw_E 2 uX12_sort hi 131 [some (.ref x0), some (.int x1), some (.int x2), some (.int x3), some (.int x4), some (.int x5)] [] h (.inl (some (.int r))) h' := by
  unfold g_X12_sort_b131 at hq
  refine jw_aload_n dX12_sort_131 (o := (some x0)) rfl ?_
  refine jw_sipush dX12_sort_132 (v := (429 : Int32)) (by decide) ?_
  refine jw_iload dX12_sort_135 rfl ?_
  obtain ⟨w2, h1, ew2, hq⟩ := jw_b2_spec hq
  refine jw_callS (As := [.int x5]) (S := [.int (429 : Int32), .ref x0]) (v := some (.int w2)) dX12_sort_137 mt_X12_textRow st_X12_textRow lk_X12_298 (c_X12_textRow ew2) rfl (by decide) (Nat.le_of_ble_eq_true rfl) rfl ?_
  obtain ⟨a3, ea3, hq⟩ := Option.bind_eq_some_iff.mp hq
  obtain ⟨eoa3, eta3⟩ := jw_rc_spec ea3
  obtain ⟨w5, h4, ew5, hq⟩ := jw_b2_spec hq
  refine jw_callV (As := [.int (429 : Int32), .int w2]) (S := []) (a := a3) (v := none) dX12_sort_140 mt_X12_copyRow in_X12_copyRow se_X12_copyRow lk_X12_127 (c_X12_copyRow ew5) eta3 (by decide) rfl rfl (by decide) (Nat.le_of_ble_eq_true rfl) (by cases eoa3; rfl) ?_
  refine jw_aload_n dX12_sort_143 (o := (some x0)) rfl ?_
  obtain ⟨v6, ev6, hq⟩ := Option.bind_eq_some_iff.mp hq
  refine jw_getR (o := (some x0)) dX12_sort_144 ev6 fl_X12_26 rfl ?_
  refine jw_iload dX12_sort_147 rfl ?_
  refine jw_iconst dX12_sort_149 (v := (1 : Int32)) (by decide) ?_
  refine jw_isub dX12_sort_150 ?_
  refine jw_iload dX12_sort_151 rfl ?_
  obtain ⟨h7, eh7, hq⟩ := Option.bind_eq_some_iff.mp hq
  refine jw_iast (o := v6) dX12_sort_153 eh7 ?_
  refine jw_iinc (L' := [some (.ref x0), some (.int x1), some (.int x2), some (.int (x3 + (1 : Int32))), some (.int x4), some (.int x5)]) dX12_sort_154 rfl (v := (1 : Int32)) (by decide) (Nat.le_of_ble_eq_true rfl) rfl ?_
  refine jw_goto (tgt := 7) dX12_sort_157 (by decide) ?_
  refine jw_forget [true, true, true, true, false, false] (L' := [some (.ref x0), some (.int x1), some (.int x2), some (.int (x3 + (1 : Int32))), none, none]) rfl ?_
  exact hk7 _ _ _ _ _ _ _ hq

set_option maxRecDepth 100000 in
set_option maxHeartbeats 4000000 in
theorem l_X12_sort_b39g {hi : jw_H} {k7 : jw_H → Nat → Int32 → Int32 → Int32 → Option (Int32 × jw_H)} (hk7 : ∀ (h : jw_H) (x0 : Nat) (x1 : Int32) (x2 : Int32) (x3 : Int32) (r : Int32) (h' : jw_H), k7 h x0 x1 x2 x3 = some (r, h') → jw_E 2 uX12_sort hi 7 [some (.ref x0), some (.int x1), some (.int x2), some (.int x3), none, none] [] h (.inl (some (.int r))) h') {k39 : jw_H → Nat → Int32 → Int32 → Int32 → Int32 → Int32 → Option (Int32 × jw_H)} (hk39 : ∀ (h : jw_H) (x0 : Nat) (x1 : Int32) (x2 : Int32) (x3 : Int32) (x4 : Int32) (x5 : Int32) (r : Int32) (h' : jw_H), k39 h x0 x1 x2 x3 x4 x5 = some (r, h') → jw_E 2 uX12_sort hi 39 [some (.ref x0), some (.int x1), some (.int x2), some (.int x3), some (.int x4), some (.int x5)] [] h (.inl (some (.int r))) h') {h : jw_H} {x0 : Nat} {x1 : Int32} {x2 : Int32} {x3 : Int32} {x4 : Int32} {x5 : Int32} {r : Int32} {h' : jw_H} (hq : g_X12_sort_b39 k7 k39 h x0 x1 x2 x3 x4 x5 = some (r, h')) : jw_E 2 uX12_sort hi 39 [some (.ref x0), some (.int x1), some (.int x2), some (.int x3), some (.int x4), some (.int x5)] [] h (.inl (some (.int r))) h' := by
  unfold g_X12_sort_b39 at hq
  refine jw_iload dX12_sort_39 rfl ?_
  refine jw_aload_n dX12_sort_41 (o := (some x0)) rfl ?_
  obtain ⟨v1, ev1, hq⟩ := Option.bind_eq_some_iff.mp hq
  refine jw_getI (o := (some x0)) dX12_sort_42 ev1 fl_X12_317 rfl ?_
  rcases jw_if hq with ⟨c2, hq⟩ | ⟨c2, hq⟩
  · refine jw_icmp_le_t (tgt := 131) dX12_sort_45 (by decide) c2 ?_
    exact l_X12_sort_b131 hk7 hq
  · refine jw_icmp_le_f (tgt := 131) dX12_sort_45 (by decide) c2 ?_
    refine jw_iload_n dX12_sort_48 rfl ?_
    rcases jw_if hq with ⟨c3, hq⟩ | ⟨c3, hq⟩
    · refine jw_if_eq_t (tgt := 73) dX12_sort_49 (by decide) c3 ?_
      refine jw_aload_n dX12_sort_73 (o := (some x0)) rfl ?_
      refine jw_iload dX12_sort_74 rfl ?_
      refine jw_iconst dX12_sort_76 (v := (1 : Int32)) (by decide) ?_
      refine jw_isub dX12_sort_77 ?_
      obtain ⟨w5, h4, ew5, hq⟩ := jw_b2_spec hq
      refine jw_callS (As := [.int (x5 - (1 : Int32))]) (S := [.ref x0]) (v := some (.int w5)) dX12_sort_78 mt_X12_textRow st_X12_textRow lk_X12_298 (c_X12_textRow ew5) rfl (by decide) (Nat.le_of_ble_eq_true rfl) rfl ?_
      refine jw_sipush dX12_sort_81 (v := (429 : Int32)) (by decide) ?_
      refine jw_iload_n dX12_sort_84 rfl ?_
      obtain ⟨a6, ea6, hq⟩ := Option.bind_eq_some_iff.mp hq
      obtain ⟨eoa6, eta6⟩ := jw_rc_spec ea6
      obtain ⟨w8, h7, ew8, hq⟩ := jw_b2_spec hq
      refine jw_callV (As := [.int w5, .int (429 : Int32), .int x1]) (S := []) (a := a6) (v := some (.int w8)) dX12_sort_85 mt_X12_compare in_X12_compare se_X12_compare lk_X12_375 (c_X12_compare ew8) eta6 (by decide) rfl rfl (by decide) (Nat.le_of_ble_eq_true rfl) (by cases eoa6; rfl) ?_
      rcases jw_if hq with ⟨c9, hq⟩ | ⟨c9, hq⟩
      · refine jw_if_ge_t (tgt := 131) dX12_sort_88 (by decide) c9 ?_
        exact l_X12_sort_b131 hk7 hq
      · refine jw_if_ge_f (tgt := 131) dX12_sort_88 (by decide) c9 ?_
        exact l_X12_sort_b91 hk39 hq
    · refine jw_if_eq_f (tgt := 73) dX12_sort_49 (by decide) c3 ?_
      refine jw_aload_n dX12_sort_52 (o := (some x0)) rfl ?_
      refine jw_iload dX12_sort_53 rfl ?_
      refine jw_iconst dX12_sort_55 (v := (1 : Int32)) (by decide) ?_
      refine jw_isub dX12_sort_56 ?_
      obtain ⟨w11, h10, ew11, hq⟩ := jw_b2_spec hq
      refine jw_callS (As := [.int (x5 - (1 : Int32))]) (S := [.ref x0]) (v := some (.int w11)) dX12_sort_57 mt_X12_textRow st_X12_textRow lk_X12_298 (c_X12_textRow ew11) rfl (by decide) (Nat.le_of_ble_eq_true rfl) rfl ?_
      refine jw_sipush dX12_sort_60 (v := (429 : Int32)) (by decide) ?_
      refine jw_iload_n dX12_sort_63 rfl ?_
      obtain ⟨a12, ea12, hq⟩ := Option.bind_eq_some_iff.mp hq
      obtain ⟨eoa12, eta12⟩ := jw_rc_spec ea12
      obtain ⟨w14, h13, ew14, hq⟩ := jw_b2_spec hq
      refine jw_callV (As := [.int w11, .int (429 : Int32), .int x1]) (S := []) (a := a12) (v := some (.int w14)) dX12_sort_64 mt_X12_compare in_X12_compare se_X12_compare lk_X12_375 (c_X12_compare ew14) eta12 (by decide) rfl rfl (by decide) (Nat.le_of_ble_eq_true rfl) (by cases eoa12; rfl) ?_
      rcases jw_if hq with ⟨c15, hq⟩ | ⟨c15, hq⟩
      · refine jw_if_le_t (tgt := 131) dX12_sort_67 (by decide) c15 ?_
        exact l_X12_sort_b131 hk7 hq
      · refine jw_if_le_f (tgt := 131) dX12_sort_67 (by decide) c15 ?_
        refine jw_goto (tgt := 91) dX12_sort_70 (by decide) ?_
        exact l_X12_sort_b91 hk39 hq

theorem l_X12_sort_b39 {hi : jw_H} {k7 : jw_H → Nat → Int32 → Int32 → Int32 → Option (Int32 × jw_H)} (hk7 : ∀ (h : jw_H) (x0 : Nat) (x1 : Int32) (x2 : Int32) (x3 : Int32) (r : Int32) (h' : jw_H), k7 h x0 x1 x2 x3 = some (r, h') → jw_E 2 uX12_sort hi 7 [some (.ref x0), some (.int x1), some (.int x2), some (.int x3), none, none] [] h (.inl (some (.int r))) h') : ∀ (n : Nat) (h : jw_H) (x0 : Nat) (x1 : Int32) (x2 : Int32) (x3 : Int32) (x4 : Int32) (x5 : Int32) (r : Int32) (h' : jw_H), f_X12_sort_b39 k7 n h x0 x1 x2 x3 x4 x5 = some (r, h') → jw_E 2 uX12_sort hi 39 [some (.ref x0), some (.int x1), some (.int x2), some (.int x3), some (.int x4), some (.int x5)] [] h (.inl (some (.int r))) h' := by
  intro n
  induction n with
  | zero => intro h x0 x1 x2 x3 x4 x5 r h' hq; exact nomatch hq
  | succ n ih => intro h x0 x1 x2 x3 x4 x5 r h' hq; exact l_X12_sort_b39g hk7 ih hq

set_option maxRecDepth 100000 in
set_option maxHeartbeats 4000000 in
theorem l_X12_sort_b7g {hi : jw_H} {k7 : jw_H → Nat → Int32 → Int32 → Int32 → Option (Int32 × jw_H)} (hk7 : ∀ (h : jw_H) (x0 : Nat) (x1 : Int32) (x2 : Int32) (x3 : Int32) (r : Int32) (h' : jw_H), k7 h x0 x1 x2 x3 = some (r, h') → jw_E 2 uX12_sort hi 7 [some (.ref x0), some (.int x1), some (.int x2), some (.int x3), none, none] [] h (.inl (some (.int r))) h') {h : jw_H} {x0 : Nat} {x1 : Int32} {x2 : Int32} {x3 : Int32} {r : Int32} {h' : jw_H} (hq : g_X12_sort_b7 k7 h x0 x1 x2 x3 = some (r, h')) : jw_E 2 uX12_sort hi 7 [some (.ref x0), some (.int x1), some (.int x2), some (.int x3), none, none] [] h (.inl (some (.int r))) h' := by
  unfold g_X12_sort_b7 at hq
  refine jw_iload_n dX12_sort_7 rfl ?_
  refine jw_aload_n dX12_sort_8 (o := (some x0)) rfl ?_
  obtain ⟨v1, ev1, hq⟩ := Option.bind_eq_some_iff.mp hq
  refine jw_getI (o := (some x0)) dX12_sort_9 ev1 fl_X12_320 rfl ?_
  rcases jw_if hq with ⟨c2, hq⟩ | ⟨c2, hq⟩
  · refine jw_icmp_gt_t (tgt := 160) dX12_sort_12 (by decide) c2 ?_
    refine jw_aload_n dX12_sort_160 (o := (some x0)) rfl ?_
    refine jw_aload_n dX12_sort_161 (o := (some x0)) rfl ?_
    obtain ⟨v3, ev3, hq⟩ := Option.bind_eq_some_iff.mp hq
    refine jw_getI (o := (some x0)) dX12_sort_162 ev3 fl_X12_320 rfl ?_
    obtain ⟨h4, eh4, hq⟩ := Option.bind_eq_some_iff.mp hq
    refine jw_putI (o := (some x0)) dX12_sort_165 eh4 fl_X12_295 rfl rfl ?_
    refine jw_iconst dX12_sort_168 (v := (0 : Int32)) (by decide) ?_
    cases hq
    exact jw_iret (ty := .int) dX12_sort_169 rfl rfl
  · refine jw_icmp_gt_f (tgt := 160) dX12_sort_12 (by decide) c2 ?_
    refine jw_aload_n dX12_sort_15 (o := (some x0)) rfl ?_
    refine jw_iload_n dX12_sort_16 rfl ?_
    obtain ⟨w6, h5, ew6, hq⟩ := jw_b2_spec hq
    refine jw_callS (As := [.int x3]) (S := [.ref x0]) (v := some (.int w6)) dX12_sort_17 mt_X12_textRow st_X12_textRow lk_X12_298 (c_X12_textRow ew6) rfl (by decide) (Nat.le_of_ble_eq_true rfl) rfl ?_
    refine jw_sipush dX12_sort_20 (v := (429 : Int32)) (by decide) ?_
    obtain ⟨a7, ea7, hq⟩ := Option.bind_eq_some_iff.mp hq
    obtain ⟨eoa7, eta7⟩ := jw_rc_spec ea7
    obtain ⟨w9, h8, ew9, hq⟩ := jw_b2_spec hq
    refine jw_callV (As := [.int w6, .int (429 : Int32)]) (S := []) (a := a7) (v := none) dX12_sort_23 mt_X12_copyRow in_X12_copyRow se_X12_copyRow lk_X12_127 (c_X12_copyRow ew9) eta7 (by decide) rfl rfl (by decide) (Nat.le_of_ble_eq_true rfl) (by cases eoa7; rfl) ?_
    refine jw_aload_n dX12_sort_26 (o := (some x0)) rfl ?_
    obtain ⟨v10, ev10, hq⟩ := Option.bind_eq_some_iff.mp hq
    refine jw_getR (o := (some x0)) dX12_sort_27 ev10 fl_X12_26 rfl ?_
    refine jw_iload_n dX12_sort_30 rfl ?_
    refine jw_iconst dX12_sort_31 (v := (1 : Int32)) (by decide) ?_
    refine jw_isub dX12_sort_32 ?_
    obtain ⟨v11, ev11, hq⟩ := Option.bind_eq_some_iff.mp hq
    refine jw_iald (o := v10) dX12_sort_33 ev11 ?_
    refine jw_istore (L' := [some (.ref x0), some (.int x1), some (.int x2), some (.int x3), some (.int v11), none]) dX12_sort_34 (Nat.le_of_ble_eq_true rfl) rfl ?_
    refine jw_iload_n dX12_sort_36 rfl ?_
    refine jw_istore (L' := [some (.ref x0), some (.int x1), some (.int x2), some (.int x3), some (.int v11), some (.int x3)]) dX12_sort_37 (Nat.le_of_ble_eq_true rfl) rfl ?_
    exact l_X12_sort_b39 hk7 jw_FU _ _ _ _ _ _ _ _ _ hq

theorem l_X12_sort_b7 {hi : jw_H} : ∀ (n : Nat) (h : jw_H) (x0 : Nat) (x1 : Int32) (x2 : Int32) (x3 : Int32) (r : Int32) (h' : jw_H), f_X12_sort_b7  n h x0 x1 x2 x3 = some (r, h') → jw_E 2 uX12_sort hi 7 [some (.ref x0), some (.int x1), some (.int x2), some (.int x3), none, none] [] h (.inl (some (.int r))) h' := by
  intro n
  induction n with
  | zero => intro h x0 x1 x2 x3 r h' hq; exact nomatch hq
  | succ n ih => intro h x0 x1 x2 x3 r h' hq; exact l_X12_sort_b7g ih hq

set_option maxRecDepth 100000 in
set_option maxHeartbeats 4000000 in
theorem l_X12_sort {hi : jw_H} {h : jw_H} {x0 : Nat} {x1 : Int32} {x2 : Int32} {r : Int32} {h' : jw_H} (hq : f_X12_sort  h x0 x1 x2 = some (r, h')) : jw_E 2 uX12_sort hi 0 [some (.ref x0), some (.int x1), some (.int x2), none, none, none] [] h (.inl (some (.int r))) h' := by
  unfold f_X12_sort at hq
  refine jw_aload_n dX12_sort_0 (o := (some x0)) rfl ?_
  obtain ⟨v1, ev1, hq⟩ := Option.bind_eq_some_iff.mp hq
  refine jw_getI (o := (some x0)) dX12_sort_1 ev1 fl_X12_317 rfl ?_
  refine jw_iconst dX12_sort_4 (v := (1 : Int32)) (by decide) ?_
  refine jw_iadd dX12_sort_5 ?_
  refine jw_istore_n (L' := [some (.ref x0), some (.int x1), some (.int x2), some (.int (v1 + (1 : Int32))), none, none]) dX12_sort_6 (Nat.le_of_ble_eq_true rfl) rfl ?_
  exact l_X12_sort_b7  jw_FU _ _ _ _ _ _ _ hq

theorem c_X12_sort {h : jw_H} {x0 : Nat} {x1 : Int32} {x2 : Int32} {r : Int32} {h' : jw_H} (hq : f_X12_sort h x0 x1 x2 = some (r, h')) : jw_Con (Cond.code yX12_sort cX12_sort 6 (some .int)) yX12_sort 2 [.ref x0, .int x1, .int x2] h (.inl (some (.int r))) h' :=
  jw_con false (plainFor_of_name (by decide +kernel)) (fun z => nomatch z) (by simp [jw_ent, jw_sl0_nil, jw_sl0_int, jw_sl0_long, jw_sl0_ref, jw_sl0_rf, jw_sl0_scr, List.replicate]) (by simp [jw_sl0_nil, jw_sl0_int, jw_sl0_long, jw_sl0_ref, jw_sl0_rf, jw_sl0_scr]) (l_X12_sort hq)


/-! X12_move -/
noncomputable def g_X12_move_b142 (k142 : jw_H → Nat → Int32 → Int32 → Int32 → Option (Int32 × jw_H)) (h : jw_H) (x0 : Nat) (x3 : Int32) (x4 : Int32) (x5 : Int32) : Option (Int32 × jw_H) :=
 if x3 ≤ x5 then ((jw_pI h 12 (some x0) 16 (x4 + x3)).bind fun h2 =>
 some ((0 : Int32), h2))
 else ((jw_rc h 12 (some x0)).bind fun a3 =>
 jw_b2 (f_X12_open h a3 (x4 + x5)) fun w5 h4 =>
 (jw_rc h4 12 (some x0)).bind fun a6 =>
 jw_b2 (f_X12_copyRow h4 a6 ((431 : Int32) + x5) (((0 : Int32) + x4) + x5)) fun w8 h7 =>
 (jw_gR h7 12 (some x0) 7).bind fun v9 =>
 (jw_gR h7 12 (some x0) 9).bind fun v10 =>
 (jw_ai h7 20 v10 x5).bind fun v11 =>
 (jw_si h7 20 v9 (x4 + x5) v11).bind fun h12 =>
 k142 h12 x0 x3 x4 (x5 + (1 : Int32)))

noncomputable def f_X12_move_b142 (n : Nat) : jw_H → Nat → Int32 → Int32 → Int32 → Option (Int32 × jw_H) :=
 Nat.rec (fun _ _ _ _ _ => none) (fun _ k142 => g_X12_move_b142 k142) n

noncomputable def g_X12_move_b137 (h : jw_H) (x0 : Nat) (x3 : Int32) (t0 : Int32) : Option (Int32 × jw_H) :=
 f_X12_move_b142  jw_FU h x0 x3 t0 (0 : Int32)

noncomputable def g_X12_move_b102 (k102 : jw_H → Nat → Int32 → Int32 → Int32 → Option (Int32 × jw_H)) (h : jw_H) (x0 : Nat) (x2 : Int32) (x3 : Int32) (x4 : Int32) : Option (Int32 × jw_H) :=
 if x3 ≤ x4 then ((jw_gI h 12 (some x0) 42).bind fun v2 =>
 if v2 ≤ x2 then (g_X12_move_b137  h x0 x3 (x2 - x3))
 else (g_X12_move_b137  h x0 x3 x2))
 else ((jw_gI h 12 (some x0) 42).bind fun v4 =>
 (jw_rc h 12 (some x0)).bind fun a5 =>
 jw_b2 (f_X12_close h a5 v4) fun w7 h6 =>
 k102 h6 x0 x2 x3 (x4 + (1 : Int32)))

noncomputable def f_X12_move_b102 (n : Nat) : jw_H → Nat → Int32 → Int32 → Int32 → Option (Int32 × jw_H) :=
 Nat.rec (fun _ _ _ _ _ => none) (fun _ k102 => g_X12_move_b102 k102) n

noncomputable def g_X12_move_b46 (k46 : jw_H → Nat → Int32 → Int32 → Int32 → Option (Int32 × jw_H)) (h : jw_H) (x0 : Nat) (x2 : Int32) (x3 : Int32) (x4 : Int32) : Option (Int32 × jw_H) :=
 if x3 ≤ x4 then (f_X12_move_b102  jw_FU h x0 x2 x3 (0 : Int32))
 else ((jw_gI h 12 (some x0) 42).bind fun v2 =>
 jw_b2 (f_X12_textRow h (v2 + x4)) fun w4 h3 =>
 (jw_rc h3 12 (some x0)).bind fun a5 =>
 jw_b2 (f_X12_copyRow h3 a5 w4 ((431 : Int32) + x4)) fun w7 h6 =>
 (jw_gR h6 12 (some x0) 9).bind fun v8 =>
 (jw_gR h6 12 (some x0) 7).bind fun v9 =>
 (jw_gI h6 12 (some x0) 42).bind fun v10 =>
 (jw_ai h6 20 v9 ((v10 + x4) - (1 : Int32))).bind fun v11 =>
 (jw_si h6 20 v8 x4 v11).bind fun h12 =>
 k46 h12 x0 x2 x3 (x4 + (1 : Int32)))

noncomputable def f_X12_move_b46 (n : Nat) : jw_H → Nat → Int32 → Int32 → Int32 → Option (Int32 × jw_H) :=
 Nat.rec (fun _ _ _ _ _ => none) (fun _ k46 => g_X12_move_b46 k46) n

noncomputable def g_X12_move_b43 (h : jw_H) (x0 : Nat) (x2 : Int32) (x3 : Int32) : Option (Int32 × jw_H) :=
 f_X12_move_b46  jw_FU h x0 x2 x3 (0 : Int32)

noncomputable def f_X12_move (h : jw_H) (x0 : Nat) (x1 : Int32) : Option (Int32 × jw_H) :=
 (jw_rc h 12 (some x0)).bind fun a1 =>
 jw_b2 (f_X12_line h a1 x1) fun w3 h2 =>
 if 0 ≤ w3 then ((jw_gI h2 12 (some x0) 43).bind fun v5 =>
 (jw_gI h2 12 (some x0) 42).bind fun v6 =>
 (jw_gI h2 12 (some x0) 42).bind fun v7 =>
 if w3 < v7 then (g_X12_move_b43  h2 x0 w3 ((v5 - v6) + (1 : Int32)))
 else ((jw_gI h2 12 (some x0) 43).bind fun v9 =>
 if v9 ≤ w3 then (g_X12_move_b43  h2 x0 w3 ((v5 - v6) + (1 : Int32)))
 else (some ((1 : Int32), h2))))
 else (some ((-w3), h2))

set_option maxRecDepth 100000 in
set_option maxHeartbeats 4000000 in
theorem l_X12_move_b142g {hi : jw_H} {k142 : jw_H → Nat → Int32 → Int32 → Int32 → Option (Int32 × jw_H)} (hk142 : ∀ (h : jw_H) (x0 : Nat) (x3 : Int32) (x4 : Int32) (x5 : Int32) (r : Int32) (h' : jw_H), k142 h x0 x3 x4 x5 = some (r, h') → jw_E 7 uX12_move hi 142 [some (.ref x0), none, none, some (.int x3), some (.int x4), some (.int x5)] [] h (.inl (some (.int r))) h') {h : jw_H} {x0 : Nat} {x3 : Int32} {x4 : Int32} {x5 : Int32} {r : Int32} {h' : jw_H} (hq : g_X12_move_b142 k142 h x0 x3 x4 x5 = some (r, h')) : jw_E 7 uX12_move hi 142 [some (.ref x0), none, none, some (.int x3), some (.int x4), some (.int x5)] [] h (.inl (some (.int r))) h' := by
  unfold g_X12_move_b142 at hq
  refine jw_iload dX12_move_142 rfl ?_
  refine jw_iload_n dX12_move_144 rfl ?_
  rcases jw_if hq with ⟨c1, hq⟩ | ⟨c1, hq⟩
  · refine jw_icmp_ge_t (tgt := 197) dX12_move_145 (by decide) c1 ?_
    refine jw_aload_n dX12_move_197 (o := (some x0)) rfl ?_
    refine jw_iload dX12_move_198 rfl ?_
    refine jw_iload_n dX12_move_200 rfl ?_
    refine jw_iadd dX12_move_201 ?_
    obtain ⟨h2, eh2, hq⟩ := Option.bind_eq_some_iff.mp hq
    refine jw_putI (o := (some x0)) dX12_move_202 eh2 fl_X12_295 rfl rfl ?_
    refine jw_iconst dX12_move_205 (v := (0 : Int32)) (by decide) ?_
    cases hq
    exact jw_iret (ty := .int) dX12_move_206 rfl rfl
  · refine jw_icmp_ge_f (tgt := 197) dX12_move_145 (by decide) c1 ?_
    refine jw_aload_n dX12_move_148 (o := (some x0)) rfl ?_
    refine jw_iload dX12_move_149 rfl ?_
    refine jw_iload dX12_move_151 rfl ?_
    refine jw_iadd dX12_move_153 ?_
    obtain ⟨a3, ea3, hq⟩ := Option.bind_eq_some_iff.mp hq
    obtain ⟨eoa3, eta3⟩ := jw_rc_spec ea3
    obtain ⟨w5, h4, ew5, hq⟩ := jw_b2_spec hq
    refine jw_callV (As := [.int (x4 + x5)]) (S := []) (a := a3) (v := none) dX12_move_154 mt_X12_open in_X12_open se_X12_open lk_X12_131 (c_X12_open ew5) eta3 (by decide) rfl rfl (by decide) (Nat.le_of_ble_eq_true rfl) (by cases eoa3; rfl) ?_
    refine jw_aload_n dX12_move_157 (o := (some x0)) rfl ?_
    refine jw_sipush dX12_move_158 (v := (431 : Int32)) (by decide) ?_
    refine jw_iload dX12_move_161 rfl ?_
    refine jw_iadd dX12_move_163 ?_
    refine jw_iconst dX12_move_164 (v := (0 : Int32)) (by decide) ?_
    refine jw_iload dX12_move_165 rfl ?_
    refine jw_iadd dX12_move_167 ?_
    refine jw_iload dX12_move_168 rfl ?_
    refine jw_iadd dX12_move_170 ?_
    obtain ⟨a6, ea6, hq⟩ := Option.bind_eq_some_iff.mp hq
    obtain ⟨eoa6, eta6⟩ := jw_rc_spec ea6
    obtain ⟨w8, h7, ew8, hq⟩ := jw_b2_spec hq
    refine jw_callV (As := [.int ((431 : Int32) + x5), .int (((0 : Int32) + x4) + x5)]) (S := []) (a := a6) (v := none) dX12_move_171 mt_X12_copyRow in_X12_copyRow se_X12_copyRow lk_X12_127 (c_X12_copyRow ew8) eta6 (by decide) rfl rfl (by decide) (Nat.le_of_ble_eq_true rfl) (by cases eoa6; rfl) ?_
    refine jw_aload_n dX12_move_174 (o := (some x0)) rfl ?_
    obtain ⟨v9, ev9, hq⟩ := Option.bind_eq_some_iff.mp hq
    refine jw_getR (o := (some x0)) dX12_move_175 ev9 fl_X12_26 rfl ?_
    refine jw_iload dX12_move_178 rfl ?_
    refine jw_iload dX12_move_180 rfl ?_
    refine jw_iadd dX12_move_182 ?_
    refine jw_aload_n dX12_move_183 (o := (some x0)) rfl ?_
    obtain ⟨v10, ev10, hq⟩ := Option.bind_eq_some_iff.mp hq
    refine jw_getR (o := (some x0)) dX12_move_184 ev10 fl_X12_32 rfl ?_
    refine jw_iload dX12_move_187 rfl ?_
    obtain ⟨v11, ev11, hq⟩ := Option.bind_eq_some_iff.mp hq
    refine jw_iald (o := v10) dX12_move_189 ev11 ?_
    obtain ⟨h12, eh12, hq⟩ := Option.bind_eq_some_iff.mp hq
    refine jw_iast (o := v9) dX12_move_190 eh12 ?_
    refine jw_iinc (L' := [some (.ref x0), none, none, some (.int x3), some (.int x4), some (.int (x5 + (1 : Int32)))]) dX12_move_191 rfl (v := (1 : Int32)) (by decide) (Nat.le_of_ble_eq_true rfl) rfl ?_
    refine jw_goto (tgt := 142) dX12_move_194 (by decide) ?_
    exact hk142 _ _ _ _ _ _ _ hq

theorem l_X12_move_b142 {hi : jw_H} : ∀ (n : Nat) (h : jw_H) (x0 : Nat) (x3 : Int32) (x4 : Int32) (x5 : Int32) (r : Int32) (h' : jw_H), f_X12_move_b142  n h x0 x3 x4 x5 = some (r, h') → jw_E 7 uX12_move hi 142 [some (.ref x0), none, none, some (.int x3), some (.int x4), some (.int x5)] [] h (.inl (some (.int r))) h' := by
  intro n
  induction n with
  | zero => intro h x0 x3 x4 x5 r h' hq; exact nomatch hq
  | succ n ih => intro h x0 x3 x4 x5 r h' hq; exact l_X12_move_b142g ih hq

set_option maxRecDepth 100000 in
set_option maxHeartbeats 4000000 in
theorem l_X12_move_b137 {hi : jw_H} {h : jw_H} {x0 : Nat} {x3 : Int32} {t0 : Int32} {r : Int32} {h' : jw_H} (hq : g_X12_move_b137  h x0 x3 t0 = some (r, h')) : jw_E 7 uX12_move hi 137 [some (.ref x0), none, none, some (.int x3), none, none] [.int t0] h (.inl (some (.int r))) h' := by
  unfold g_X12_move_b137 at hq
  refine jw_istore (L' := [some (.ref x0), none, none, some (.int x3), some (.int t0), none]) dX12_move_137 (Nat.le_of_ble_eq_true rfl) rfl ?_
  refine jw_iconst dX12_move_139 (v := (0 : Int32)) (by decide) ?_
  refine jw_istore (L' := [some (.ref x0), none, none, some (.int x3), some (.int t0), some (.int (0 : Int32))]) dX12_move_140 (Nat.le_of_ble_eq_true rfl) rfl ?_
  exact l_X12_move_b142  jw_FU _ _ _ _ _ _ _ hq

set_option maxRecDepth 100000 in
set_option maxHeartbeats 4000000 in
theorem l_X12_move_b102g {hi : jw_H} {k102 : jw_H → Nat → Int32 → Int32 → Int32 → Option (Int32 × jw_H)} (hk102 : ∀ (h : jw_H) (x0 : Nat) (x2 : Int32) (x3 : Int32) (x4 : Int32) (r : Int32) (h' : jw_H), k102 h x0 x2 x3 x4 = some (r, h') → jw_E 7 uX12_move hi 102 [some (.ref x0), none, some (.int x2), some (.int x3), some (.int x4), none] [] h (.inl (some (.int r))) h') {h : jw_H} {x0 : Nat} {x2 : Int32} {x3 : Int32} {x4 : Int32} {r : Int32} {h' : jw_H} (hq : g_X12_move_b102 k102 h x0 x2 x3 x4 = some (r, h')) : jw_E 7 uX12_move hi 102 [some (.ref x0), none, some (.int x2), some (.int x3), some (.int x4), none] [] h (.inl (some (.int r))) h' := by
  unfold g_X12_move_b102 at hq
  refine jw_iload dX12_move_102 rfl ?_
  refine jw_iload_n dX12_move_104 rfl ?_
  rcases jw_if hq with ⟨c1, hq⟩ | ⟨c1, hq⟩
  · refine jw_icmp_ge_t (tgt := 122) dX12_move_105 (by decide) c1 ?_
    refine jw_iload_n dX12_move_122 rfl ?_
    refine jw_aload_n dX12_move_123 (o := (some x0)) rfl ?_
    obtain ⟨v2, ev2, hq⟩ := Option.bind_eq_some_iff.mp hq
    refine jw_getI (o := (some x0)) dX12_move_124 ev2 fl_X12_317 rfl ?_
    rcases jw_if hq with ⟨c3, hq⟩ | ⟨c3, hq⟩
    · refine jw_icmp_ge_t (tgt := 134) dX12_move_127 (by decide) c3 ?_
      refine jw_iload_n dX12_move_134 rfl ?_
      refine jw_iload_n dX12_move_135 rfl ?_
      refine jw_isub dX12_move_136 ?_
      refine jw_forget [true, true, false, true, false, true] (L' := [some (.ref x0), none, none, some (.int x3), none, none]) rfl ?_
      exact l_X12_move_b137  hq
    · refine jw_icmp_ge_f (tgt := 134) dX12_move_127 (by decide) c3 ?_
      refine jw_iload_n dX12_move_130 rfl ?_
      refine jw_goto (tgt := 137) dX12_move_131 (by decide) ?_
      refine jw_forget [true, true, false, true, false, true] (L' := [some (.ref x0), none, none, some (.int x3), none, none]) rfl ?_
      exact l_X12_move_b137  hq
  · refine jw_icmp_ge_f (tgt := 122) dX12_move_105 (by decide) c1 ?_
    refine jw_aload_n dX12_move_108 (o := (some x0)) rfl ?_
    refine jw_aload_n dX12_move_109 (o := (some x0)) rfl ?_
    obtain ⟨v4, ev4, hq⟩ := Option.bind_eq_some_iff.mp hq
    refine jw_getI (o := (some x0)) dX12_move_110 ev4 fl_X12_317 rfl ?_
    obtain ⟨a5, ea5, hq⟩ := Option.bind_eq_some_iff.mp hq
    obtain ⟨eoa5, eta5⟩ := jw_rc_spec ea5
    obtain ⟨w7, h6, ew7, hq⟩ := jw_b2_spec hq
    refine jw_callV (As := [.int v4]) (S := []) (a := a5) (v := none) dX12_move_113 mt_X12_close in_X12_close se_X12_close lk_X12_140 (c_X12_close ew7) eta5 (by decide) rfl rfl (by decide) (Nat.le_of_ble_eq_true rfl) (by cases eoa5; rfl) ?_
    refine jw_iinc (L' := [some (.ref x0), none, some (.int x2), some (.int x3), some (.int (x4 + (1 : Int32))), none]) dX12_move_116 rfl (v := (1 : Int32)) (by decide) (Nat.le_of_ble_eq_true rfl) rfl ?_
    refine jw_goto (tgt := 102) dX12_move_119 (by decide) ?_
    exact hk102 _ _ _ _ _ _ _ hq

theorem l_X12_move_b102 {hi : jw_H} : ∀ (n : Nat) (h : jw_H) (x0 : Nat) (x2 : Int32) (x3 : Int32) (x4 : Int32) (r : Int32) (h' : jw_H), f_X12_move_b102  n h x0 x2 x3 x4 = some (r, h') → jw_E 7 uX12_move hi 102 [some (.ref x0), none, some (.int x2), some (.int x3), some (.int x4), none] [] h (.inl (some (.int r))) h' := by
  intro n
  induction n with
  | zero => intro h x0 x2 x3 x4 r h' hq; exact nomatch hq
  | succ n ih => intro h x0 x2 x3 x4 r h' hq; exact l_X12_move_b102g ih hq

set_option maxRecDepth 100000 in
set_option maxHeartbeats 4000000 in
theorem l_X12_move_b46g {hi : jw_H} {k46 : jw_H → Nat → Int32 → Int32 → Int32 → Option (Int32 × jw_H)} (hk46 : ∀ (h : jw_H) (x0 : Nat) (x2 : Int32) (x3 : Int32) (x4 : Int32) (r : Int32) (h' : jw_H), k46 h x0 x2 x3 x4 = some (r, h') → jw_E 7 uX12_move hi 46 [some (.ref x0), none, some (.int x2), some (.int x3), some (.int x4), none] [] h (.inl (some (.int r))) h') {h : jw_H} {x0 : Nat} {x2 : Int32} {x3 : Int32} {x4 : Int32} {r : Int32} {h' : jw_H} (hq : g_X12_move_b46 k46 h x0 x2 x3 x4 = some (r, h')) : jw_E 7 uX12_move hi 46 [some (.ref x0), none, some (.int x2), some (.int x3), some (.int x4), none] [] h (.inl (some (.int r))) h' := by
  unfold g_X12_move_b46 at hq
  refine jw_iload dX12_move_46 rfl ?_
  refine jw_iload_n dX12_move_48 rfl ?_
  rcases jw_if hq with ⟨c1, hq⟩ | ⟨c1, hq⟩
  · refine jw_icmp_ge_t (tgt := 99) dX12_move_49 (by decide) c1 ?_
    refine jw_iconst dX12_move_99 (v := (0 : Int32)) (by decide) ?_
    refine jw_istore (L' := [some (.ref x0), none, some (.int x2), some (.int x3), some (.int (0 : Int32)), none]) dX12_move_100 (Nat.le_of_ble_eq_true rfl) rfl ?_
    exact l_X12_move_b102  jw_FU _ _ _ _ _ _ _ hq
  · refine jw_icmp_ge_f (tgt := 99) dX12_move_49 (by decide) c1 ?_
    refine jw_aload_n dX12_move_52 (o := (some x0)) rfl ?_
    refine jw_aload_n dX12_move_53 (o := (some x0)) rfl ?_
    obtain ⟨v2, ev2, hq⟩ := Option.bind_eq_some_iff.mp hq
    refine jw_getI (o := (some x0)) dX12_move_54 ev2 fl_X12_317 rfl ?_
    refine jw_iload dX12_move_57 rfl ?_
    refine jw_iadd dX12_move_59 ?_
    obtain ⟨w4, h3, ew4, hq⟩ := jw_b2_spec hq
    refine jw_callS (As := [.int (v2 + x4)]) (S := [.ref x0]) (v := some (.int w4)) dX12_move_60 mt_X12_textRow st_X12_textRow lk_X12_298 (c_X12_textRow ew4) rfl (by decide) (Nat.le_of_ble_eq_true rfl) rfl ?_
    refine jw_sipush dX12_move_63 (v := (431 : Int32)) (by decide) ?_
    refine jw_iload dX12_move_66 rfl ?_
    refine jw_iadd dX12_move_68 ?_
    obtain ⟨a5, ea5, hq⟩ := Option.bind_eq_some_iff.mp hq
    obtain ⟨eoa5, eta5⟩ := jw_rc_spec ea5
    obtain ⟨w7, h6, ew7, hq⟩ := jw_b2_spec hq
    refine jw_callV (As := [.int w4, .int ((431 : Int32) + x4)]) (S := []) (a := a5) (v := none) dX12_move_69 mt_X12_copyRow in_X12_copyRow se_X12_copyRow lk_X12_127 (c_X12_copyRow ew7) eta5 (by decide) rfl rfl (by decide) (Nat.le_of_ble_eq_true rfl) (by cases eoa5; rfl) ?_
    refine jw_aload_n dX12_move_72 (o := (some x0)) rfl ?_
    obtain ⟨v8, ev8, hq⟩ := Option.bind_eq_some_iff.mp hq
    refine jw_getR (o := (some x0)) dX12_move_73 ev8 fl_X12_32 rfl ?_
    refine jw_iload dX12_move_76 rfl ?_
    refine jw_aload_n dX12_move_78 (o := (some x0)) rfl ?_
    obtain ⟨v9, ev9, hq⟩ := Option.bind_eq_some_iff.mp hq
    refine jw_getR (o := (some x0)) dX12_move_79 ev9 fl_X12_26 rfl ?_
    refine jw_aload_n dX12_move_82 (o := (some x0)) rfl ?_
    obtain ⟨v10, ev10, hq⟩ := Option.bind_eq_some_iff.mp hq
    refine jw_getI (o := (some x0)) dX12_move_83 ev10 fl_X12_317 rfl ?_
    refine jw_iload dX12_move_86 rfl ?_
    refine jw_iadd dX12_move_88 ?_
    refine jw_iconst dX12_move_89 (v := (1 : Int32)) (by decide) ?_
    refine jw_isub dX12_move_90 ?_
    obtain ⟨v11, ev11, hq⟩ := Option.bind_eq_some_iff.mp hq
    refine jw_iald (o := v9) dX12_move_91 ev11 ?_
    obtain ⟨h12, eh12, hq⟩ := Option.bind_eq_some_iff.mp hq
    refine jw_iast (o := v8) dX12_move_92 eh12 ?_
    refine jw_iinc (L' := [some (.ref x0), none, some (.int x2), some (.int x3), some (.int (x4 + (1 : Int32))), none]) dX12_move_93 rfl (v := (1 : Int32)) (by decide) (Nat.le_of_ble_eq_true rfl) rfl ?_
    refine jw_goto (tgt := 46) dX12_move_96 (by decide) ?_
    exact hk46 _ _ _ _ _ _ _ hq

theorem l_X12_move_b46 {hi : jw_H} : ∀ (n : Nat) (h : jw_H) (x0 : Nat) (x2 : Int32) (x3 : Int32) (x4 : Int32) (r : Int32) (h' : jw_H), f_X12_move_b46  n h x0 x2 x3 x4 = some (r, h') → jw_E 7 uX12_move hi 46 [some (.ref x0), none, some (.int x2), some (.int x3), some (.int x4), none] [] h (.inl (some (.int r))) h' := by
  intro n
  induction n with
  | zero => intro h x0 x2 x3 x4 r h' hq; exact nomatch hq
  | succ n ih => intro h x0 x2 x3 x4 r h' hq; exact l_X12_move_b46g ih hq

set_option maxRecDepth 100000 in
set_option maxHeartbeats 4000000 in
theorem l_X12_move_b43 {hi : jw_H} {h : jw_H} {x0 : Nat} {x2 : Int32} {x3 : Int32} {r : Int32} {h' : jw_H} (hq : g_X12_move_b43  h x0 x2 x3 = some (r, h')) : jw_E 7 uX12_move hi 43 [some (.ref x0), none, some (.int x2), some (.int x3), none, none] [] h (.inl (some (.int r))) h' := by
  unfold g_X12_move_b43 at hq
  refine jw_iconst dX12_move_43 (v := (0 : Int32)) (by decide) ?_
  refine jw_istore (L' := [some (.ref x0), none, some (.int x2), some (.int x3), some (.int (0 : Int32)), none]) dX12_move_44 (Nat.le_of_ble_eq_true rfl) rfl ?_
  exact l_X12_move_b46  jw_FU _ _ _ _ _ _ _ hq

set_option maxRecDepth 100000 in
set_option maxHeartbeats 4000000 in
theorem l_X12_move {hi : jw_H} {h : jw_H} {x0 : Nat} {x1 : Int32} {r : Int32} {h' : jw_H} (hq : f_X12_move  h x0 x1 = some (r, h')) : jw_E 7 uX12_move hi 0 [some (.ref x0), some (.int x1), none, none, none, none] [] h (.inl (some (.int r))) h' := by
  unfold f_X12_move at hq
  refine jw_aload_n dX12_move_0 (o := (some x0)) rfl ?_
  refine jw_iload_n dX12_move_1 rfl ?_
  obtain ⟨a1, ea1, hq⟩ := Option.bind_eq_some_iff.mp hq
  obtain ⟨eoa1, eta1⟩ := jw_rc_spec ea1
  obtain ⟨w3, h2, ew3, hq⟩ := jw_b2_spec hq
  refine jw_callV (As := [.int x1]) (S := []) (a := a1) (v := some (.int w3)) dX12_move_2 mt_X12_line in_X12_line se_X12_line lk_X12_323 (c_X12_line ew3) eta1 (by decide) rfl rfl (by decide) (Nat.le_of_ble_eq_true rfl) (by cases eoa1; rfl) ?_
  refine jw_istore_n (L' := [some (.ref x0), some (.int x1), some (.int w3), none, none, none]) dX12_move_5 (Nat.le_of_ble_eq_true rfl) rfl ?_
  refine jw_iload_n dX12_move_6 rfl ?_
  rcases jw_if hq with ⟨c4, hq⟩ | ⟨c4, hq⟩
  · refine jw_if_ge_t (tgt := 13) dX12_move_7 (by decide) c4 ?_
    refine jw_aload_n dX12_move_13 (o := (some x0)) rfl ?_
    obtain ⟨v5, ev5, hq⟩ := Option.bind_eq_some_iff.mp hq
    refine jw_getI (o := (some x0)) dX12_move_14 ev5 fl_X12_320 rfl ?_
    refine jw_aload_n dX12_move_17 (o := (some x0)) rfl ?_
    obtain ⟨v6, ev6, hq⟩ := Option.bind_eq_some_iff.mp hq
    refine jw_getI (o := (some x0)) dX12_move_18 ev6 fl_X12_317 rfl ?_
    refine jw_isub dX12_move_21 ?_
    refine jw_iconst dX12_move_22 (v := (1 : Int32)) (by decide) ?_
    refine jw_iadd dX12_move_23 ?_
    refine jw_istore_n (L' := [some (.ref x0), some (.int x1), some (.int w3), some (.int ((v5 - v6) + (1 : Int32))), none, none]) dX12_move_24 (Nat.le_of_ble_eq_true rfl) rfl ?_
    refine jw_iload_n dX12_move_25 rfl ?_
    refine jw_aload_n dX12_move_26 (o := (some x0)) rfl ?_
    obtain ⟨v7, ev7, hq⟩ := Option.bind_eq_some_iff.mp hq
    refine jw_getI (o := (some x0)) dX12_move_27 ev7 fl_X12_317 rfl ?_
    rcases jw_if hq with ⟨c8, hq⟩ | ⟨c8, hq⟩
    · refine jw_icmp_lt_t (tgt := 43) dX12_move_30 (by decide) c8 ?_
      refine jw_forget [true, false, true, true, true, true] (L' := [some (.ref x0), none, some (.int w3), some (.int ((v5 - v6) + (1 : Int32))), none, none]) rfl ?_
      exact l_X12_move_b43  hq
    · refine jw_icmp_lt_f (tgt := 43) dX12_move_30 (by decide) c8 ?_
      refine jw_iload_n dX12_move_33 rfl ?_
      refine jw_aload_n dX12_move_34 (o := (some x0)) rfl ?_
      obtain ⟨v9, ev9, hq⟩ := Option.bind_eq_some_iff.mp hq
      refine jw_getI (o := (some x0)) dX12_move_35 ev9 fl_X12_320 rfl ?_
      rcases jw_if hq with ⟨c10, hq⟩ | ⟨c10, hq⟩
      · refine jw_icmp_ge_t (tgt := 43) dX12_move_38 (by decide) c10 ?_
        refine jw_forget [true, false, true, true, true, true] (L' := [some (.ref x0), none, some (.int w3), some (.int ((v5 - v6) + (1 : Int32))), none, none]) rfl ?_
        exact l_X12_move_b43  hq
      · refine jw_icmp_ge_f (tgt := 43) dX12_move_38 (by decide) c10 ?_
        refine jw_iconst dX12_move_41 (v := (1 : Int32)) (by decide) ?_
        cases hq
        exact jw_iret (ty := .int) dX12_move_42 rfl rfl
  · refine jw_if_ge_f (tgt := 13) dX12_move_7 (by decide) c4 ?_
    refine jw_iload_n dX12_move_10 rfl ?_
    refine jw_ineg dX12_move_11 ?_
    cases hq
    exact jw_iret (ty := .int) dX12_move_12 rfl rfl

theorem c_X12_move {h : jw_H} {x0 : Nat} {x1 : Int32} {r : Int32} {h' : jw_H} (hq : f_X12_move h x0 x1 = some (r, h')) : jw_Con (Cond.code yX12_move cX12_move 6 (some .int)) yX12_move 7 [.ref x0, .int x1] h (.inl (some (.int r))) h' :=
  jw_con false (plainFor_of_name (by decide +kernel)) (fun z => nomatch z) (by simp [jw_ent, jw_sl0_nil, jw_sl0_int, jw_sl0_long, jw_sl0_ref, jw_sl0_rf, jw_sl0_scr, List.replicate]) (by simp [jw_sl0_nil, jw_sl0_int, jw_sl0_long, jw_sl0_ref, jw_sl0_rf, jw_sl0_scr]) (l_X12_move hq)


/-! X12_copyTo -/
noncomputable def g_X12_copyTo_b76 (k76 : jw_H → Nat → Int32 → Int32 → Int32 → Option (Int32 × jw_H)) (h : jw_H) (x0 : Nat) (x2 : Int32) (x3 : Int32) (x4 : Int32) : Option (Int32 × jw_H) :=
 if x3 ≤ x4 then ((jw_pI h 12 (some x0) 16 (x2 + x3)).bind fun h2 =>
 some ((0 : Int32), h2))
 else ((jw_rc h 12 (some x0)).bind fun a3 =>
 jw_b2 (f_X12_bring h a3 ((431 : Int32) + x4) (x2 + x4)) fun w5 h4 =>
 k76 h4 x0 x2 x3 (x4 + (1 : Int32)))

noncomputable def f_X12_copyTo_b76 (n : Nat) : jw_H → Nat → Int32 → Int32 → Int32 → Option (Int32 × jw_H) :=
 Nat.rec (fun _ _ _ _ _ => none) (fun _ k76 => g_X12_copyTo_b76 k76) n

noncomputable def g_X12_copyTo_b41 (k41 : jw_H → Nat → Int32 → Int32 → Int32 → Option (Int32 × jw_H)) (h : jw_H) (x0 : Nat) (x2 : Int32) (x3 : Int32) (x4 : Int32) : Option (Int32 × jw_H) :=
 if x3 ≤ x4 then (f_X12_copyTo_b76  jw_FU h x0 x2 x3 (0 : Int32))
 else ((jw_gI h 12 (some x0) 42).bind fun v2 =>
 jw_b2 (f_X12_textRow h (v2 + x4)) fun w4 h3 =>
 (jw_rc h3 12 (some x0)).bind fun a5 =>
 jw_b2 (f_X12_copyRow h3 a5 w4 ((431 : Int32) + x4)) fun w7 h6 =>
 k41 h6 x0 x2 x3 (x4 + (1 : Int32)))

noncomputable def f_X12_copyTo_b41 (n : Nat) : jw_H → Nat → Int32 → Int32 → Int32 → Option (Int32 × jw_H) :=
 Nat.rec (fun _ _ _ _ _ => none) (fun _ k41 => g_X12_copyTo_b41 k41) n

noncomputable def f_X12_copyTo (h : jw_H) (x0 : Nat) (x1 : Int32) : Option (Int32 × jw_H) :=
 (jw_rc h 12 (some x0)).bind fun a1 =>
 jw_b2 (f_X12_line h a1 x1) fun w3 h2 =>
 if 0 ≤ w3 then ((jw_gI h2 12 (some x0) 43).bind fun v5 =>
 (jw_gI h2 12 (some x0) 42).bind fun v6 =>
 (jw_gI h2 12 (some x0) 12).bind fun v7 =>
 if (v7 + ((v5 - v6) + (1 : Int32))) ≤ (40 : Int32) then (f_X12_copyTo_b41  jw_FU h2 x0 w3 ((v5 - v6) + (1 : Int32)) (0 : Int32))
 else (some ((4 : Int32), h2)))
 else (some ((-w3), h2))

set_option maxRecDepth 100000 in
set_option maxHeartbeats 4000000 in
theorem l_X12_copyTo_b76g {hi : jw_H} {k76 : jw_H → Nat → Int32 → Int32 → Int32 → Option (Int32 × jw_H)} (hk76 : ∀ (h : jw_H) (x0 : Nat) (x2 : Int32) (x3 : Int32) (x4 : Int32) (r : Int32) (h' : jw_H), k76 h x0 x2 x3 x4 = some (r, h') → jw_E 7 uX12_copyTo hi 76 [some (.ref x0), none, some (.int x2), some (.int x3), some (.int x4)] [] h (.inl (some (.int r))) h') {h : jw_H} {x0 : Nat} {x2 : Int32} {x3 : Int32} {x4 : Int32} {r : Int32} {h' : jw_H} (hq : g_X12_copyTo_b76 k76 h x0 x2 x3 x4 = some (r, h')) : jw_E 7 uX12_copyTo hi 76 [some (.ref x0), none, some (.int x2), some (.int x3), some (.int x4)] [] h (.inl (some (.int r))) h' := by
  unfold g_X12_copyTo_b76 at hq
  refine jw_iload dX12_copyTo_76 rfl ?_
  refine jw_iload_n dX12_copyTo_78 rfl ?_
  rcases jw_if hq with ⟨c1, hq⟩ | ⟨c1, hq⟩
  · refine jw_icmp_ge_t (tgt := 102) dX12_copyTo_79 (by decide) c1 ?_
    refine jw_aload_n dX12_copyTo_102 (o := (some x0)) rfl ?_
    refine jw_iload_n dX12_copyTo_103 rfl ?_
    refine jw_iload_n dX12_copyTo_104 rfl ?_
    refine jw_iadd dX12_copyTo_105 ?_
    obtain ⟨h2, eh2, hq⟩ := Option.bind_eq_some_iff.mp hq
    refine jw_putI (o := (some x0)) dX12_copyTo_106 eh2 fl_X12_295 rfl rfl ?_
    refine jw_iconst dX12_copyTo_109 (v := (0 : Int32)) (by decide) ?_
    cases hq
    exact jw_iret (ty := .int) dX12_copyTo_110 rfl rfl
  · refine jw_icmp_ge_f (tgt := 102) dX12_copyTo_79 (by decide) c1 ?_
    refine jw_aload_n dX12_copyTo_82 (o := (some x0)) rfl ?_
    refine jw_sipush dX12_copyTo_83 (v := (431 : Int32)) (by decide) ?_
    refine jw_iload dX12_copyTo_86 rfl ?_
    refine jw_iadd dX12_copyTo_88 ?_
    refine jw_iload_n dX12_copyTo_89 rfl ?_
    refine jw_iload dX12_copyTo_90 rfl ?_
    refine jw_iadd dX12_copyTo_92 ?_
    obtain ⟨a3, ea3, hq⟩ := Option.bind_eq_some_iff.mp hq
    obtain ⟨eoa3, eta3⟩ := jw_rc_spec ea3
    obtain ⟨w5, h4, ew5, hq⟩ := jw_b2_spec hq
    refine jw_callV (As := [.int ((431 : Int32) + x4), .int (x2 + x4)]) (S := []) (a := a3) (v := none) dX12_copyTo_93 mt_X12_bring in_X12_bring se_X12_bring lk_X12_332 (c_X12_bring ew5) eta3 (by decide) rfl rfl (by decide) (Nat.le_of_ble_eq_true rfl) (by cases eoa3; rfl) ?_
    refine jw_iinc (L' := [some (.ref x0), none, some (.int x2), some (.int x3), some (.int (x4 + (1 : Int32)))]) dX12_copyTo_96 rfl (v := (1 : Int32)) (by decide) (Nat.le_of_ble_eq_true rfl) rfl ?_
    refine jw_goto (tgt := 76) dX12_copyTo_99 (by decide) ?_
    exact hk76 _ _ _ _ _ _ _ hq

theorem l_X12_copyTo_b76 {hi : jw_H} : ∀ (n : Nat) (h : jw_H) (x0 : Nat) (x2 : Int32) (x3 : Int32) (x4 : Int32) (r : Int32) (h' : jw_H), f_X12_copyTo_b76  n h x0 x2 x3 x4 = some (r, h') → jw_E 7 uX12_copyTo hi 76 [some (.ref x0), none, some (.int x2), some (.int x3), some (.int x4)] [] h (.inl (some (.int r))) h' := by
  intro n
  induction n with
  | zero => intro h x0 x2 x3 x4 r h' hq; exact nomatch hq
  | succ n ih => intro h x0 x2 x3 x4 r h' hq; exact l_X12_copyTo_b76g ih hq

set_option maxRecDepth 100000 in
set_option maxHeartbeats 4000000 in
theorem l_X12_copyTo_b41g {hi : jw_H} {k41 : jw_H → Nat → Int32 → Int32 → Int32 → Option (Int32 × jw_H)} (hk41 : ∀ (h : jw_H) (x0 : Nat) (x2 : Int32) (x3 : Int32) (x4 : Int32) (r : Int32) (h' : jw_H), k41 h x0 x2 x3 x4 = some (r, h') → jw_E 7 uX12_copyTo hi 41 [some (.ref x0), none, some (.int x2), some (.int x3), some (.int x4)] [] h (.inl (some (.int r))) h') {h : jw_H} {x0 : Nat} {x2 : Int32} {x3 : Int32} {x4 : Int32} {r : Int32} {h' : jw_H} (hq : g_X12_copyTo_b41 k41 h x0 x2 x3 x4 = some (r, h')) : jw_E 7 uX12_copyTo hi 41 [some (.ref x0), none, some (.int x2), some (.int x3), some (.int x4)] [] h (.inl (some (.int r))) h' := by
  unfold g_X12_copyTo_b41 at hq
  refine jw_iload dX12_copyTo_41 rfl ?_
  refine jw_iload_n dX12_copyTo_43 rfl ?_
  rcases jw_if hq with ⟨c1, hq⟩ | ⟨c1, hq⟩
  · refine jw_icmp_ge_t (tgt := 73) dX12_copyTo_44 (by decide) c1 ?_
    refine jw_iconst dX12_copyTo_73 (v := (0 : Int32)) (by decide) ?_
    refine jw_istore (L' := [some (.ref x0), none, some (.int x2), some (.int x3), some (.int (0 : Int32))]) dX12_copyTo_74 (Nat.le_of_ble_eq_true rfl) rfl ?_
    exact l_X12_copyTo_b76  jw_FU _ _ _ _ _ _ _ hq
  · refine jw_icmp_ge_f (tgt := 73) dX12_copyTo_44 (by decide) c1 ?_
    refine jw_aload_n dX12_copyTo_47 (o := (some x0)) rfl ?_
    refine jw_aload_n dX12_copyTo_48 (o := (some x0)) rfl ?_
    obtain ⟨v2, ev2, hq⟩ := Option.bind_eq_some_iff.mp hq
    refine jw_getI (o := (some x0)) dX12_copyTo_49 ev2 fl_X12_317 rfl ?_
    refine jw_iload dX12_copyTo_52 rfl ?_
    refine jw_iadd dX12_copyTo_54 ?_
    obtain ⟨w4, h3, ew4, hq⟩ := jw_b2_spec hq
    refine jw_callS (As := [.int (v2 + x4)]) (S := [.ref x0]) (v := some (.int w4)) dX12_copyTo_55 mt_X12_textRow st_X12_textRow lk_X12_298 (c_X12_textRow ew4) rfl (by decide) (Nat.le_of_ble_eq_true rfl) rfl ?_
    refine jw_sipush dX12_copyTo_58 (v := (431 : Int32)) (by decide) ?_
    refine jw_iload dX12_copyTo_61 rfl ?_
    refine jw_iadd dX12_copyTo_63 ?_
    obtain ⟨a5, ea5, hq⟩ := Option.bind_eq_some_iff.mp hq
    obtain ⟨eoa5, eta5⟩ := jw_rc_spec ea5
    obtain ⟨w7, h6, ew7, hq⟩ := jw_b2_spec hq
    refine jw_callV (As := [.int w4, .int ((431 : Int32) + x4)]) (S := []) (a := a5) (v := none) dX12_copyTo_64 mt_X12_copyRow in_X12_copyRow se_X12_copyRow lk_X12_127 (c_X12_copyRow ew7) eta5 (by decide) rfl rfl (by decide) (Nat.le_of_ble_eq_true rfl) (by cases eoa5; rfl) ?_
    refine jw_iinc (L' := [some (.ref x0), none, some (.int x2), some (.int x3), some (.int (x4 + (1 : Int32)))]) dX12_copyTo_67 rfl (v := (1 : Int32)) (by decide) (Nat.le_of_ble_eq_true rfl) rfl ?_
    refine jw_goto (tgt := 41) dX12_copyTo_70 (by decide) ?_
    exact hk41 _ _ _ _ _ _ _ hq

theorem l_X12_copyTo_b41 {hi : jw_H} : ∀ (n : Nat) (h : jw_H) (x0 : Nat) (x2 : Int32) (x3 : Int32) (x4 : Int32) (r : Int32) (h' : jw_H), f_X12_copyTo_b41  n h x0 x2 x3 x4 = some (r, h') → jw_E 7 uX12_copyTo hi 41 [some (.ref x0), none, some (.int x2), some (.int x3), some (.int x4)] [] h (.inl (some (.int r))) h' := by
  intro n
  induction n with
  | zero => intro h x0 x2 x3 x4 r h' hq; exact nomatch hq
  | succ n ih => intro h x0 x2 x3 x4 r h' hq; exact l_X12_copyTo_b41g ih hq

set_option maxRecDepth 100000 in
set_option maxHeartbeats 4000000 in
theorem l_X12_copyTo {hi : jw_H} {h : jw_H} {x0 : Nat} {x1 : Int32} {r : Int32} {h' : jw_H} (hq : f_X12_copyTo  h x0 x1 = some (r, h')) : jw_E 7 uX12_copyTo hi 0 [some (.ref x0), some (.int x1), none, none, none] [] h (.inl (some (.int r))) h' := by
  unfold f_X12_copyTo at hq
  refine jw_aload_n dX12_copyTo_0 (o := (some x0)) rfl ?_
  refine jw_iload_n dX12_copyTo_1 rfl ?_
  obtain ⟨a1, ea1, hq⟩ := Option.bind_eq_some_iff.mp hq
  obtain ⟨eoa1, eta1⟩ := jw_rc_spec ea1
  obtain ⟨w3, h2, ew3, hq⟩ := jw_b2_spec hq
  refine jw_callV (As := [.int x1]) (S := []) (a := a1) (v := some (.int w3)) dX12_copyTo_2 mt_X12_line in_X12_line se_X12_line lk_X12_323 (c_X12_line ew3) eta1 (by decide) rfl rfl (by decide) (Nat.le_of_ble_eq_true rfl) (by cases eoa1; rfl) ?_
  refine jw_istore_n (L' := [some (.ref x0), some (.int x1), some (.int w3), none, none]) dX12_copyTo_5 (Nat.le_of_ble_eq_true rfl) rfl ?_
  refine jw_iload_n dX12_copyTo_6 rfl ?_
  rcases jw_if hq with ⟨c4, hq⟩ | ⟨c4, hq⟩
  · refine jw_if_ge_t (tgt := 13) dX12_copyTo_7 (by decide) c4 ?_
    refine jw_aload_n dX12_copyTo_13 (o := (some x0)) rfl ?_
    obtain ⟨v5, ev5, hq⟩ := Option.bind_eq_some_iff.mp hq
    refine jw_getI (o := (some x0)) dX12_copyTo_14 ev5 fl_X12_320 rfl ?_
    refine jw_aload_n dX12_copyTo_17 (o := (some x0)) rfl ?_
    obtain ⟨v6, ev6, hq⟩ := Option.bind_eq_some_iff.mp hq
    refine jw_getI (o := (some x0)) dX12_copyTo_18 ev6 fl_X12_317 rfl ?_
    refine jw_isub dX12_copyTo_21 ?_
    refine jw_iconst dX12_copyTo_22 (v := (1 : Int32)) (by decide) ?_
    refine jw_iadd dX12_copyTo_23 ?_
    refine jw_istore_n (L' := [some (.ref x0), some (.int x1), some (.int w3), some (.int ((v5 - v6) + (1 : Int32))), none]) dX12_copyTo_24 (Nat.le_of_ble_eq_true rfl) rfl ?_
    refine jw_aload_n dX12_copyTo_25 (o := (some x0)) rfl ?_
    obtain ⟨v7, ev7, hq⟩ := Option.bind_eq_some_iff.mp hq
    refine jw_getI (o := (some x0)) dX12_copyTo_26 ev7 fl_X12_124 rfl ?_
    refine jw_iload_n dX12_copyTo_29 rfl ?_
    refine jw_iadd dX12_copyTo_30 ?_
    refine jw_bipush dX12_copyTo_31 (v := (40 : Int32)) (by decide) ?_
    rcases jw_if hq with ⟨c8, hq⟩ | ⟨c8, hq⟩
    · refine jw_icmp_le_t (tgt := 38) dX12_copyTo_33 (by decide) c8 ?_
      refine jw_iconst dX12_copyTo_38 (v := (0 : Int32)) (by decide) ?_
      refine jw_istore (L' := [some (.ref x0), some (.int x1), some (.int w3), some (.int ((v5 - v6) + (1 : Int32))), some (.int (0 : Int32))]) dX12_copyTo_39 (Nat.le_of_ble_eq_true rfl) rfl ?_
      refine jw_forget [true, false, true, true, true] (L' := [some (.ref x0), none, some (.int w3), some (.int ((v5 - v6) + (1 : Int32))), some (.int (0 : Int32))]) rfl ?_
      exact l_X12_copyTo_b41  jw_FU _ _ _ _ _ _ _ hq
    · refine jw_icmp_le_f (tgt := 38) dX12_copyTo_33 (by decide) c8 ?_
      refine jw_iconst dX12_copyTo_36 (v := (4 : Int32)) (by decide) ?_
      cases hq
      exact jw_iret (ty := .int) dX12_copyTo_37 rfl rfl
  · refine jw_if_ge_f (tgt := 13) dX12_copyTo_7 (by decide) c4 ?_
    refine jw_iload_n dX12_copyTo_10 rfl ?_
    refine jw_ineg dX12_copyTo_11 ?_
    cases hq
    exact jw_iret (ty := .int) dX12_copyTo_12 rfl rfl

theorem c_X12_copyTo {h : jw_H} {x0 : Nat} {x1 : Int32} {r : Int32} {h' : jw_H} (hq : f_X12_copyTo h x0 x1 = some (r, h')) : jw_Con (Cond.code yX12_copyTo cX12_copyTo 5 (some .int)) yX12_copyTo 7 [.ref x0, .int x1] h (.inl (some (.int r))) h' :=
  jw_con false (plainFor_of_name (by decide +kernel)) (fun z => nomatch z) (by simp [jw_ent, jw_sl0_nil, jw_sl0_int, jw_sl0_long, jw_sl0_ref, jw_sl0_rf, jw_sl0_scr, List.replicate]) (by simp [jw_sl0_nil, jw_sl0_int, jw_sl0_long, jw_sl0_ref, jw_sl0_rf, jw_sl0_scr]) (l_X12_copyTo hq)


/-! X12_makesPut -/
noncomputable def g_X12_makesPut_b100 (k2 : jw_H → Nat → Int32 → Int32 → Option (Unit × jw_H)) (h : jw_H) (x0 : Nat) (x1 : Int32) (x3 : Int32) : Option (Unit × jw_H) :=
 k2 h x0 x1 (x3 + (1 : Int32))

noncomputable def g_X12_makesPut_b2 (k2 : jw_H → Nat → Int32 → Int32 → Option (Unit × jw_H)) (h : jw_H) (x0 : Nat) (x1 : Int32) (x3 : Int32) : Option (Unit × jw_H) :=
 (jw_gR h 12 (some x0) 21).bind fun v1 =>
 (jw_ai h 20 v1 x3).bind fun v2 =>
 if v2 = (47 : Int32) then (some ((), h))
 else ((jw_gR h 12 (some x0) 21).bind fun v4 =>
 (jw_ai h 20 v4 x3).bind fun v5 =>
 if v5 = (38 : Int32) then ((jw_gI h 12 (some x0) 40).bind fun v26 =>
 (jw_gI h 12 (some x0) 41).bind fun v27 =>
 (jw_rc h 12 (some x0)).bind fun a28 =>
 jw_b2 (f_X12_makesRow h a28 x1 v26 v27) fun w30 h29 =>
 g_X12_makesPut_b100 k2 h29 x0 x1 x3)
 else ((jw_gR h 12 (some x0) 21).bind fun v7 =>
 (jw_ai h 20 v7 x3).bind fun v8 =>
 if v8 = (92 : Int32) then ((jw_gR h 12 (some x0) 38).bind fun v15 =>
 (jw_gR h 12 (some x0) 21).bind fun v16 =>
 (jw_ai h 20 v16 (x3 + (1 : Int32))).bind fun v17 =>
 (jw_ai h 20 v15 (v17 - (48 : Int32))).bind fun v18 =>
 (jw_gR h 12 (some x0) 39).bind fun v19 =>
 (jw_gR h 12 (some x0) 21).bind fun v20 =>
 (jw_ai h 20 v20 (x3 + (1 : Int32))).bind fun v21 =>
 (jw_ai h 20 v19 (v21 - (48 : Int32))).bind fun v22 =>
 (jw_rc h 12 (some x0)).bind fun a23 =>
 jw_b2 (f_X12_makesRow h a23 x1 v18 v22) fun w25 h24 =>
 g_X12_makesPut_b100 k2 h24 x0 x1 (x3 + (1 : Int32)))
 else ((jw_gR h 12 (some x0) 21).bind fun v10 =>
 (jw_ai h 20 v10 x3).bind fun v11 =>
 (jw_rc h 12 (some x0)).bind fun a12 =>
 jw_b2 (f_X12_makes h a12 v11) fun w14 h13 =>
 g_X12_makesPut_b100 k2 h13 x0 x1 x3)))

noncomputable def f_X12_makesPut_b2 (n : Nat) : jw_H → Nat → Int32 → Int32 → Option (Unit × jw_H) :=
 Nat.rec (fun _ _ _ _ => none) (fun _ k2 => g_X12_makesPut_b2 k2) n

noncomputable def f_X12_makesPut (h : jw_H) (x0 : Nat) (x1 : Int32) (x2 : Int32) : Option (Unit × jw_H) :=
 f_X12_makesPut_b2  jw_FU h x0 x1 x2

set_option maxRecDepth 100000 in
set_option maxHeartbeats 4000000 in
theorem l_X12_makesPut_b100 {hi : jw_H} {k2 : jw_H → Nat → Int32 → Int32 → Option (Unit × jw_H)} (hk2 : ∀ (h : jw_H) (x0 : Nat) (x1 : Int32) (x3 : Int32) (r : Unit) (h' : jw_H), k2 h x0 x1 x3 = some (r, h') → jw_E 2 uX12_makesPut hi 2 [some (.ref x0), some (.int x1), none, some (.int x3)] [] h (.inl none) h') {h : jw_H} {x0 : Nat} {x1 : Int32} {x3 : Int32} {r : Unit} {h' : jw_H} (hq : g_X12_makesPut_b100 k2 h x0 x1 x3 = some (r, h')) : jw_E 2 uX12_makesPut hi 100 [some (.ref x0), some (.int x1), none, some (.int x3)] [] h (.inl none) h' := by
  unfold g_X12_makesPut_b100 at hq
  refine jw_iinc (L' := [some (.ref x0), some (.int x1), none, some (.int (x3 + (1 : Int32)))]) dX12_makesPut_100 rfl (v := (1 : Int32)) (by decide) (Nat.le_of_ble_eq_true rfl) rfl ?_
  refine jw_goto (tgt := 2) dX12_makesPut_103 (by decide) ?_
  exact hk2 _ _ _ _ _ _ hq

set_option maxRecDepth 100000 in
set_option maxHeartbeats 4000000 in
theorem l_X12_makesPut_b2g {hi : jw_H} {k2 : jw_H → Nat → Int32 → Int32 → Option (Unit × jw_H)} (hk2 : ∀ (h : jw_H) (x0 : Nat) (x1 : Int32) (x3 : Int32) (r : Unit) (h' : jw_H), k2 h x0 x1 x3 = some (r, h') → jw_E 2 uX12_makesPut hi 2 [some (.ref x0), some (.int x1), none, some (.int x3)] [] h (.inl none) h') {h : jw_H} {x0 : Nat} {x1 : Int32} {x3 : Int32} {r : Unit} {h' : jw_H} (hq : g_X12_makesPut_b2 k2 h x0 x1 x3 = some (r, h')) : jw_E 2 uX12_makesPut hi 2 [some (.ref x0), some (.int x1), none, some (.int x3)] [] h (.inl none) h' := by
  unfold g_X12_makesPut_b2 at hq
  refine jw_aload_n dX12_makesPut_2 (o := (some x0)) rfl ?_
  obtain ⟨v1, ev1, hq⟩ := Option.bind_eq_some_iff.mp hq
  refine jw_getR (o := (some x0)) dX12_makesPut_3 ev1 fl_X12_44 rfl ?_
  refine jw_iload_n dX12_makesPut_6 rfl ?_
  obtain ⟨v2, ev2, hq⟩ := Option.bind_eq_some_iff.mp hq
  refine jw_iald (o := v1) dX12_makesPut_7 ev2 ?_
  refine jw_bipush dX12_makesPut_8 (v := (47 : Int32)) (by decide) ?_
  rcases jw_if hq with ⟨c3, hq⟩ | ⟨c3, hq⟩
  · refine jw_icmp_eq_t (tgt := 106) dX12_makesPut_10 (by decide) c3 ?_
    cases hq
    exact jw_vret dX12_makesPut_106 rfl
  · refine jw_icmp_eq_f (tgt := 106) dX12_makesPut_10 (by decide) c3 ?_
    refine jw_aload_n dX12_makesPut_13 (o := (some x0)) rfl ?_
    obtain ⟨v4, ev4, hq⟩ := Option.bind_eq_some_iff.mp hq
    refine jw_getR (o := (some x0)) dX12_makesPut_14 ev4 fl_X12_44 rfl ?_
    refine jw_iload_n dX12_makesPut_17 rfl ?_
    obtain ⟨v5, ev5, hq⟩ := Option.bind_eq_some_iff.mp hq
    refine jw_iald (o := v4) dX12_makesPut_18 ev5 ?_
    refine jw_bipush dX12_makesPut_19 (v := (38 : Int32)) (by decide) ?_
    rcases jw_if hq with ⟨c6, hq⟩ | ⟨c6, hq⟩
    · refine jw_icmp_ne_f (tgt := 40) dX12_makesPut_21 (by decide) c6 ?_
      refine jw_aload_n dX12_makesPut_24 (o := (some x0)) rfl ?_
      refine jw_iload_n dX12_makesPut_25 rfl ?_
      refine jw_aload_n dX12_makesPut_26 (o := (some x0)) rfl ?_
      obtain ⟨v26, ev26, hq⟩ := Option.bind_eq_some_iff.mp hq
      refine jw_getI (o := (some x0)) dX12_makesPut_27 ev26 fl_X12_289 rfl ?_
      refine jw_aload_n dX12_makesPut_30 (o := (some x0)) rfl ?_
      obtain ⟨v27, ev27, hq⟩ := Option.bind_eq_some_iff.mp hq
      refine jw_getI (o := (some x0)) dX12_makesPut_31 ev27 fl_X12_279 rfl ?_
      obtain ⟨a28, ea28, hq⟩ := Option.bind_eq_some_iff.mp hq
      obtain ⟨eoa28, eta28⟩ := jw_rc_spec ea28
      obtain ⟨w30, h29, ew30, hq⟩ := jw_b2_spec hq
      refine jw_callV (As := [.int x1, .int v26, .int v27]) (S := []) (a := a28) (v := none) dX12_makesPut_34 mt_X12_makesRow in_X12_makesRow se_X12_makesRow lk_X12_348 (c_X12_makesRow ew30) eta28 (by decide) rfl rfl (by decide) (Nat.le_of_ble_eq_true rfl) (by cases eoa28; rfl) ?_
      refine jw_goto (tgt := 100) dX12_makesPut_37 (by decide) ?_
      exact l_X12_makesPut_b100 hk2 hq
    · refine jw_icmp_ne_t (tgt := 40) dX12_makesPut_21 (by decide) c6 ?_
      refine jw_aload_n dX12_makesPut_40 (o := (some x0)) rfl ?_
      obtain ⟨v7, ev7, hq⟩ := Option.bind_eq_some_iff.mp hq
      refine jw_getR (o := (some x0)) dX12_makesPut_41 ev7 fl_X12_44 rfl ?_
      refine jw_iload_n dX12_makesPut_44 rfl ?_
      obtain ⟨v8, ev8, hq⟩ := Option.bind_eq_some_iff.mp hq
      refine jw_iald (o := v7) dX12_makesPut_45 ev8 ?_
      refine jw_bipush dX12_makesPut_46 (v := (92 : Int32)) (by decide) ?_
      rcases jw_if hq with ⟨c9, hq⟩ | ⟨c9, hq⟩
      · refine jw_icmp_ne_f (tgt := 90) dX12_makesPut_48 (by decide) c9 ?_
        refine jw_iinc (L' := [some (.ref x0), some (.int x1), none, some (.int (x3 + (1 : Int32)))]) dX12_makesPut_51 rfl (v := (1 : Int32)) (by decide) (Nat.le_of_ble_eq_true rfl) rfl ?_
        refine jw_aload_n dX12_makesPut_54 (o := (some x0)) rfl ?_
        refine jw_iload_n dX12_makesPut_55 rfl ?_
        refine jw_aload_n dX12_makesPut_56 (o := (some x0)) rfl ?_
        obtain ⟨v15, ev15, hq⟩ := Option.bind_eq_some_iff.mp hq
        refine jw_getR (o := (some x0)) dX12_makesPut_57 ev15 fl_X12_53 rfl ?_
        refine jw_aload_n dX12_makesPut_60 (o := (some x0)) rfl ?_
        obtain ⟨v16, ev16, hq⟩ := Option.bind_eq_some_iff.mp hq
        refine jw_getR (o := (some x0)) dX12_makesPut_61 ev16 fl_X12_44 rfl ?_
        refine jw_iload_n dX12_makesPut_64 rfl ?_
        obtain ⟨v17, ev17, hq⟩ := Option.bind_eq_some_iff.mp hq
        refine jw_iald (o := v16) dX12_makesPut_65 ev17 ?_
        refine jw_bipush dX12_makesPut_66 (v := (48 : Int32)) (by decide) ?_
        refine jw_isub dX12_makesPut_68 ?_
        obtain ⟨v18, ev18, hq⟩ := Option.bind_eq_some_iff.mp hq
        refine jw_iald (o := v15) dX12_makesPut_69 ev18 ?_
        refine jw_aload_n dX12_makesPut_70 (o := (some x0)) rfl ?_
        obtain ⟨v19, ev19, hq⟩ := Option.bind_eq_some_iff.mp hq
        refine jw_getR (o := (some x0)) dX12_makesPut_71 ev19 fl_X12_56 rfl ?_
        refine jw_aload_n dX12_makesPut_74 (o := (some x0)) rfl ?_
        obtain ⟨v20, ev20, hq⟩ := Option.bind_eq_some_iff.mp hq
        refine jw_getR (o := (some x0)) dX12_makesPut_75 ev20 fl_X12_44 rfl ?_
        refine jw_iload_n dX12_makesPut_78 rfl ?_
        obtain ⟨v21, ev21, hq⟩ := Option.bind_eq_some_iff.mp hq
        refine jw_iald (o := v20) dX12_makesPut_79 ev21 ?_
        refine jw_bipush dX12_makesPut_80 (v := (48 : Int32)) (by decide) ?_
        refine jw_isub dX12_makesPut_82 ?_
        obtain ⟨v22, ev22, hq⟩ := Option.bind_eq_some_iff.mp hq
        refine jw_iald (o := v19) dX12_makesPut_83 ev22 ?_
        obtain ⟨a23, ea23, hq⟩ := Option.bind_eq_some_iff.mp hq
        obtain ⟨eoa23, eta23⟩ := jw_rc_spec ea23
        obtain ⟨w25, h24, ew25, hq⟩ := jw_b2_spec hq
        refine jw_callV (As := [.int x1, .int v18, .int v22]) (S := []) (a := a23) (v := none) dX12_makesPut_84 mt_X12_makesRow in_X12_makesRow se_X12_makesRow lk_X12_348 (c_X12_makesRow ew25) eta23 (by decide) rfl rfl (by decide) (Nat.le_of_ble_eq_true rfl) (by cases eoa23; rfl) ?_
        refine jw_goto (tgt := 100) dX12_makesPut_87 (by decide) ?_
        exact l_X12_makesPut_b100 hk2 hq
      · refine jw_icmp_ne_t (tgt := 90) dX12_makesPut_48 (by decide) c9 ?_
        refine jw_aload_n dX12_makesPut_90 (o := (some x0)) rfl ?_
        refine jw_aload_n dX12_makesPut_91 (o := (some x0)) rfl ?_
        obtain ⟨v10, ev10, hq⟩ := Option.bind_eq_some_iff.mp hq
        refine jw_getR (o := (some x0)) dX12_makesPut_92 ev10 fl_X12_44 rfl ?_
        refine jw_iload_n dX12_makesPut_95 rfl ?_
        obtain ⟨v11, ev11, hq⟩ := Option.bind_eq_some_iff.mp hq
        refine jw_iald (o := v10) dX12_makesPut_96 ev11 ?_
        obtain ⟨a12, ea12, hq⟩ := Option.bind_eq_some_iff.mp hq
        obtain ⟨eoa12, eta12⟩ := jw_rc_spec ea12
        obtain ⟨w14, h13, ew14, hq⟩ := jw_b2_spec hq
        refine jw_callV (As := [.int v11]) (S := []) (a := a12) (v := none) dX12_makesPut_97 mt_X12_makes in_X12_makes se_X12_makes lk_X12_120 (c_X12_makes ew14) eta12 (by decide) rfl rfl (by decide) (Nat.le_of_ble_eq_true rfl) (by cases eoa12; rfl) ?_
        exact l_X12_makesPut_b100 hk2 hq

theorem l_X12_makesPut_b2 {hi : jw_H} : ∀ (n : Nat) (h : jw_H) (x0 : Nat) (x1 : Int32) (x3 : Int32) (r : Unit) (h' : jw_H), f_X12_makesPut_b2  n h x0 x1 x3 = some (r, h') → jw_E 2 uX12_makesPut hi 2 [some (.ref x0), some (.int x1), none, some (.int x3)] [] h (.inl none) h' := by
  intro n
  induction n with
  | zero => intro h x0 x1 x3 r h' hq; exact nomatch hq
  | succ n ih => intro h x0 x1 x3 r h' hq; exact l_X12_makesPut_b2g ih hq

set_option maxRecDepth 100000 in
set_option maxHeartbeats 4000000 in
theorem l_X12_makesPut {hi : jw_H} {h : jw_H} {x0 : Nat} {x1 : Int32} {x2 : Int32} {r : Unit} {h' : jw_H} (hq : f_X12_makesPut  h x0 x1 x2 = some (r, h')) : jw_E 2 uX12_makesPut hi 0 [some (.ref x0), some (.int x1), some (.int x2), none] [] h (.inl none) h' := by
  unfold f_X12_makesPut at hq
  refine jw_iload_n dX12_makesPut_0 rfl ?_
  refine jw_istore_n (L' := [some (.ref x0), some (.int x1), some (.int x2), some (.int x2)]) dX12_makesPut_1 (Nat.le_of_ble_eq_true rfl) rfl ?_
  refine jw_forget [true, true, false, true] (L' := [some (.ref x0), some (.int x1), none, some (.int x2)]) rfl ?_
  exact l_X12_makesPut_b2  jw_FU _ _ _ _ _ _ hq

theorem c_X12_makesPut {h : jw_H} {x0 : Nat} {x1 : Int32} {x2 : Int32} {r : Unit} {h' : jw_H} (hq : f_X12_makesPut h x0 x1 x2 = some (r, h')) : jw_Con (Cond.code yX12_makesPut cX12_makesPut 4 none) yX12_makesPut 2 [.ref x0, .int x1, .int x2] h (.inl none) h' :=
  jw_con false (plainFor_of_name (by decide +kernel)) (fun z => nomatch z) (by simp [jw_ent, jw_sl0_nil, jw_sl0_int, jw_sl0_long, jw_sl0_ref, jw_sl0_rf, jw_sl0_scr, List.replicate]) (by simp [jw_sl0_nil, jw_sl0_int, jw_sl0_long, jw_sl0_ref, jw_sl0_rf, jw_sl0_scr]) (l_X12_makesPut hq)


/-! X12_replaces -/
noncomputable def g_X12_replaces_b193 (k135 : jw_H → Nat → Int32 → Int32 → Int32 → Int32 → Int32 → Int32 → Int32 → Int32 → Option (Int32 × jw_H)) (h : jw_H) (x0 : Nat) (x1 : Int32) (x3 : Int32) (x5 : Int32) (x6 : Int32) (x7 : Int32) (x8 : Int32) (x9 : Int32) : Option (Int32 × jw_H) :=
 (jw_rc h 12 (some x0)).bind fun a1 =>
 jw_b2 (f_X12_findsNext h a1 x1) fun w3 h2 =>
 k135 h2 x0 x1 x3 x5 x6 x7 x8 x9 w3

noncomputable def g_X12_replaces_b167 (k135 : jw_H → Nat → Int32 → Int32 → Int32 → Int32 → Int32 → Int32 → Int32 → Int32 → Option (Int32 × jw_H)) (h : jw_H) (x0 : Nat) (x1 : Int32) (x3 : Int32) (x5 : Int32) (x6 : Int32) (x7 : Int32) (x8 : Int32) : Option (Int32 × jw_H) :=
 (jw_gI h 12 (some x0) 40).bind fun v1 =>
 (jw_rc h 12 (some x0)).bind fun a2 =>
 jw_b2 (f_X12_makesRow h a2 x1 x8 v1) fun w4 h3 =>
 (jw_rc h3 12 (some x0)).bind fun a5 =>
 jw_b2 (f_X12_makesPut h3 a5 x1 x3) fun w7 h6 =>
 (jw_gI h6 12 (some x0) 41).bind fun v8 =>
 g_X12_replaces_b193 k135 h6 x0 x1 x3 x5 x6 x7 v8 (1 : Int32)

noncomputable def g_X12_replaces_b152 (k135 : jw_H → Nat → Int32 → Int32 → Int32 → Int32 → Int32 → Int32 → Int32 → Int32 → Option (Int32 × jw_H)) (h : jw_H) (x0 : Nat) (x1 : Int32) (x3 : Int32) (x5 : Int32) (x6 : Int32) (x7 : Int32) (x8 : Int32) (x9 : Int32) : Option (Int32 × jw_H) :=
 if x5 = 0 then (if (x7 + (1 : Int32)) = x6 then (g_X12_replaces_b167 k135 h x0 x1 x3 x5 x6 (x7 + (1 : Int32)) x8)
 else (g_X12_replaces_b193 k135 h x0 x1 x3 x5 x6 (x7 + (1 : Int32)) x8 x9))
 else (g_X12_replaces_b167 k135 h x0 x1 x3 x5 x6 (x7 + (1 : Int32)) x8)

noncomputable def g_X12_replaces_b203 (h : jw_H) (x0 : Nat) (x1 : Int32) (x8 : Int32) (x9 : Int32) : Option (Int32 × jw_H) :=
 if x9 = 0 then (some ((1 : Int32), h))
 else ((jw_rc h 12 (some x0)).bind fun a2 =>
 jw_b2 (f_X12_len h a2 x1) fun w4 h3 =>
 (jw_rc h3 12 (some x0)).bind fun a5 =>
 jw_b2 (f_X12_makesRow h3 a5 x1 x8 w4) fun w7 h6 =>
 (jw_pB h6 12 (some x0) 44 (1 : Int32)).bind fun h8 =>
 (jw_rc h8 12 (some x0)).bind fun a9 =>
 jw_b2 (f_X12_lays h8 a9 x1) fun w11 h10 =>
 (jw_rb w11).bind fun v12 =>
 some (w11, h10))

noncomputable def g_X12_replaces_b135 (k135 : jw_H → Nat → Int32 → Int32 → Int32 → Int32 → Int32 → Int32 → Int32 → Int32 → Option (Int32 × jw_H)) (h : jw_H) (x0 : Nat) (x1 : Int32) (x3 : Int32) (x5 : Int32) (x6 : Int32) (x7 : Int32) (x8 : Int32) (x9 : Int32) (x10 : Int32) : Option (Int32 × jw_H) :=
 if x10 = 0 then (g_X12_replaces_b203  h x0 x1 x8 x9)
 else (if x5 = 0 then (if x6 ≤ x7 then (g_X12_replaces_b203  h x0 x1 x8 x9)
 else (g_X12_replaces_b152 k135 h x0 x1 x3 x5 x6 x7 x8 x9))
 else (g_X12_replaces_b152 k135 h x0 x1 x3 x5 x6 x7 x8 x9))

noncomputable def f_X12_replaces_b135 (n : Nat) : jw_H → Nat → Int32 → Int32 → Int32 → Int32 → Int32 → Int32 → Int32 → Int32 → Option (Int32 × jw_H) :=
 Nat.rec (fun _ _ _ _ _ _ _ _ _ _ => none) (fun _ k135 => g_X12_replaces_b135 k135) n

noncomputable def g_X12_replaces_b111 (h : jw_H) (x0 : Nat) (x1 : Int32) (x3 : Int32) (x5 : Int32) (t0 : Int32) : Option (Int32 × jw_H) :=
 (jw_rc h 12 (some x0)).bind fun a1 =>
 jw_b2 (f_X12_finds h a1 x1 (0 : Int32)) fun w3 h2 =>
 (jw_pI h2 12 (some x0) 20 (0 : Int32)).bind fun h4 =>
 f_X12_replaces_b135  jw_FU h4 x0 x1 x3 x5 t0 (0 : Int32) (0 : Int32) (0 : Int32) w3

noncomputable def g_X12_replaces_b110 (h : jw_H) (x0 : Nat) (x1 : Int32) (x3 : Int32) (x5 : Int32) : Option (Int32 × jw_H) :=
 g_X12_replaces_b111  h x0 x1 x3 x5 (1 : Int32)

noncomputable def g_X12_replaces_b67 (h : jw_H) (x0 : Nat) (x1 : Int32) (x3 : Int32) (x4 : Int32) (t0 : Int32) : Option (Int32 × jw_H) :=
 (jw_gI h 12 (some x0) 22).bind fun v1 =>
 if v1 ≤ (x4 + (1 : Int32)) then (g_X12_replaces_b110  h x0 x1 x3 t0)
 else ((jw_gR h 12 (some x0) 21).bind fun v3 =>
 (jw_ai h 20 v3 (x4 + (1 : Int32))).bind fun v4 =>
 jw_b2 (f_X12_isDigit h v4) fun w6 h5 =>
 if w6 = 0 then (g_X12_replaces_b110  h5 x0 x1 x3 t0)
 else ((jw_gR h5 12 (some x0) 21).bind fun v8 =>
 (jw_ai h5 20 v8 (x4 + (1 : Int32))).bind fun v9 =>
 g_X12_replaces_b111  h5 x0 x1 x3 t0 (v9 - (48 : Int32))))

noncomputable def g_X12_replaces_b66 (h : jw_H) (x0 : Nat) (x1 : Int32) (x3 : Int32) (x4 : Int32) : Option (Int32 × jw_H) :=
 g_X12_replaces_b67  h x0 x1 x3 x4 (0 : Int32)

noncomputable def g_X12_replaces_b19 (k19 : jw_H → Nat → Int32 → Int32 → Int32 → Option (Int32 × jw_H)) (h : jw_H) (x0 : Nat) (x1 : Int32) (x3 : Int32) (x4 : Int32) : Option (Int32 × jw_H) :=
 (jw_gR h 12 (some x0) 21).bind fun v1 =>
 (jw_ai h 20 v1 x4).bind fun v2 =>
 if v2 = (47 : Int32) then ((jw_gI h 12 (some x0) 22).bind fun v4 =>
 if v4 ≤ (x4 + (1 : Int32)) then (g_X12_replaces_b66  h x0 x1 x3 x4)
 else ((jw_gR h 12 (some x0) 21).bind fun v6 =>
 (jw_ai h 20 v6 (x4 + (1 : Int32))).bind fun v7 =>
 if v7 = (103 : Int32) then (g_X12_replaces_b67  h x0 x1 x3 x4 (1 : Int32))
 else (g_X12_replaces_b66  h x0 x1 x3 x4)))
 else (k19 h x0 x1 x3 (x4 + (1 : Int32)))

noncomputable def f_X12_replaces_b19 (n : Nat) : jw_H → Nat → Int32 → Int32 → Int32 → Option (Int32 × jw_H) :=
 Nat.rec (fun _ _ _ _ _ => none) (fun _ k19 => g_X12_replaces_b19 k19) n

noncomputable def f_X12_replaces (h : jw_H) (x0 : Nat) (x1 : Int32) (x2 : Int32) : Option (Int32 × jw_H) :=
 (jw_rc h 12 (some x0)).bind fun a1 =>
 jw_b2 (f_X12_compile h a1 (x2 + (2 : Int32)) (47 : Int32)) fun w3 h2 =>
 (jw_gI h2 12 (some x0) 37).bind fun v4 =>
 f_X12_replaces_b19  jw_FU h2 x0 x1 (v4 + (1 : Int32)) (v4 + (1 : Int32))

set_option maxRecDepth 100000 in
set_option maxHeartbeats 4000000 in
theorem l_X12_replaces_b193 {hi : jw_H} {k135 : jw_H → Nat → Int32 → Int32 → Int32 → Int32 → Int32 → Int32 → Int32 → Int32 → Option (Int32 × jw_H)} (hk135 : ∀ (h : jw_H) (x0 : Nat) (x1 : Int32) (x3 : Int32) (x5 : Int32) (x6 : Int32) (x7 : Int32) (x8 : Int32) (x9 : Int32) (x10 : Int32) (r : Int32) (h' : jw_H), k135 h x0 x1 x3 x5 x6 x7 x8 x9 x10 = some (r, h') → jw_E 6 uX12_replaces hi 135 [some (.ref x0), some (.int x1), none, some (.int x3), none, some (.int x5), some (.int x6), some (.int x7), some (.int x8), some (.int x9), some (.int x10)] [] h (.inl (some (.int r))) h') {h : jw_H} {x0 : Nat} {x1 : Int32} {x3 : Int32} {x5 : Int32} {x6 : Int32} {x7 : Int32} {x8 : Int32} {x9 : Int32} {r : Int32} {h' : jw_H} (hq : g_X12_replaces_b193 k135 h x0 x1 x3 x5 x6 x7 x8 x9 = some (r, h')) : jw_E 6 uX12_replaces hi 193 [some (.ref x0), some (.int x1), none, some (.int x3), none, some (.int x5), some (.int x6), some (.int x7), some (.int x8), some (.int x9), none] [] h (.inl (some (.int r))) h' := by
  unfold g_X12_replaces_b193 at hq
  refine jw_aload_n dX12_replaces_193 (o := (some x0)) rfl ?_
  refine jw_iload_n dX12_replaces_194 rfl ?_
  obtain ⟨a1, ea1, hq⟩ := Option.bind_eq_some_iff.mp hq
  obtain ⟨eoa1, eta1⟩ := jw_rc_spec ea1
  obtain ⟨w3, h2, ew3, hq⟩ := jw_b2_spec hq
  refine jw_callV (As := [.int x1]) (S := []) (a := a1) (v := some (.int w3)) dX12_replaces_195 mt_X12_findsNext in_X12_findsNext se_X12_findsNext lk_X12_382 (c_X12_findsNext ew3) eta1 (by decide) rfl rfl (by decide) (Nat.le_of_ble_eq_true rfl) (by cases eoa1; rfl) ?_
  refine jw_istore (L' := [some (.ref x0), some (.int x1), none, some (.int x3), none, some (.int x5), some (.int x6), some (.int x7), some (.int x8), some (.int x9), some (.int w3)]) dX12_replaces_198 (Nat.le_of_ble_eq_true rfl) rfl ?_
  refine jw_goto (tgt := 135) dX12_replaces_200 (by decide) ?_
  exact hk135 _ _ _ _ _ _ _ _ _ _ _ _ hq

set_option maxRecDepth 100000 in
set_option maxHeartbeats 4000000 in
theorem l_X12_replaces_b167 {hi : jw_H} {k135 : jw_H → Nat → Int32 → Int32 → Int32 → Int32 → Int32 → Int32 → Int32 → Int32 → Option (Int32 × jw_H)} (hk135 : ∀ (h : jw_H) (x0 : Nat) (x1 : Int32) (x3 : Int32) (x5 : Int32) (x6 : Int32) (x7 : Int32) (x8 : Int32) (x9 : Int32) (x10 : Int32) (r : Int32) (h' : jw_H), k135 h x0 x1 x3 x5 x6 x7 x8 x9 x10 = some (r, h') → jw_E 6 uX12_replaces hi 135 [some (.ref x0), some (.int x1), none, some (.int x3), none, some (.int x5), some (.int x6), some (.int x7), some (.int x8), some (.int x9), some (.int x10)] [] h (.inl (some (.int r))) h') {h : jw_H} {x0 : Nat} {x1 : Int32} {x3 : Int32} {x5 : Int32} {x6 : Int32} {x7 : Int32} {x8 : Int32} {r : Int32} {h' : jw_H} (hq : g_X12_replaces_b167 k135 h x0 x1 x3 x5 x6 x7 x8 = some (r, h')) : jw_E 6 uX12_replaces hi 167 [some (.ref x0), some (.int x1), none, some (.int x3), none, some (.int x5), some (.int x6), some (.int x7), some (.int x8), none, none] [] h (.inl (some (.int r))) h' := by
  unfold g_X12_replaces_b167 at hq
  refine jw_aload_n dX12_replaces_167 (o := (some x0)) rfl ?_
  refine jw_iload_n dX12_replaces_168 rfl ?_
  refine jw_iload dX12_replaces_169 rfl ?_
  refine jw_aload_n dX12_replaces_171 (o := (some x0)) rfl ?_
  obtain ⟨v1, ev1, hq⟩ := Option.bind_eq_some_iff.mp hq
  refine jw_getI (o := (some x0)) dX12_replaces_172 ev1 fl_X12_289 rfl ?_
  obtain ⟨a2, ea2, hq⟩ := Option.bind_eq_some_iff.mp hq
  obtain ⟨eoa2, eta2⟩ := jw_rc_spec ea2
  obtain ⟨w4, h3, ew4, hq⟩ := jw_b2_spec hq
  refine jw_callV (As := [.int x1, .int x8, .int v1]) (S := []) (a := a2) (v := none) dX12_replaces_175 mt_X12_makesRow in_X12_makesRow se_X12_makesRow lk_X12_348 (c_X12_makesRow ew4) eta2 (by decide) rfl rfl (by decide) (Nat.le_of_ble_eq_true rfl) (by cases eoa2; rfl) ?_
  refine jw_aload_n dX12_replaces_178 (o := (some x0)) rfl ?_
  refine jw_iload_n dX12_replaces_179 rfl ?_
  refine jw_iload_n dX12_replaces_180 rfl ?_
  obtain ⟨a5, ea5, hq⟩ := Option.bind_eq_some_iff.mp hq
  obtain ⟨eoa5, eta5⟩ := jw_rc_spec ea5
  obtain ⟨w7, h6, ew7, hq⟩ := jw_b2_spec hq
  refine jw_callV (As := [.int x1, .int x3]) (S := []) (a := a5) (v := none) dX12_replaces_181 mt_X12_makesPut in_X12_makesPut se_X12_makesPut lk_X12_379 (c_X12_makesPut ew7) eta5 (by decide) rfl rfl (by decide) (Nat.le_of_ble_eq_true rfl) (by cases eoa5; rfl) ?_
  refine jw_aload_n dX12_replaces_184 (o := (some x0)) rfl ?_
  obtain ⟨v8, ev8, hq⟩ := Option.bind_eq_some_iff.mp hq
  refine jw_getI (o := (some x0)) dX12_replaces_185 ev8 fl_X12_279 rfl ?_
  refine jw_istore (L' := [some (.ref x0), some (.int x1), none, some (.int x3), none, some (.int x5), some (.int x6), some (.int x7), some (.int v8), none, none]) dX12_replaces_188 (Nat.le_of_ble_eq_true rfl) rfl ?_
  refine jw_iconst dX12_replaces_190 (v := (1 : Int32)) (by decide) ?_
  refine jw_istore (L' := [some (.ref x0), some (.int x1), none, some (.int x3), none, some (.int x5), some (.int x6), some (.int x7), some (.int v8), some (.int (1 : Int32)), none]) dX12_replaces_191 (Nat.le_of_ble_eq_true rfl) rfl ?_
  exact l_X12_replaces_b193 hk135 hq

set_option maxRecDepth 100000 in
set_option maxHeartbeats 4000000 in
theorem l_X12_replaces_b152 {hi : jw_H} {k135 : jw_H → Nat → Int32 → Int32 → Int32 → Int32 → Int32 → Int32 → Int32 → Int32 → Option (Int32 × jw_H)} (hk135 : ∀ (h : jw_H) (x0 : Nat) (x1 : Int32) (x3 : Int32) (x5 : Int32) (x6 : Int32) (x7 : Int32) (x8 : Int32) (x9 : Int32) (x10 : Int32) (r : Int32) (h' : jw_H), k135 h x0 x1 x3 x5 x6 x7 x8 x9 x10 = some (r, h') → jw_E 6 uX12_replaces hi 135 [some (.ref x0), some (.int x1), none, some (.int x3), none, some (.int x5), some (.int x6), some (.int x7), some (.int x8), some (.int x9), some (.int x10)] [] h (.inl (some (.int r))) h') {h : jw_H} {x0 : Nat} {x1 : Int32} {x3 : Int32} {x5 : Int32} {x6 : Int32} {x7 : Int32} {x8 : Int32} {x9 : Int32} {r : Int32} {h' : jw_H} (hq : g_X12_replaces_b152 k135 h x0 x1 x3 x5 x6 x7 x8 x9 = some (r, h')) : jw_E 6 uX12_replaces hi 152 [some (.ref x0), some (.int x1), none, some (.int x3), none, some (.int x5), some (.int x6), some (.int x7), some (.int x8), some (.int x9), none] [] h (.inl (some (.int r))) h' := by
  unfold g_X12_replaces_b152 at hq
  refine jw_iinc (L' := [some (.ref x0), some (.int x1), none, some (.int x3), none, some (.int x5), some (.int x6), some (.int (x7 + (1 : Int32))), some (.int x8), some (.int x9), none]) dX12_replaces_152 rfl (v := (1 : Int32)) (by decide) (Nat.le_of_ble_eq_true rfl) rfl ?_
  refine jw_iload dX12_replaces_155 rfl ?_
  rcases jw_if hq with ⟨c1, hq⟩ | ⟨c1, hq⟩
  · refine jw_if_ne_f (tgt := 167) dX12_replaces_157 (by decide) c1 ?_
    refine jw_iload dX12_replaces_160 rfl ?_
    refine jw_iload dX12_replaces_162 rfl ?_
    rcases jw_if hq with ⟨c2, hq⟩ | ⟨c2, hq⟩
    · refine jw_icmp_ne_f (tgt := 193) dX12_replaces_164 (by decide) c2 ?_
      refine jw_forget [true, true, true, true, true, true, true, true, true, false, true] (L' := [some (.ref x0), some (.int x1), none, some (.int x3), none, some (.int x5), some (.int x6), some (.int (x7 + (1 : Int32))), some (.int x8), none, none]) rfl ?_
      exact l_X12_replaces_b167 hk135 hq
    · refine jw_icmp_ne_t (tgt := 193) dX12_replaces_164 (by decide) c2 ?_
      exact l_X12_replaces_b193 hk135 hq
  · refine jw_if_ne_t (tgt := 167) dX12_replaces_157 (by decide) c1 ?_
    refine jw_forget [true, true, true, true, true, true, true, true, true, false, true] (L' := [some (.ref x0), some (.int x1), none, some (.int x3), none, some (.int x5), some (.int x6), some (.int (x7 + (1 : Int32))), some (.int x8), none, none]) rfl ?_
    exact l_X12_replaces_b167 hk135 hq

set_option maxRecDepth 100000 in
set_option maxHeartbeats 4000000 in
theorem l_X12_replaces_b203 {hi : jw_H} {h : jw_H} {x0 : Nat} {x1 : Int32} {x8 : Int32} {x9 : Int32} {r : Int32} {h' : jw_H} (hq : g_X12_replaces_b203  h x0 x1 x8 x9 = some (r, h')) : jw_E 6 uX12_replaces hi 203 [some (.ref x0), some (.int x1), none, none, none, none, none, none, some (.int x8), some (.int x9), none] [] h (.inl (some (.int r))) h' := by
  unfold g_X12_replaces_b203 at hq
  refine jw_iload dX12_replaces_203 rfl ?_
  rcases jw_if hq with ⟨c1, hq⟩ | ⟨c1, hq⟩
  · refine jw_if_ne_f (tgt := 210) dX12_replaces_205 (by decide) c1 ?_
    refine jw_iconst dX12_replaces_208 (v := (1 : Int32)) (by decide) ?_
    cases hq
    exact jw_iret (ty := .boolean) dX12_replaces_209 rfl rfl
  · refine jw_if_ne_t (tgt := 210) dX12_replaces_205 (by decide) c1 ?_
    refine jw_aload_n dX12_replaces_210 (o := (some x0)) rfl ?_
    refine jw_iload_n dX12_replaces_211 rfl ?_
    refine jw_iload dX12_replaces_212 rfl ?_
    refine jw_aload_n dX12_replaces_214 (o := (some x0)) rfl ?_
    refine jw_iload_n dX12_replaces_215 rfl ?_
    obtain ⟨a2, ea2, hq⟩ := Option.bind_eq_some_iff.mp hq
    obtain ⟨eoa2, eta2⟩ := jw_rc_spec ea2
    obtain ⟨w4, h3, ew4, hq⟩ := jw_b2_spec hq
    refine jw_callV (As := [.int x1]) (S := [.int x8, .int x1, .ref x0]) (a := a2) (v := some (.int w4)) dX12_replaces_216 mt_X12_len in_X12_len se_X12_len lk_X12_109 (c_X12_len ew4) eta2 (by decide) rfl rfl (by decide) (Nat.le_of_ble_eq_true rfl) (by cases eoa2; rfl) ?_
    obtain ⟨a5, ea5, hq⟩ := Option.bind_eq_some_iff.mp hq
    obtain ⟨eoa5, eta5⟩ := jw_rc_spec ea5
    obtain ⟨w7, h6, ew7, hq⟩ := jw_b2_spec hq
    refine jw_callV (As := [.int x1, .int x8, .int w4]) (S := []) (a := a5) (v := none) dX12_replaces_219 mt_X12_makesRow in_X12_makesRow se_X12_makesRow lk_X12_348 (c_X12_makesRow ew7) eta5 (by decide) rfl rfl (by decide) (Nat.le_of_ble_eq_true rfl) (by cases eoa5; rfl) ?_
    refine jw_aload_n dX12_replaces_222 (o := (some x0)) rfl ?_
    refine jw_iconst dX12_replaces_223 (v := (1 : Int32)) (by decide) ?_
    obtain ⟨h8, eh8, hq⟩ := Option.bind_eq_some_iff.mp hq
    refine jw_putB (o := (some x0)) dX12_replaces_224 eh8 fl_X12_385 rfl rfl ?_
    refine jw_aload_n dX12_replaces_227 (o := (some x0)) rfl ?_
    refine jw_iload_n dX12_replaces_228 rfl ?_
    obtain ⟨a9, ea9, hq⟩ := Option.bind_eq_some_iff.mp hq
    obtain ⟨eoa9, eta9⟩ := jw_rc_spec ea9
    obtain ⟨w11, h10, ew11, hq⟩ := jw_b2_spec hq
    refine jw_callV (As := [.int x1]) (S := []) (a := a9) (v := some (.int w11)) dX12_replaces_229 mt_X12_lays in_X12_lays se_X12_lays lk_X12_329 (c_X12_lays ew11) eta9 (by decide) rfl rfl (by decide) (Nat.le_of_ble_eq_true rfl) (by cases eoa9; rfl) ?_
    obtain ⟨v12, ev12, hq⟩ := Option.bind_eq_some_iff.mp hq
    cases hq
    exact jw_iret (ty := .boolean) dX12_replaces_232 rfl (jw_rb_spec ev12)

set_option maxRecDepth 100000 in
set_option maxHeartbeats 4000000 in
theorem l_X12_replaces_b135g {hi : jw_H} {k135 : jw_H → Nat → Int32 → Int32 → Int32 → Int32 → Int32 → Int32 → Int32 → Int32 → Option (Int32 × jw_H)} (hk135 : ∀ (h : jw_H) (x0 : Nat) (x1 : Int32) (x3 : Int32) (x5 : Int32) (x6 : Int32) (x7 : Int32) (x8 : Int32) (x9 : Int32) (x10 : Int32) (r : Int32) (h' : jw_H), k135 h x0 x1 x3 x5 x6 x7 x8 x9 x10 = some (r, h') → jw_E 6 uX12_replaces hi 135 [some (.ref x0), some (.int x1), none, some (.int x3), none, some (.int x5), some (.int x6), some (.int x7), some (.int x8), some (.int x9), some (.int x10)] [] h (.inl (some (.int r))) h') {h : jw_H} {x0 : Nat} {x1 : Int32} {x3 : Int32} {x5 : Int32} {x6 : Int32} {x7 : Int32} {x8 : Int32} {x9 : Int32} {x10 : Int32} {r : Int32} {h' : jw_H} (hq : g_X12_replaces_b135 k135 h x0 x1 x3 x5 x6 x7 x8 x9 x10 = some (r, h')) : jw_E 6 uX12_replaces hi 135 [some (.ref x0), some (.int x1), none, some (.int x3), none, some (.int x5), some (.int x6), some (.int x7), some (.int x8), some (.int x9), some (.int x10)] [] h (.inl (some (.int r))) h' := by
  unfold g_X12_replaces_b135 at hq
  refine jw_iload dX12_replaces_135 rfl ?_
  rcases jw_if hq with ⟨c1, hq⟩ | ⟨c1, hq⟩
  · refine jw_if_eq_t (tgt := 203) dX12_replaces_137 (by decide) c1 ?_
    refine jw_forget [true, true, true, false, true, false, false, false, true, true, false] (L' := [some (.ref x0), some (.int x1), none, none, none, none, none, none, some (.int x8), some (.int x9), none]) rfl ?_
    exact l_X12_replaces_b203  hq
  · refine jw_if_eq_f (tgt := 203) dX12_replaces_137 (by decide) c1 ?_
    refine jw_iload dX12_replaces_140 rfl ?_
    rcases jw_if hq with ⟨c2, hq⟩ | ⟨c2, hq⟩
    · refine jw_if_ne_f (tgt := 152) dX12_replaces_142 (by decide) c2 ?_
      refine jw_iload dX12_replaces_145 rfl ?_
      refine jw_iload dX12_replaces_147 rfl ?_
      rcases jw_if hq with ⟨c3, hq⟩ | ⟨c3, hq⟩
      · refine jw_icmp_ge_t (tgt := 203) dX12_replaces_149 (by decide) c3 ?_
        refine jw_forget [true, true, true, false, true, false, false, false, true, true, false] (L' := [some (.ref x0), some (.int x1), none, none, none, none, none, none, some (.int x8), some (.int x9), none]) rfl ?_
        exact l_X12_replaces_b203  hq
      · refine jw_icmp_ge_f (tgt := 203) dX12_replaces_149 (by decide) c3 ?_
        refine jw_forget [true, true, true, true, true, true, true, true, true, true, false] (L' := [some (.ref x0), some (.int x1), none, some (.int x3), none, some (.int x5), some (.int x6), some (.int x7), some (.int x8), some (.int x9), none]) rfl ?_
        exact l_X12_replaces_b152 hk135 hq
    · refine jw_if_ne_t (tgt := 152) dX12_replaces_142 (by decide) c2 ?_
      refine jw_forget [true, true, true, true, true, true, true, true, true, true, false] (L' := [some (.ref x0), some (.int x1), none, some (.int x3), none, some (.int x5), some (.int x6), some (.int x7), some (.int x8), some (.int x9), none]) rfl ?_
      exact l_X12_replaces_b152 hk135 hq

theorem l_X12_replaces_b135 {hi : jw_H} : ∀ (n : Nat) (h : jw_H) (x0 : Nat) (x1 : Int32) (x3 : Int32) (x5 : Int32) (x6 : Int32) (x7 : Int32) (x8 : Int32) (x9 : Int32) (x10 : Int32) (r : Int32) (h' : jw_H), f_X12_replaces_b135  n h x0 x1 x3 x5 x6 x7 x8 x9 x10 = some (r, h') → jw_E 6 uX12_replaces hi 135 [some (.ref x0), some (.int x1), none, some (.int x3), none, some (.int x5), some (.int x6), some (.int x7), some (.int x8), some (.int x9), some (.int x10)] [] h (.inl (some (.int r))) h' := by
  intro n
  induction n with
  | zero => intro h x0 x1 x3 x5 x6 x7 x8 x9 x10 r h' hq; exact nomatch hq
  | succ n ih => intro h x0 x1 x3 x5 x6 x7 x8 x9 x10 r h' hq; exact l_X12_replaces_b135g ih hq

set_option maxRecDepth 100000 in
set_option maxHeartbeats 4000000 in
theorem l_X12_replaces_b111 {hi : jw_H} {h : jw_H} {x0 : Nat} {x1 : Int32} {x3 : Int32} {x5 : Int32} {t0 : Int32} {r : Int32} {h' : jw_H} (hq : g_X12_replaces_b111  h x0 x1 x3 x5 t0 = some (r, h')) : jw_E 6 uX12_replaces hi 111 [some (.ref x0), some (.int x1), none, some (.int x3), none, some (.int x5), none, none, none, none, none] [.int t0] h (.inl (some (.int r))) h' := by
  unfold g_X12_replaces_b111 at hq
  refine jw_istore (L' := [some (.ref x0), some (.int x1), none, some (.int x3), none, some (.int x5), some (.int t0), none, none, none, none]) dX12_replaces_111 (Nat.le_of_ble_eq_true rfl) rfl ?_
  refine jw_iconst dX12_replaces_113 (v := (0 : Int32)) (by decide) ?_
  refine jw_istore (L' := [some (.ref x0), some (.int x1), none, some (.int x3), none, some (.int x5), some (.int t0), some (.int (0 : Int32)), none, none, none]) dX12_replaces_114 (Nat.le_of_ble_eq_true rfl) rfl ?_
  refine jw_iconst dX12_replaces_116 (v := (0 : Int32)) (by decide) ?_
  refine jw_istore (L' := [some (.ref x0), some (.int x1), none, some (.int x3), none, some (.int x5), some (.int t0), some (.int (0 : Int32)), some (.int (0 : Int32)), none, none]) dX12_replaces_117 (Nat.le_of_ble_eq_true rfl) rfl ?_
  refine jw_iconst dX12_replaces_119 (v := (0 : Int32)) (by decide) ?_
  refine jw_istore (L' := [some (.ref x0), some (.int x1), none, some (.int x3), none, some (.int x5), some (.int t0), some (.int (0 : Int32)), some (.int (0 : Int32)), some (.int (0 : Int32)), none]) dX12_replaces_120 (Nat.le_of_ble_eq_true rfl) rfl ?_
  refine jw_aload_n dX12_replaces_122 (o := (some x0)) rfl ?_
  refine jw_iload_n dX12_replaces_123 rfl ?_
  refine jw_iconst dX12_replaces_124 (v := (0 : Int32)) (by decide) ?_
  obtain ⟨a1, ea1, hq⟩ := Option.bind_eq_some_iff.mp hq
  obtain ⟨eoa1, eta1⟩ := jw_rc_spec ea1
  obtain ⟨w3, h2, ew3, hq⟩ := jw_b2_spec hq
  refine jw_callV (As := [.int x1, .int (0 : Int32)]) (S := []) (a := a1) (v := some (.int w3)) dX12_replaces_125 mt_X12_finds in_X12_finds se_X12_finds lk_X12_292 (c_X12_finds ew3) eta1 (by decide) rfl rfl (by decide) (Nat.le_of_ble_eq_true rfl) (by cases eoa1; rfl) ?_
  refine jw_istore (L' := [some (.ref x0), some (.int x1), none, some (.int x3), none, some (.int x5), some (.int t0), some (.int (0 : Int32)), some (.int (0 : Int32)), some (.int (0 : Int32)), some (.int w3)]) dX12_replaces_128 (Nat.le_of_ble_eq_true rfl) rfl ?_
  refine jw_aload_n dX12_replaces_130 (o := (some x0)) rfl ?_
  refine jw_iconst dX12_replaces_131 (v := (0 : Int32)) (by decide) ?_
  obtain ⟨h4, eh4, hq⟩ := Option.bind_eq_some_iff.mp hq
  refine jw_putI (o := (some x0)) dX12_replaces_132 eh4 fl_X12_117 rfl rfl ?_
  exact l_X12_replaces_b135  jw_FU _ _ _ _ _ _ _ _ _ _ _ _ hq

set_option maxRecDepth 100000 in
set_option maxHeartbeats 4000000 in
theorem l_X12_replaces_b110 {hi : jw_H} {h : jw_H} {x0 : Nat} {x1 : Int32} {x3 : Int32} {x5 : Int32} {r : Int32} {h' : jw_H} (hq : g_X12_replaces_b110  h x0 x1 x3 x5 = some (r, h')) : jw_E 6 uX12_replaces hi 110 [some (.ref x0), some (.int x1), none, some (.int x3), none, some (.int x5), none, none, none, none, none] [] h (.inl (some (.int r))) h' := by
  unfold g_X12_replaces_b110 at hq
  refine jw_iconst dX12_replaces_110 (v := (1 : Int32)) (by decide) ?_
  exact l_X12_replaces_b111  hq

set_option maxRecDepth 100000 in
set_option maxHeartbeats 4000000 in
theorem l_X12_replaces_b67 {hi : jw_H} {h : jw_H} {x0 : Nat} {x1 : Int32} {x3 : Int32} {x4 : Int32} {t0 : Int32} {r : Int32} {h' : jw_H} (hq : g_X12_replaces_b67  h x0 x1 x3 x4 t0 = some (r, h')) : jw_E 6 uX12_replaces hi 67 [some (.ref x0), some (.int x1), none, some (.int x3), some (.int x4), none, none, none, none, none, none] [.int t0] h (.inl (some (.int r))) h' := by
  unfold g_X12_replaces_b67 at hq
  refine jw_istore (L' := [some (.ref x0), some (.int x1), none, some (.int x3), some (.int x4), some (.int t0), none, none, none, none, none]) dX12_replaces_67 (Nat.le_of_ble_eq_true rfl) rfl ?_
  refine jw_iload dX12_replaces_69 rfl ?_
  refine jw_iconst dX12_replaces_71 (v := (1 : Int32)) (by decide) ?_
  refine jw_iadd dX12_replaces_72 ?_
  refine jw_aload_n dX12_replaces_73 (o := (some x0)) rfl ?_
  obtain ⟨v1, ev1, hq⟩ := Option.bind_eq_some_iff.mp hq
  refine jw_getI (o := (some x0)) dX12_replaces_74 ev1 fl_X12_146 rfl ?_
  rcases jw_if hq with ⟨c2, hq⟩ | ⟨c2, hq⟩
  · refine jw_icmp_ge_t (tgt := 110) dX12_replaces_77 (by decide) c2 ?_
    refine jw_forget [true, true, true, true, false, true, true, true, true, true, true] (L' := [some (.ref x0), some (.int x1), none, some (.int x3), none, some (.int t0), none, none, none, none, none]) rfl ?_
    exact l_X12_replaces_b110  hq
  · refine jw_icmp_ge_f (tgt := 110) dX12_replaces_77 (by decide) c2 ?_
    refine jw_aload_n dX12_replaces_80 (o := (some x0)) rfl ?_
    obtain ⟨v3, ev3, hq⟩ := Option.bind_eq_some_iff.mp hq
    refine jw_getR (o := (some x0)) dX12_replaces_81 ev3 fl_X12_44 rfl ?_
    refine jw_iload dX12_replaces_84 rfl ?_
    refine jw_iconst dX12_replaces_86 (v := (1 : Int32)) (by decide) ?_
    refine jw_iadd dX12_replaces_87 ?_
    obtain ⟨v4, ev4, hq⟩ := Option.bind_eq_some_iff.mp hq
    refine jw_iald (o := v3) dX12_replaces_88 ev4 ?_
    obtain ⟨w6, h5, ew6, hq⟩ := jw_b2_spec hq
    refine jw_callS (As := [.int v4]) (S := []) (v := some (.int w6)) dX12_replaces_89 mt_X12_isDigit st_X12_isDigit lk_X12_152 (c_X12_isDigit ew6) rfl (by decide) (Nat.le_of_ble_eq_true rfl) rfl ?_
    rcases jw_if hq with ⟨c7, hq⟩ | ⟨c7, hq⟩
    · refine jw_if_eq_t (tgt := 110) dX12_replaces_92 (by decide) c7 ?_
      refine jw_forget [true, true, true, true, false, true, true, true, true, true, true] (L' := [some (.ref x0), some (.int x1), none, some (.int x3), none, some (.int t0), none, none, none, none, none]) rfl ?_
      exact l_X12_replaces_b110  hq
    · refine jw_if_eq_f (tgt := 110) dX12_replaces_92 (by decide) c7 ?_
      refine jw_aload_n dX12_replaces_95 (o := (some x0)) rfl ?_
      obtain ⟨v8, ev8, hq⟩ := Option.bind_eq_some_iff.mp hq
      refine jw_getR (o := (some x0)) dX12_replaces_96 ev8 fl_X12_44 rfl ?_
      refine jw_iload dX12_replaces_99 rfl ?_
      refine jw_iconst dX12_replaces_101 (v := (1 : Int32)) (by decide) ?_
      refine jw_iadd dX12_replaces_102 ?_
      obtain ⟨v9, ev9, hq⟩ := Option.bind_eq_some_iff.mp hq
      refine jw_iald (o := v8) dX12_replaces_103 ev9 ?_
      refine jw_bipush dX12_replaces_104 (v := (48 : Int32)) (by decide) ?_
      refine jw_isub dX12_replaces_106 ?_
      refine jw_goto (tgt := 111) dX12_replaces_107 (by decide) ?_
      refine jw_forget [true, true, true, true, false, true, true, true, true, true, true] (L' := [some (.ref x0), some (.int x1), none, some (.int x3), none, some (.int t0), none, none, none, none, none]) rfl ?_
      exact l_X12_replaces_b111  hq

set_option maxRecDepth 100000 in
set_option maxHeartbeats 4000000 in
theorem l_X12_replaces_b66 {hi : jw_H} {h : jw_H} {x0 : Nat} {x1 : Int32} {x3 : Int32} {x4 : Int32} {r : Int32} {h' : jw_H} (hq : g_X12_replaces_b66  h x0 x1 x3 x4 = some (r, h')) : jw_E 6 uX12_replaces hi 66 [some (.ref x0), some (.int x1), none, some (.int x3), some (.int x4), none, none, none, none, none, none] [] h (.inl (some (.int r))) h' := by
  unfold g_X12_replaces_b66 at hq
  refine jw_iconst dX12_replaces_66 (v := (0 : Int32)) (by decide) ?_
  exact l_X12_replaces_b67  hq

set_option maxRecDepth 100000 in
set_option maxHeartbeats 4000000 in
theorem l_X12_replaces_b19g {hi : jw_H} {k19 : jw_H → Nat → Int32 → Int32 → Int32 → Option (Int32 × jw_H)} (hk19 : ∀ (h : jw_H) (x0 : Nat) (x1 : Int32) (x3 : Int32) (x4 : Int32) (r : Int32) (h' : jw_H), k19 h x0 x1 x3 x4 = some (r, h') → jw_E 6 uX12_replaces hi 19 [some (.ref x0), some (.int x1), none, some (.int x3), some (.int x4), none, none, none, none, none, none] [] h (.inl (some (.int r))) h') {h : jw_H} {x0 : Nat} {x1 : Int32} {x3 : Int32} {x4 : Int32} {r : Int32} {h' : jw_H} (hq : g_X12_replaces_b19 k19 h x0 x1 x3 x4 = some (r, h')) : jw_E 6 uX12_replaces hi 19 [some (.ref x0), some (.int x1), none, some (.int x3), some (.int x4), none, none, none, none, none, none] [] h (.inl (some (.int r))) h' := by
  unfold g_X12_replaces_b19 at hq
  refine jw_aload_n dX12_replaces_19 (o := (some x0)) rfl ?_
  obtain ⟨v1, ev1, hq⟩ := Option.bind_eq_some_iff.mp hq
  refine jw_getR (o := (some x0)) dX12_replaces_20 ev1 fl_X12_44 rfl ?_
  refine jw_iload dX12_replaces_23 rfl ?_
  obtain ⟨v2, ev2, hq⟩ := Option.bind_eq_some_iff.mp hq
  refine jw_iald (o := v1) dX12_replaces_25 ev2 ?_
  refine jw_bipush dX12_replaces_26 (v := (47 : Int32)) (by decide) ?_
  rcases jw_if hq with ⟨c3, hq⟩ | ⟨c3, hq⟩
  · refine jw_icmp_eq_t (tgt := 37) dX12_replaces_28 (by decide) c3 ?_
    refine jw_iload dX12_replaces_37 rfl ?_
    refine jw_iconst dX12_replaces_39 (v := (1 : Int32)) (by decide) ?_
    refine jw_iadd dX12_replaces_40 ?_
    refine jw_aload_n dX12_replaces_41 (o := (some x0)) rfl ?_
    obtain ⟨v4, ev4, hq⟩ := Option.bind_eq_some_iff.mp hq
    refine jw_getI (o := (some x0)) dX12_replaces_42 ev4 fl_X12_146 rfl ?_
    rcases jw_if hq with ⟨c5, hq⟩ | ⟨c5, hq⟩
    · refine jw_icmp_ge_t (tgt := 66) dX12_replaces_45 (by decide) c5 ?_
      exact l_X12_replaces_b66  hq
    · refine jw_icmp_ge_f (tgt := 66) dX12_replaces_45 (by decide) c5 ?_
      refine jw_aload_n dX12_replaces_48 (o := (some x0)) rfl ?_
      obtain ⟨v6, ev6, hq⟩ := Option.bind_eq_some_iff.mp hq
      refine jw_getR (o := (some x0)) dX12_replaces_49 ev6 fl_X12_44 rfl ?_
      refine jw_iload dX12_replaces_52 rfl ?_
      refine jw_iconst dX12_replaces_54 (v := (1 : Int32)) (by decide) ?_
      refine jw_iadd dX12_replaces_55 ?_
      obtain ⟨v7, ev7, hq⟩ := Option.bind_eq_some_iff.mp hq
      refine jw_iald (o := v6) dX12_replaces_56 ev7 ?_
      refine jw_bipush dX12_replaces_57 (v := (103 : Int32)) (by decide) ?_
      rcases jw_if hq with ⟨c8, hq⟩ | ⟨c8, hq⟩
      · refine jw_icmp_ne_f (tgt := 66) dX12_replaces_59 (by decide) c8 ?_
        refine jw_iconst dX12_replaces_62 (v := (1 : Int32)) (by decide) ?_
        refine jw_goto (tgt := 67) dX12_replaces_63 (by decide) ?_
        exact l_X12_replaces_b67  hq
      · refine jw_icmp_ne_t (tgt := 66) dX12_replaces_59 (by decide) c8 ?_
        exact l_X12_replaces_b66  hq
  · refine jw_icmp_eq_f (tgt := 37) dX12_replaces_28 (by decide) c3 ?_
    refine jw_iinc (L' := [some (.ref x0), some (.int x1), none, some (.int x3), some (.int (x4 + (1 : Int32))), none, none, none, none, none, none]) dX12_replaces_31 rfl (v := (1 : Int32)) (by decide) (Nat.le_of_ble_eq_true rfl) rfl ?_
    refine jw_goto (tgt := 19) dX12_replaces_34 (by decide) ?_
    exact hk19 _ _ _ _ _ _ _ hq

theorem l_X12_replaces_b19 {hi : jw_H} : ∀ (n : Nat) (h : jw_H) (x0 : Nat) (x1 : Int32) (x3 : Int32) (x4 : Int32) (r : Int32) (h' : jw_H), f_X12_replaces_b19  n h x0 x1 x3 x4 = some (r, h') → jw_E 6 uX12_replaces hi 19 [some (.ref x0), some (.int x1), none, some (.int x3), some (.int x4), none, none, none, none, none, none] [] h (.inl (some (.int r))) h' := by
  intro n
  induction n with
  | zero => intro h x0 x1 x3 x4 r h' hq; exact nomatch hq
  | succ n ih => intro h x0 x1 x3 x4 r h' hq; exact l_X12_replaces_b19g ih hq

set_option maxRecDepth 100000 in
set_option maxHeartbeats 4000000 in
theorem l_X12_replaces {hi : jw_H} {h : jw_H} {x0 : Nat} {x1 : Int32} {x2 : Int32} {r : Int32} {h' : jw_H} (hq : f_X12_replaces  h x0 x1 x2 = some (r, h')) : jw_E 6 uX12_replaces hi 0 [some (.ref x0), some (.int x1), some (.int x2), none, none, none, none, none, none, none, none] [] h (.inl (some (.int r))) h' := by
  unfold f_X12_replaces at hq
  refine jw_aload_n dX12_replaces_0 (o := (some x0)) rfl ?_
  refine jw_iload_n dX12_replaces_1 rfl ?_
  refine jw_iconst dX12_replaces_2 (v := (2 : Int32)) (by decide) ?_
  refine jw_iadd dX12_replaces_3 ?_
  refine jw_bipush dX12_replaces_4 (v := (47 : Int32)) (by decide) ?_
  obtain ⟨a1, ea1, hq⟩ := Option.bind_eq_some_iff.mp hq
  obtain ⟨eoa1, eta1⟩ := jw_rc_spec ea1
  obtain ⟨w3, h2, ew3, hq⟩ := jw_b2_spec hq
  refine jw_callV (As := [.int (x2 + (2 : Int32)), .int (47 : Int32)]) (S := []) (a := a1) (v := none) dX12_replaces_6 mt_X12_compile in_X12_compile se_X12_compile lk_X12_310 (c_X12_compile ew3) eta1 (by decide) rfl rfl (by decide) (Nat.le_of_ble_eq_true rfl) (by cases eoa1; rfl) ?_
  refine jw_aload_n dX12_replaces_9 (o := (some x0)) rfl ?_
  obtain ⟨v4, ev4, hq⟩ := Option.bind_eq_some_iff.mp hq
  refine jw_getI (o := (some x0)) dX12_replaces_10 ev4 fl_X12_268 rfl ?_
  refine jw_iconst dX12_replaces_13 (v := (1 : Int32)) (by decide) ?_
  refine jw_iadd dX12_replaces_14 ?_
  refine jw_istore_n (L' := [some (.ref x0), some (.int x1), some (.int x2), some (.int (v4 + (1 : Int32))), none, none, none, none, none, none, none]) dX12_replaces_15 (Nat.le_of_ble_eq_true rfl) rfl ?_
  refine jw_iload_n dX12_replaces_16 rfl ?_
  refine jw_istore (L' := [some (.ref x0), some (.int x1), some (.int x2), some (.int (v4 + (1 : Int32))), some (.int (v4 + (1 : Int32))), none, none, none, none, none, none]) dX12_replaces_17 (Nat.le_of_ble_eq_true rfl) rfl ?_
  refine jw_forget [true, true, false, true, true, true, true, true, true, true, true] (L' := [some (.ref x0), some (.int x1), none, some (.int (v4 + (1 : Int32))), some (.int (v4 + (1 : Int32))), none, none, none, none, none, none]) rfl ?_
  exact l_X12_replaces_b19  jw_FU _ _ _ _ _ _ _ hq

theorem c_X12_replaces {h : jw_H} {x0 : Nat} {x1 : Int32} {x2 : Int32} {r : Int32} {h' : jw_H} (hq : f_X12_replaces h x0 x1 x2 = some (r, h')) : jw_Con (Cond.code yX12_replaces cX12_replaces 11 (some .boolean)) yX12_replaces 6 [.ref x0, .int x1, .int x2] h (.inl (some (.int r))) h' :=
  jw_con false (plainFor_of_name (by decide +kernel)) (fun z => nomatch z) (by simp [jw_ent, jw_sl0_nil, jw_sl0_int, jw_sl0_long, jw_sl0_ref, jw_sl0_rf, jw_sl0_scr, List.replicate]) (by simp [jw_sl0_nil, jw_sl0_int, jw_sl0_long, jw_sl0_ref, jw_sl0_rf, jw_sl0_scr]) (l_X12_replaces hq)


/-! X12_turns -/
noncomputable def g_X12_turns_b115 (k28 : jw_H → Nat → Int32 → Int32 → Int32 → Int32 → Option (Unit × jw_H)) (h : jw_H) (x0 : Nat) (x1 : Int32) (x3 : Int32) (x4 : Int32) (x5 : Int32) (t0 : Option Nat) (t1 : Int32) (t2 : Int32) : Option (Unit × jw_H) :=
 (jw_si h 20 t0 t1 t2).bind fun h1 =>
 k28 h1 x0 x1 x3 x4 (x5 + (1 : Int32))

noncomputable def g_X12_turns_b71 (k28 : jw_H → Nat → Int32 → Int32 → Int32 → Int32 → Option (Unit × jw_H)) (h : jw_H) (x0 : Nat) (x1 : Int32) (x3 : Int32) (x4 : Int32) (x5 : Int32) (x6 : Int32) : Option (Unit × jw_H) :=
 (jw_gR h 12 (some x0) 6).bind fun v1 =>
 if x4 ≤ x6 then ((jw_rc h 12 (some x0)).bind fun a3 =>
 jw_b2 (f_X12_sign h a3 x1 x5) fun w5 h4 =>
 g_X12_turns_b115 k28 h4 x0 x1 x3 x4 x5 v1 ((((31 : Int32) * x1) + (1 : Int32)) + x5) w5)
 else ((jw_gR h 12 (some x0) 21).bind fun v6 =>
 (jw_ai h 20 v6 (((x4 + (1 : Int32)) + x6) - x3)).bind fun v7 =>
 g_X12_turns_b115 k28 h x0 x1 x3 x4 x5 v1 ((((31 : Int32) * x1) + (1 : Int32)) + x5) v7)

noncomputable def g_X12_turns_b41 (k28 : jw_H → Nat → Int32 → Int32 → Int32 → Int32 → Option (Unit × jw_H)) (k41 : jw_H → Nat → Int32 → Int32 → Int32 → Int32 → Int32 → Option (Unit × jw_H)) (h : jw_H) (x0 : Nat) (x1 : Int32) (x3 : Int32) (x4 : Int32) (x5 : Int32) (x6 : Int32) : Option (Unit × jw_H) :=
 if x4 ≤ x6 then (g_X12_turns_b71 k28 h x0 x1 x3 x4 x5 x6)
 else ((jw_gR h 12 (some x0) 21).bind fun v2 =>
 (jw_ai h 20 v2 x6).bind fun v3 =>
 (jw_rc h 12 (some x0)).bind fun a4 =>
 jw_b2 (f_X12_sign h a4 x1 x5) fun w6 h5 =>
 if v3 = w6 then (g_X12_turns_b71 k28 h5 x0 x1 x3 x4 x5 x6)
 else (k41 h5 x0 x1 x3 x4 x5 (x6 + (1 : Int32))))

noncomputable def f_X12_turns_b41 (k28 : jw_H → Nat → Int32 → Int32 → Int32 → Int32 → Option (Unit × jw_H)) (n : Nat) : jw_H → Nat → Int32 → Int32 → Int32 → Int32 → Int32 → Option (Unit × jw_H) :=
 Nat.rec (fun _ _ _ _ _ _ _ => none) (fun _ k41 => g_X12_turns_b41 k28 k41) n

noncomputable def g_X12_turns_b28 (k28 : jw_H → Nat → Int32 → Int32 → Int32 → Int32 → Option (Unit × jw_H)) (h : jw_H) (x0 : Nat) (x1 : Int32) (x3 : Int32) (x4 : Int32) (x5 : Int32) : Option (Unit × jw_H) :=
 (jw_rc h 12 (some x0)).bind fun a1 =>
 jw_b2 (f_X12_len h a1 x1) fun w3 h2 =>
 if w3 ≤ x5 then (some ((), h2))
 else (f_X12_turns_b41 k28 jw_FU h2 x0 x1 x3 x4 x5 x3)

noncomputable def f_X12_turns_b28 (n : Nat) : jw_H → Nat → Int32 → Int32 → Int32 → Int32 → Option (Unit × jw_H) :=
 Nat.rec (fun _ _ _ _ _ _ => none) (fun _ k28 => g_X12_turns_b28 k28) n

noncomputable def g_X12_turns_b7 (k7 : jw_H → Nat → Int32 → Int32 → Int32 → Option (Unit × jw_H)) (h : jw_H) (x0 : Nat) (x1 : Int32) (x3 : Int32) (x4 : Int32) : Option (Unit × jw_H) :=
 (jw_gR h 12 (some x0) 21).bind fun v1 =>
 (jw_ai h 20 v1 x4).bind fun v2 =>
 if v2 = (47 : Int32) then (f_X12_turns_b28  jw_FU h x0 x1 x3 x4 (0 : Int32))
 else (k7 h x0 x1 x3 (x4 + (1 : Int32)))

noncomputable def f_X12_turns_b7 (n : Nat) : jw_H → Nat → Int32 → Int32 → Int32 → Option (Unit × jw_H) :=
 Nat.rec (fun _ _ _ _ _ => none) (fun _ k7 => g_X12_turns_b7 k7) n

noncomputable def f_X12_turns (h : jw_H) (x0 : Nat) (x1 : Int32) (x2 : Int32) : Option (Unit × jw_H) :=
 f_X12_turns_b7  jw_FU h x0 x1 (x2 + (2 : Int32)) (x2 + (2 : Int32))

set_option maxRecDepth 100000 in
set_option maxHeartbeats 4000000 in
theorem l_X12_turns_b115 {hi : jw_H} {k28 : jw_H → Nat → Int32 → Int32 → Int32 → Int32 → Option (Unit × jw_H)} (hk28 : ∀ (h : jw_H) (x0 : Nat) (x1 : Int32) (x3 : Int32) (x4 : Int32) (x5 : Int32) (r : Unit) (h' : jw_H), k28 h x0 x1 x3 x4 x5 = some (r, h') → jw_E 1 uX12_turns hi 28 [some (.ref x0), some (.int x1), none, some (.int x3), some (.int x4), some (.int x5), none] [] h (.inl none) h') {h : jw_H} {x0 : Nat} {x1 : Int32} {x3 : Int32} {x4 : Int32} {x5 : Int32} {t0 : Option Nat} {t1 : Int32} {t2 : Int32} {r : Unit} {h' : jw_H} (hq : g_X12_turns_b115 k28 h x0 x1 x3 x4 x5 t0 t1 t2 = some (r, h')) : jw_E 1 uX12_turns hi 115 [some (.ref x0), some (.int x1), none, some (.int x3), some (.int x4), some (.int x5), none] [.int t2, .int t1, va_rf t0] h (.inl none) h' := by
  unfold g_X12_turns_b115 at hq
  obtain ⟨h1, eh1, hq⟩ := Option.bind_eq_some_iff.mp hq
  refine jw_iast (o := t0) dX12_turns_115 eh1 ?_
  refine jw_iinc (L' := [some (.ref x0), some (.int x1), none, some (.int x3), some (.int x4), some (.int (x5 + (1 : Int32))), none]) dX12_turns_116 rfl (v := (1 : Int32)) (by decide) (Nat.le_of_ble_eq_true rfl) rfl ?_
  refine jw_goto (tgt := 28) dX12_turns_119 (by decide) ?_
  exact hk28 _ _ _ _ _ _ _ _ hq

set_option maxRecDepth 100000 in
set_option maxHeartbeats 4000000 in
theorem l_X12_turns_b71 {hi : jw_H} {k28 : jw_H → Nat → Int32 → Int32 → Int32 → Int32 → Option (Unit × jw_H)} (hk28 : ∀ (h : jw_H) (x0 : Nat) (x1 : Int32) (x3 : Int32) (x4 : Int32) (x5 : Int32) (r : Unit) (h' : jw_H), k28 h x0 x1 x3 x4 x5 = some (r, h') → jw_E 1 uX12_turns hi 28 [some (.ref x0), some (.int x1), none, some (.int x3), some (.int x4), some (.int x5), none] [] h (.inl none) h') {h : jw_H} {x0 : Nat} {x1 : Int32} {x3 : Int32} {x4 : Int32} {x5 : Int32} {x6 : Int32} {r : Unit} {h' : jw_H} (hq : g_X12_turns_b71 k28 h x0 x1 x3 x4 x5 x6 = some (r, h')) : jw_E 1 uX12_turns hi 71 [some (.ref x0), some (.int x1), none, some (.int x3), some (.int x4), some (.int x5), some (.int x6)] [] h (.inl none) h' := by
  unfold g_X12_turns_b71 at hq
  refine jw_aload_n dX12_turns_71 (o := (some x0)) rfl ?_
  obtain ⟨v1, ev1, hq⟩ := Option.bind_eq_some_iff.mp hq
  refine jw_getR (o := (some x0)) dX12_turns_72 ev1 fl_X12_23 rfl ?_
  refine jw_bipush dX12_turns_75 (v := (31 : Int32)) (by decide) ?_
  refine jw_iload_n dX12_turns_77 rfl ?_
  refine jw_imul dX12_turns_78 ?_
  refine jw_iconst dX12_turns_79 (v := (1 : Int32)) (by decide) ?_
  refine jw_iadd dX12_turns_80 ?_
  refine jw_iload dX12_turns_81 rfl ?_
  refine jw_iadd dX12_turns_83 ?_
  refine jw_iload dX12_turns_84 rfl ?_
  refine jw_iload dX12_turns_86 rfl ?_
  rcases jw_if hq with ⟨c2, hq⟩ | ⟨c2, hq⟩
  · refine jw_icmp_ge_t (tgt := 108) dX12_turns_88 (by decide) c2 ?_
    refine jw_aload_n dX12_turns_108 (o := (some x0)) rfl ?_
    refine jw_iload_n dX12_turns_109 rfl ?_
    refine jw_iload dX12_turns_110 rfl ?_
    obtain ⟨a3, ea3, hq⟩ := Option.bind_eq_some_iff.mp hq
    obtain ⟨eoa3, eta3⟩ := jw_rc_spec ea3
    obtain ⟨w5, h4, ew5, hq⟩ := jw_b2_spec hq
    refine jw_callV (As := [.int x1, .int x5]) (S := [.int ((((31 : Int32) * x1) + (1 : Int32)) + x5), va_rf v1]) (a := a3) (v := some (.int w5)) dX12_turns_112 mt_X12_sign in_X12_sign se_X12_sign lk_X12_113 (c_X12_sign ew5) eta3 (by decide) rfl rfl (by decide) (by simp only [List.map_cons, List.map_nil, List.sum_cons, List.sum_nil, jw_cat_rf, jw_cat_i, jw_cat_l, jw_cat_a, jw_cat_s] <;> decide) (by cases eoa3; rfl) ?_
    refine jw_forget [true, true, true, true, true, true, false] (L' := [some (.ref x0), some (.int x1), none, some (.int x3), some (.int x4), some (.int x5), none]) rfl ?_
    exact l_X12_turns_b115 hk28 hq
  · refine jw_icmp_ge_f (tgt := 108) dX12_turns_88 (by decide) c2 ?_
    refine jw_aload_n dX12_turns_91 (o := (some x0)) rfl ?_
    obtain ⟨v6, ev6, hq⟩ := Option.bind_eq_some_iff.mp hq
    refine jw_getR (o := (some x0)) dX12_turns_92 ev6 fl_X12_44 rfl ?_
    refine jw_iload dX12_turns_95 rfl ?_
    refine jw_iconst dX12_turns_97 (v := (1 : Int32)) (by decide) ?_
    refine jw_iadd dX12_turns_98 ?_
    refine jw_iload dX12_turns_99 rfl ?_
    refine jw_iadd dX12_turns_101 ?_
    refine jw_iload_n dX12_turns_102 rfl ?_
    refine jw_isub dX12_turns_103 ?_
    obtain ⟨v7, ev7, hq⟩ := Option.bind_eq_some_iff.mp hq
    refine jw_iald (o := v6) dX12_turns_104 ev7 ?_
    refine jw_goto (tgt := 115) dX12_turns_105 (by decide) ?_
    refine jw_forget [true, true, true, true, true, true, false] (L' := [some (.ref x0), some (.int x1), none, some (.int x3), some (.int x4), some (.int x5), none]) rfl ?_
    exact l_X12_turns_b115 hk28 hq

set_option maxRecDepth 100000 in
set_option maxHeartbeats 4000000 in
theorem l_X12_turns_b41g {hi : jw_H} {k28 : jw_H → Nat → Int32 → Int32 → Int32 → Int32 → Option (Unit × jw_H)} (hk28 : ∀ (h : jw_H) (x0 : Nat) (x1 : Int32) (x3 : Int32) (x4 : Int32) (x5 : Int32) (r : Unit) (h' : jw_H), k28 h x0 x1 x3 x4 x5 = some (r, h') → jw_E 1 uX12_turns hi 28 [some (.ref x0), some (.int x1), none, some (.int x3), some (.int x4), some (.int x5), none] [] h (.inl none) h') {k41 : jw_H → Nat → Int32 → Int32 → Int32 → Int32 → Int32 → Option (Unit × jw_H)} (hk41 : ∀ (h : jw_H) (x0 : Nat) (x1 : Int32) (x3 : Int32) (x4 : Int32) (x5 : Int32) (x6 : Int32) (r : Unit) (h' : jw_H), k41 h x0 x1 x3 x4 x5 x6 = some (r, h') → jw_E 1 uX12_turns hi 41 [some (.ref x0), some (.int x1), none, some (.int x3), some (.int x4), some (.int x5), some (.int x6)] [] h (.inl none) h') {h : jw_H} {x0 : Nat} {x1 : Int32} {x3 : Int32} {x4 : Int32} {x5 : Int32} {x6 : Int32} {r : Unit} {h' : jw_H} (hq : g_X12_turns_b41 k28 k41 h x0 x1 x3 x4 x5 x6 = some (r, h')) : jw_E 1 uX12_turns hi 41 [some (.ref x0), some (.int x1), none, some (.int x3), some (.int x4), some (.int x5), some (.int x6)] [] h (.inl none) h' := by
  unfold g_X12_turns_b41 at hq
  refine jw_iload dX12_turns_41 rfl ?_
  refine jw_iload dX12_turns_43 rfl ?_
  rcases jw_if hq with ⟨c1, hq⟩ | ⟨c1, hq⟩
  · refine jw_icmp_ge_t (tgt := 71) dX12_turns_45 (by decide) c1 ?_
    exact l_X12_turns_b71 hk28 hq
  · refine jw_icmp_ge_f (tgt := 71) dX12_turns_45 (by decide) c1 ?_
    refine jw_aload_n dX12_turns_48 (o := (some x0)) rfl ?_
    obtain ⟨v2, ev2, hq⟩ := Option.bind_eq_some_iff.mp hq
    refine jw_getR (o := (some x0)) dX12_turns_49 ev2 fl_X12_44 rfl ?_
    refine jw_iload dX12_turns_52 rfl ?_
    obtain ⟨v3, ev3, hq⟩ := Option.bind_eq_some_iff.mp hq
    refine jw_iald (o := v2) dX12_turns_54 ev3 ?_
    refine jw_aload_n dX12_turns_55 (o := (some x0)) rfl ?_
    refine jw_iload_n dX12_turns_56 rfl ?_
    refine jw_iload dX12_turns_57 rfl ?_
    obtain ⟨a4, ea4, hq⟩ := Option.bind_eq_some_iff.mp hq
    obtain ⟨eoa4, eta4⟩ := jw_rc_spec ea4
    obtain ⟨w6, h5, ew6, hq⟩ := jw_b2_spec hq
    refine jw_callV (As := [.int x1, .int x5]) (S := [.int v3]) (a := a4) (v := some (.int w6)) dX12_turns_59 mt_X12_sign in_X12_sign se_X12_sign lk_X12_113 (c_X12_sign ew6) eta4 (by decide) rfl rfl (by decide) (Nat.le_of_ble_eq_true rfl) (by cases eoa4; rfl) ?_
    rcases jw_if hq with ⟨c7, hq⟩ | ⟨c7, hq⟩
    · refine jw_icmp_eq_t (tgt := 71) dX12_turns_62 (by decide) c7 ?_
      exact l_X12_turns_b71 hk28 hq
    · refine jw_icmp_eq_f (tgt := 71) dX12_turns_62 (by decide) c7 ?_
      refine jw_iinc (L' := [some (.ref x0), some (.int x1), none, some (.int x3), some (.int x4), some (.int x5), some (.int (x6 + (1 : Int32)))]) dX12_turns_65 rfl (v := (1 : Int32)) (by decide) (Nat.le_of_ble_eq_true rfl) rfl ?_
      refine jw_goto (tgt := 41) dX12_turns_68 (by decide) ?_
      exact hk41 _ _ _ _ _ _ _ _ _ hq

theorem l_X12_turns_b41 {hi : jw_H} {k28 : jw_H → Nat → Int32 → Int32 → Int32 → Int32 → Option (Unit × jw_H)} (hk28 : ∀ (h : jw_H) (x0 : Nat) (x1 : Int32) (x3 : Int32) (x4 : Int32) (x5 : Int32) (r : Unit) (h' : jw_H), k28 h x0 x1 x3 x4 x5 = some (r, h') → jw_E 1 uX12_turns hi 28 [some (.ref x0), some (.int x1), none, some (.int x3), some (.int x4), some (.int x5), none] [] h (.inl none) h') : ∀ (n : Nat) (h : jw_H) (x0 : Nat) (x1 : Int32) (x3 : Int32) (x4 : Int32) (x5 : Int32) (x6 : Int32) (r : Unit) (h' : jw_H), f_X12_turns_b41 k28 n h x0 x1 x3 x4 x5 x6 = some (r, h') → jw_E 1 uX12_turns hi 41 [some (.ref x0), some (.int x1), none, some (.int x3), some (.int x4), some (.int x5), some (.int x6)] [] h (.inl none) h' := by
  intro n
  induction n with
  | zero => intro h x0 x1 x3 x4 x5 x6 r h' hq; exact nomatch hq
  | succ n ih => intro h x0 x1 x3 x4 x5 x6 r h' hq; exact l_X12_turns_b41g hk28 ih hq

set_option maxRecDepth 100000 in
set_option maxHeartbeats 4000000 in
theorem l_X12_turns_b28g {hi : jw_H} {k28 : jw_H → Nat → Int32 → Int32 → Int32 → Int32 → Option (Unit × jw_H)} (hk28 : ∀ (h : jw_H) (x0 : Nat) (x1 : Int32) (x3 : Int32) (x4 : Int32) (x5 : Int32) (r : Unit) (h' : jw_H), k28 h x0 x1 x3 x4 x5 = some (r, h') → jw_E 1 uX12_turns hi 28 [some (.ref x0), some (.int x1), none, some (.int x3), some (.int x4), some (.int x5), none] [] h (.inl none) h') {h : jw_H} {x0 : Nat} {x1 : Int32} {x3 : Int32} {x4 : Int32} {x5 : Int32} {r : Unit} {h' : jw_H} (hq : g_X12_turns_b28 k28 h x0 x1 x3 x4 x5 = some (r, h')) : jw_E 1 uX12_turns hi 28 [some (.ref x0), some (.int x1), none, some (.int x3), some (.int x4), some (.int x5), none] [] h (.inl none) h' := by
  unfold g_X12_turns_b28 at hq
  refine jw_iload dX12_turns_28 rfl ?_
  refine jw_aload_n dX12_turns_30 (o := (some x0)) rfl ?_
  refine jw_iload_n dX12_turns_31 rfl ?_
  obtain ⟨a1, ea1, hq⟩ := Option.bind_eq_some_iff.mp hq
  obtain ⟨eoa1, eta1⟩ := jw_rc_spec ea1
  obtain ⟨w3, h2, ew3, hq⟩ := jw_b2_spec hq
  refine jw_callV (As := [.int x1]) (S := [.int x5]) (a := a1) (v := some (.int w3)) dX12_turns_32 mt_X12_len in_X12_len se_X12_len lk_X12_109 (c_X12_len ew3) eta1 (by decide) rfl rfl (by decide) (Nat.le_of_ble_eq_true rfl) (by cases eoa1; rfl) ?_
  rcases jw_if hq with ⟨c4, hq⟩ | ⟨c4, hq⟩
  · refine jw_icmp_ge_t (tgt := 122) dX12_turns_35 (by decide) c4 ?_
    cases hq
    exact jw_vret dX12_turns_122 rfl
  · refine jw_icmp_ge_f (tgt := 122) dX12_turns_35 (by decide) c4 ?_
    refine jw_iload_n dX12_turns_38 rfl ?_
    refine jw_istore (L' := [some (.ref x0), some (.int x1), none, some (.int x3), some (.int x4), some (.int x5), some (.int x3)]) dX12_turns_39 (Nat.le_of_ble_eq_true rfl) rfl ?_
    exact l_X12_turns_b41 hk28 jw_FU _ _ _ _ _ _ _ _ _ hq

theorem l_X12_turns_b28 {hi : jw_H} : ∀ (n : Nat) (h : jw_H) (x0 : Nat) (x1 : Int32) (x3 : Int32) (x4 : Int32) (x5 : Int32) (r : Unit) (h' : jw_H), f_X12_turns_b28  n h x0 x1 x3 x4 x5 = some (r, h') → jw_E 1 uX12_turns hi 28 [some (.ref x0), some (.int x1), none, some (.int x3), some (.int x4), some (.int x5), none] [] h (.inl none) h' := by
  intro n
  induction n with
  | zero => intro h x0 x1 x3 x4 x5 r h' hq; exact nomatch hq
  | succ n ih => intro h x0 x1 x3 x4 x5 r h' hq; exact l_X12_turns_b28g ih hq

set_option maxRecDepth 100000 in
set_option maxHeartbeats 4000000 in
theorem l_X12_turns_b7g {hi : jw_H} {k7 : jw_H → Nat → Int32 → Int32 → Int32 → Option (Unit × jw_H)} (hk7 : ∀ (h : jw_H) (x0 : Nat) (x1 : Int32) (x3 : Int32) (x4 : Int32) (r : Unit) (h' : jw_H), k7 h x0 x1 x3 x4 = some (r, h') → jw_E 1 uX12_turns hi 7 [some (.ref x0), some (.int x1), none, some (.int x3), some (.int x4), none, none] [] h (.inl none) h') {h : jw_H} {x0 : Nat} {x1 : Int32} {x3 : Int32} {x4 : Int32} {r : Unit} {h' : jw_H} (hq : g_X12_turns_b7 k7 h x0 x1 x3 x4 = some (r, h')) : jw_E 1 uX12_turns hi 7 [some (.ref x0), some (.int x1), none, some (.int x3), some (.int x4), none, none] [] h (.inl none) h' := by
  unfold g_X12_turns_b7 at hq
  refine jw_aload_n dX12_turns_7 (o := (some x0)) rfl ?_
  obtain ⟨v1, ev1, hq⟩ := Option.bind_eq_some_iff.mp hq
  refine jw_getR (o := (some x0)) dX12_turns_8 ev1 fl_X12_44 rfl ?_
  refine jw_iload dX12_turns_11 rfl ?_
  obtain ⟨v2, ev2, hq⟩ := Option.bind_eq_some_iff.mp hq
  refine jw_iald (o := v1) dX12_turns_13 ev2 ?_
  refine jw_bipush dX12_turns_14 (v := (47 : Int32)) (by decide) ?_
  rcases jw_if hq with ⟨c3, hq⟩ | ⟨c3, hq⟩
  · refine jw_icmp_eq_t (tgt := 25) dX12_turns_16 (by decide) c3 ?_
    refine jw_iconst dX12_turns_25 (v := (0 : Int32)) (by decide) ?_
    refine jw_istore (L' := [some (.ref x0), some (.int x1), none, some (.int x3), some (.int x4), some (.int (0 : Int32)), none]) dX12_turns_26 (Nat.le_of_ble_eq_true rfl) rfl ?_
    exact l_X12_turns_b28  jw_FU _ _ _ _ _ _ _ _ hq
  · refine jw_icmp_eq_f (tgt := 25) dX12_turns_16 (by decide) c3 ?_
    refine jw_iinc (L' := [some (.ref x0), some (.int x1), none, some (.int x3), some (.int (x4 + (1 : Int32))), none, none]) dX12_turns_19 rfl (v := (1 : Int32)) (by decide) (Nat.le_of_ble_eq_true rfl) rfl ?_
    refine jw_goto (tgt := 7) dX12_turns_22 (by decide) ?_
    exact hk7 _ _ _ _ _ _ _ hq

theorem l_X12_turns_b7 {hi : jw_H} : ∀ (n : Nat) (h : jw_H) (x0 : Nat) (x1 : Int32) (x3 : Int32) (x4 : Int32) (r : Unit) (h' : jw_H), f_X12_turns_b7  n h x0 x1 x3 x4 = some (r, h') → jw_E 1 uX12_turns hi 7 [some (.ref x0), some (.int x1), none, some (.int x3), some (.int x4), none, none] [] h (.inl none) h' := by
  intro n
  induction n with
  | zero => intro h x0 x1 x3 x4 r h' hq; exact nomatch hq
  | succ n ih => intro h x0 x1 x3 x4 r h' hq; exact l_X12_turns_b7g ih hq

set_option maxRecDepth 100000 in
set_option maxHeartbeats 4000000 in
theorem l_X12_turns {hi : jw_H} {h : jw_H} {x0 : Nat} {x1 : Int32} {x2 : Int32} {r : Unit} {h' : jw_H} (hq : f_X12_turns  h x0 x1 x2 = some (r, h')) : jw_E 1 uX12_turns hi 0 [some (.ref x0), some (.int x1), some (.int x2), none, none, none, none] [] h (.inl none) h' := by
  unfold f_X12_turns at hq
  refine jw_iload_n dX12_turns_0 rfl ?_
  refine jw_iconst dX12_turns_1 (v := (2 : Int32)) (by decide) ?_
  refine jw_iadd dX12_turns_2 ?_
  refine jw_istore_n (L' := [some (.ref x0), some (.int x1), some (.int x2), some (.int (x2 + (2 : Int32))), none, none, none]) dX12_turns_3 (Nat.le_of_ble_eq_true rfl) rfl ?_
  refine jw_iload_n dX12_turns_4 rfl ?_
  refine jw_istore (L' := [some (.ref x0), some (.int x1), some (.int x2), some (.int (x2 + (2 : Int32))), some (.int (x2 + (2 : Int32))), none, none]) dX12_turns_5 (Nat.le_of_ble_eq_true rfl) rfl ?_
  refine jw_forget [true, true, false, true, true, true, true] (L' := [some (.ref x0), some (.int x1), none, some (.int (x2 + (2 : Int32))), some (.int (x2 + (2 : Int32))), none, none]) rfl ?_
  exact l_X12_turns_b7  jw_FU _ _ _ _ _ _ _ hq

theorem c_X12_turns {h : jw_H} {x0 : Nat} {x1 : Int32} {x2 : Int32} {r : Unit} {h' : jw_H} (hq : f_X12_turns h x0 x1 x2 = some (r, h')) : jw_Con (Cond.code yX12_turns cX12_turns 7 none) yX12_turns 1 [.ref x0, .int x1, .int x2] h (.inl none) h' :=
  jw_con false (plainFor_of_name (by decide +kernel)) (fun z => nomatch z) (by simp [jw_ent, jw_sl0_nil, jw_sl0_int, jw_sl0_long, jw_sl0_ref, jw_sl0_rf, jw_sl0_scr, List.replicate]) (by simp [jw_sl0_nil, jw_sl0_int, jw_sl0_long, jw_sl0_ref, jw_sl0_rf, jw_sl0_scr]) (l_X12_turns hq)


/-! X12_replaceAll -/
noncomputable def g_X12_replaceAll_b5 (k5 : jw_H → Nat → Int32 → Int32 → Option (Int32 × jw_H)) (h : jw_H) (x0 : Nat) (x1 : Int32) (x2 : Int32) : Option (Int32 × jw_H) :=
 (jw_gI h 12 (some x0) 43).bind fun v1 =>
 if v1 < x2 then ((jw_gI h 12 (some x0) 43).bind fun v3 =>
 (jw_pI h 12 (some x0) 16 v3).bind fun h4 =>
 some ((0 : Int32), h4))
 else (jw_b2 (f_X12_textRow h x2) fun w6 h5 =>
 (jw_rc h5 12 (some x0)).bind fun a7 =>
 jw_b2 (f_X12_replaces h5 a7 w6 x1) fun w9 h8 =>
 if w9 = 0 then (some ((4 : Int32), h8))
 else (k5 h8 x0 x1 (x2 + (1 : Int32))))

noncomputable def f_X12_replaceAll_b5 (n : Nat) : jw_H → Nat → Int32 → Int32 → Option (Int32 × jw_H) :=
 Nat.rec (fun _ _ _ _ => none) (fun _ k5 => g_X12_replaceAll_b5 k5) n

noncomputable def f_X12_replaceAll (h : jw_H) (x0 : Nat) (x1 : Int32) : Option (Int32 × jw_H) :=
 (jw_gI h 12 (some x0) 42).bind fun v1 =>
 f_X12_replaceAll_b5  jw_FU h x0 x1 v1

set_option maxRecDepth 100000 in
set_option maxHeartbeats 4000000 in
theorem l_X12_replaceAll_b5g {hi : jw_H} {k5 : jw_H → Nat → Int32 → Int32 → Option (Int32 × jw_H)} (hk5 : ∀ (h : jw_H) (x0 : Nat) (x1 : Int32) (x2 : Int32) (r : Int32) (h' : jw_H), k5 h x0 x1 x2 = some (r, h') → jw_E 7 uX12_replaceAll hi 5 [some (.ref x0), some (.int x1), some (.int x2)] [] h (.inl (some (.int r))) h') {h : jw_H} {x0 : Nat} {x1 : Int32} {x2 : Int32} {r : Int32} {h' : jw_H} (hq : g_X12_replaceAll_b5 k5 h x0 x1 x2 = some (r, h')) : jw_E 7 uX12_replaceAll hi 5 [some (.ref x0), some (.int x1), some (.int x2)] [] h (.inl (some (.int r))) h' := by
  unfold g_X12_replaceAll_b5 at hq
  refine jw_iload_n dX12_replaceAll_5 rfl ?_
  refine jw_aload_n dX12_replaceAll_6 (o := (some x0)) rfl ?_
  obtain ⟨v1, ev1, hq⟩ := Option.bind_eq_some_iff.mp hq
  refine jw_getI (o := (some x0)) dX12_replaceAll_7 ev1 fl_X12_320 rfl ?_
  rcases jw_if hq with ⟨c2, hq⟩ | ⟨c2, hq⟩
  · refine jw_icmp_gt_t (tgt := 33) dX12_replaceAll_10 (by decide) c2 ?_
    refine jw_aload_n dX12_replaceAll_33 (o := (some x0)) rfl ?_
    refine jw_aload_n dX12_replaceAll_34 (o := (some x0)) rfl ?_
    obtain ⟨v3, ev3, hq⟩ := Option.bind_eq_some_iff.mp hq
    refine jw_getI (o := (some x0)) dX12_replaceAll_35 ev3 fl_X12_320 rfl ?_
    obtain ⟨h4, eh4, hq⟩ := Option.bind_eq_some_iff.mp hq
    refine jw_putI (o := (some x0)) dX12_replaceAll_38 eh4 fl_X12_295 rfl rfl ?_
    refine jw_iconst dX12_replaceAll_41 (v := (0 : Int32)) (by decide) ?_
    cases hq
    exact jw_iret (ty := .int) dX12_replaceAll_42 rfl rfl
  · refine jw_icmp_gt_f (tgt := 33) dX12_replaceAll_10 (by decide) c2 ?_
    refine jw_aload_n dX12_replaceAll_13 (o := (some x0)) rfl ?_
    refine jw_iload_n dX12_replaceAll_14 rfl ?_
    obtain ⟨w6, h5, ew6, hq⟩ := jw_b2_spec hq
    refine jw_callS (As := [.int x2]) (S := [.ref x0]) (v := some (.int w6)) dX12_replaceAll_15 mt_X12_textRow st_X12_textRow lk_X12_298 (c_X12_textRow ew6) rfl (by decide) (Nat.le_of_ble_eq_true rfl) rfl ?_
    refine jw_iload_n dX12_replaceAll_18 rfl ?_
    obtain ⟨a7, ea7, hq⟩ := Option.bind_eq_some_iff.mp hq
    obtain ⟨eoa7, eta7⟩ := jw_rc_spec ea7
    obtain ⟨w9, h8, ew9, hq⟩ := jw_b2_spec hq
    refine jw_callV (As := [.int w6, .int x1]) (S := []) (a := a7) (v := some (.int w9)) dX12_replaceAll_19 mt_X12_replaces in_X12_replaces se_X12_replaces lk_X12_388 (c_X12_replaces ew9) eta7 (by decide) rfl rfl (by decide) (Nat.le_of_ble_eq_true rfl) (by cases eoa7; rfl) ?_
    rcases jw_if hq with ⟨c10, hq⟩ | ⟨c10, hq⟩
    · refine jw_if_ne_f (tgt := 27) dX12_replaceAll_22 (by decide) c10 ?_
      refine jw_iconst dX12_replaceAll_25 (v := (4 : Int32)) (by decide) ?_
      cases hq
      exact jw_iret (ty := .int) dX12_replaceAll_26 rfl rfl
    · refine jw_if_ne_t (tgt := 27) dX12_replaceAll_22 (by decide) c10 ?_
      refine jw_iinc (L' := [some (.ref x0), some (.int x1), some (.int (x2 + (1 : Int32)))]) dX12_replaceAll_27 rfl (v := (1 : Int32)) (by decide) (Nat.le_of_ble_eq_true rfl) rfl ?_
      refine jw_goto (tgt := 5) dX12_replaceAll_30 (by decide) ?_
      exact hk5 _ _ _ _ _ _ hq

theorem l_X12_replaceAll_b5 {hi : jw_H} : ∀ (n : Nat) (h : jw_H) (x0 : Nat) (x1 : Int32) (x2 : Int32) (r : Int32) (h' : jw_H), f_X12_replaceAll_b5  n h x0 x1 x2 = some (r, h') → jw_E 7 uX12_replaceAll hi 5 [some (.ref x0), some (.int x1), some (.int x2)] [] h (.inl (some (.int r))) h' := by
  intro n
  induction n with
  | zero => intro h x0 x1 x2 r h' hq; exact nomatch hq
  | succ n ih => intro h x0 x1 x2 r h' hq; exact l_X12_replaceAll_b5g ih hq

set_option maxRecDepth 100000 in
set_option maxHeartbeats 4000000 in
theorem l_X12_replaceAll {hi : jw_H} {h : jw_H} {x0 : Nat} {x1 : Int32} {r : Int32} {h' : jw_H} (hq : f_X12_replaceAll  h x0 x1 = some (r, h')) : jw_E 7 uX12_replaceAll hi 0 [some (.ref x0), some (.int x1), none] [] h (.inl (some (.int r))) h' := by
  unfold f_X12_replaceAll at hq
  refine jw_aload_n dX12_replaceAll_0 (o := (some x0)) rfl ?_
  obtain ⟨v1, ev1, hq⟩ := Option.bind_eq_some_iff.mp hq
  refine jw_getI (o := (some x0)) dX12_replaceAll_1 ev1 fl_X12_317 rfl ?_
  refine jw_istore_n (L' := [some (.ref x0), some (.int x1), some (.int v1)]) dX12_replaceAll_4 (Nat.le_of_ble_eq_true rfl) rfl ?_
  exact l_X12_replaceAll_b5  jw_FU _ _ _ _ _ _ hq

theorem c_X12_replaceAll {h : jw_H} {x0 : Nat} {x1 : Int32} {r : Int32} {h' : jw_H} (hq : f_X12_replaceAll h x0 x1 = some (r, h')) : jw_Con (Cond.code yX12_replaceAll cX12_replaceAll 3 (some .int)) yX12_replaceAll 7 [.ref x0, .int x1] h (.inl (some (.int r))) h' :=
  jw_con false (plainFor_of_name (by decide +kernel)) (fun z => nomatch z) (by simp [jw_ent, jw_sl0_nil, jw_sl0_int, jw_sl0_long, jw_sl0_ref, jw_sl0_rf, jw_sl0_scr, List.replicate]) (by simp [jw_sl0_nil, jw_sl0_int, jw_sl0_long, jw_sl0_ref, jw_sl0_rf, jw_sl0_scr]) (l_X12_replaceAll hq)


/-! X12_turnAll -/
noncomputable def g_X12_turnAll_b5 (k5 : jw_H → Nat → Int32 → Int32 → Option (Int32 × jw_H)) (h : jw_H) (x0 : Nat) (x1 : Int32) (x2 : Int32) : Option (Int32 × jw_H) :=
 (jw_gI h 12 (some x0) 43).bind fun v1 =>
 if v1 < x2 then ((jw_gI h 12 (some x0) 43).bind fun v3 =>
 (jw_pI h 12 (some x0) 16 v3).bind fun h4 =>
 some ((0 : Int32), h4))
 else (jw_b2 (f_X12_textRow h x2) fun w6 h5 =>
 (jw_rc h5 12 (some x0)).bind fun a7 =>
 jw_b2 (f_X12_turns h5 a7 w6 x1) fun w9 h8 =>
 k5 h8 x0 x1 (x2 + (1 : Int32)))

noncomputable def f_X12_turnAll_b5 (n : Nat) : jw_H → Nat → Int32 → Int32 → Option (Int32 × jw_H) :=
 Nat.rec (fun _ _ _ _ => none) (fun _ k5 => g_X12_turnAll_b5 k5) n

noncomputable def f_X12_turnAll (h : jw_H) (x0 : Nat) (x1 : Int32) : Option (Int32 × jw_H) :=
 (jw_gI h 12 (some x0) 42).bind fun v1 =>
 f_X12_turnAll_b5  jw_FU h x0 x1 v1

set_option maxRecDepth 100000 in
set_option maxHeartbeats 4000000 in
theorem l_X12_turnAll_b5g {hi : jw_H} {k5 : jw_H → Nat → Int32 → Int32 → Option (Int32 × jw_H)} (hk5 : ∀ (h : jw_H) (x0 : Nat) (x1 : Int32) (x2 : Int32) (r : Int32) (h' : jw_H), k5 h x0 x1 x2 = some (r, h') → jw_E 2 uX12_turnAll hi 5 [some (.ref x0), some (.int x1), some (.int x2)] [] h (.inl (some (.int r))) h') {h : jw_H} {x0 : Nat} {x1 : Int32} {x2 : Int32} {r : Int32} {h' : jw_H} (hq : g_X12_turnAll_b5 k5 h x0 x1 x2 = some (r, h')) : jw_E 2 uX12_turnAll hi 5 [some (.ref x0), some (.int x1), some (.int x2)] [] h (.inl (some (.int r))) h' := by
  unfold g_X12_turnAll_b5 at hq
  refine jw_iload_n dX12_turnAll_5 rfl ?_
  refine jw_aload_n dX12_turnAll_6 (o := (some x0)) rfl ?_
  obtain ⟨v1, ev1, hq⟩ := Option.bind_eq_some_iff.mp hq
  refine jw_getI (o := (some x0)) dX12_turnAll_7 ev1 fl_X12_320 rfl ?_
  rcases jw_if hq with ⟨c2, hq⟩ | ⟨c2, hq⟩
  · refine jw_icmp_gt_t (tgt := 28) dX12_turnAll_10 (by decide) c2 ?_
    refine jw_aload_n dX12_turnAll_28 (o := (some x0)) rfl ?_
    refine jw_aload_n dX12_turnAll_29 (o := (some x0)) rfl ?_
    obtain ⟨v3, ev3, hq⟩ := Option.bind_eq_some_iff.mp hq
    refine jw_getI (o := (some x0)) dX12_turnAll_30 ev3 fl_X12_320 rfl ?_
    obtain ⟨h4, eh4, hq⟩ := Option.bind_eq_some_iff.mp hq
    refine jw_putI (o := (some x0)) dX12_turnAll_33 eh4 fl_X12_295 rfl rfl ?_
    refine jw_iconst dX12_turnAll_36 (v := (0 : Int32)) (by decide) ?_
    cases hq
    exact jw_iret (ty := .int) dX12_turnAll_37 rfl rfl
  · refine jw_icmp_gt_f (tgt := 28) dX12_turnAll_10 (by decide) c2 ?_
    refine jw_aload_n dX12_turnAll_13 (o := (some x0)) rfl ?_
    refine jw_iload_n dX12_turnAll_14 rfl ?_
    obtain ⟨w6, h5, ew6, hq⟩ := jw_b2_spec hq
    refine jw_callS (As := [.int x2]) (S := [.ref x0]) (v := some (.int w6)) dX12_turnAll_15 mt_X12_textRow st_X12_textRow lk_X12_298 (c_X12_textRow ew6) rfl (by decide) (Nat.le_of_ble_eq_true rfl) rfl ?_
    refine jw_iload_n dX12_turnAll_18 rfl ?_
    obtain ⟨a7, ea7, hq⟩ := Option.bind_eq_some_iff.mp hq
    obtain ⟨eoa7, eta7⟩ := jw_rc_spec ea7
    obtain ⟨w9, h8, ew9, hq⟩ := jw_b2_spec hq
    refine jw_callV (As := [.int w6, .int x1]) (S := []) (a := a7) (v := none) dX12_turnAll_19 mt_X12_turns in_X12_turns se_X12_turns lk_X12_391 (c_X12_turns ew9) eta7 (by decide) rfl rfl (by decide) (Nat.le_of_ble_eq_true rfl) (by cases eoa7; rfl) ?_
    refine jw_iinc (L' := [some (.ref x0), some (.int x1), some (.int (x2 + (1 : Int32)))]) dX12_turnAll_22 rfl (v := (1 : Int32)) (by decide) (Nat.le_of_ble_eq_true rfl) rfl ?_
    refine jw_goto (tgt := 5) dX12_turnAll_25 (by decide) ?_
    exact hk5 _ _ _ _ _ _ hq

theorem l_X12_turnAll_b5 {hi : jw_H} : ∀ (n : Nat) (h : jw_H) (x0 : Nat) (x1 : Int32) (x2 : Int32) (r : Int32) (h' : jw_H), f_X12_turnAll_b5  n h x0 x1 x2 = some (r, h') → jw_E 2 uX12_turnAll hi 5 [some (.ref x0), some (.int x1), some (.int x2)] [] h (.inl (some (.int r))) h' := by
  intro n
  induction n with
  | zero => intro h x0 x1 x2 r h' hq; exact nomatch hq
  | succ n ih => intro h x0 x1 x2 r h' hq; exact l_X12_turnAll_b5g ih hq

set_option maxRecDepth 100000 in
set_option maxHeartbeats 4000000 in
theorem l_X12_turnAll {hi : jw_H} {h : jw_H} {x0 : Nat} {x1 : Int32} {r : Int32} {h' : jw_H} (hq : f_X12_turnAll  h x0 x1 = some (r, h')) : jw_E 2 uX12_turnAll hi 0 [some (.ref x0), some (.int x1), none] [] h (.inl (some (.int r))) h' := by
  unfold f_X12_turnAll at hq
  refine jw_aload_n dX12_turnAll_0 (o := (some x0)) rfl ?_
  obtain ⟨v1, ev1, hq⟩ := Option.bind_eq_some_iff.mp hq
  refine jw_getI (o := (some x0)) dX12_turnAll_1 ev1 fl_X12_317 rfl ?_
  refine jw_istore_n (L' := [some (.ref x0), some (.int x1), some (.int v1)]) dX12_turnAll_4 (Nat.le_of_ble_eq_true rfl) rfl ?_
  exact l_X12_turnAll_b5  jw_FU _ _ _ _ _ _ hq

theorem c_X12_turnAll {h : jw_H} {x0 : Nat} {x1 : Int32} {r : Int32} {h' : jw_H} (hq : f_X12_turnAll h x0 x1 = some (r, h')) : jw_Con (Cond.code yX12_turnAll cX12_turnAll 3 (some .int)) yX12_turnAll 2 [.ref x0, .int x1] h (.inl (some (.int r))) h' :=
  jw_con false (plainFor_of_name (by decide +kernel)) (fun z => nomatch z) (by simp [jw_ent, jw_sl0_nil, jw_sl0_int, jw_sl0_long, jw_sl0_ref, jw_sl0_rf, jw_sl0_scr, List.replicate]) (by simp [jw_sl0_nil, jw_sl0_int, jw_sl0_long, jw_sl0_ref, jw_sl0_rf, jw_sl0_scr]) (l_X12_turnAll hq)


/-! X12_fileRow -/
noncomputable def f_X12_fileRow (h : jw_H) (x0 : Int32) (x1 : Int32) : Option (Int32 × jw_H) :=
 some ((((123 : Int32) + ((41 : Int32) * x0)) + x1), h)

set_option maxRecDepth 100000 in
set_option maxHeartbeats 4000000 in
theorem l_X12_fileRow {hi : jw_H} {h : jw_H} {x0 : Int32} {x1 : Int32} {r : Int32} {h' : jw_H} (hq : f_X12_fileRow  h x0 x1 = some (r, h')) : jw_E 0 uX12_fileRow hi 0 [some (.int x0), some (.int x1)] [] h (.inl (some (.int r))) h' := by
  unfold f_X12_fileRow at hq
  refine jw_bipush dX12_fileRow_0 (v := (123 : Int32)) (by decide) ?_
  refine jw_bipush dX12_fileRow_2 (v := (41 : Int32)) (by decide) ?_
  refine jw_iload_n dX12_fileRow_4 rfl ?_
  refine jw_imul dX12_fileRow_5 ?_
  refine jw_iadd dX12_fileRow_6 ?_
  refine jw_iload_n dX12_fileRow_7 rfl ?_
  refine jw_iadd dX12_fileRow_8 ?_
  cases hq
  exact jw_iret (ty := .int) dX12_fileRow_9 rfl rfl

theorem c_X12_fileRow {h : jw_H} {x0 : Int32} {x1 : Int32} {r : Int32} {h' : jw_H} (hq : f_X12_fileRow h x0 x1 = some (r, h')) : jw_Con (Cond.code yX12_fileRow cX12_fileRow 2 (some .int)) yX12_fileRow 0 [.int x0, .int x1] h (.inl (some (.int r))) h' :=
  jw_con false (plainFor_of_name (by decide +kernel)) (fun z => nomatch z) (by simp [jw_ent, jw_sl0_nil, jw_sl0_int, jw_sl0_long, jw_sl0_ref, jw_sl0_rf, jw_sl0_scr, List.replicate]) (by simp [jw_sl0_nil, jw_sl0_int, jw_sl0_long, jw_sl0_ref, jw_sl0_rf, jw_sl0_scr]) (l_X12_fileRow hq)


/-! X12_readFile -/
noncomputable def g_X12_readFile_b31 (k31 : jw_H → Nat → Int32 → Int32 → Option (Int32 × jw_H)) (h : jw_H) (x0 : Nat) (x1 : Int32) (x2 : Int32) : Option (Int32 × jw_H) :=
 (jw_gR h 12 (some x0) 11).bind fun v1 =>
 (jw_ai h 20 v1 x1).bind fun v2 =>
 if v2 ≤ x2 then ((jw_gI h 12 (some x0) 43).bind fun v4 =>
 (jw_gR h 12 (some x0) 11).bind fun v5 =>
 (jw_ai h 20 v5 x1).bind fun v6 =>
 (jw_pI h 12 (some x0) 16 (v4 + v6)).bind fun h7 =>
 some ((0 : Int32), h7))
 else (jw_b2 (f_X12_fileRow h x1 x2) fun w9 h8 =>
 (jw_gI h8 12 (some x0) 43).bind fun v10 =>
 (jw_rc h8 12 (some x0)).bind fun a11 =>
 jw_b2 (f_X12_bring h8 a11 w9 (v10 + x2)) fun w13 h12 =>
 k31 h12 x0 x1 (x2 + (1 : Int32)))

noncomputable def f_X12_readFile_b31 (n : Nat) : jw_H → Nat → Int32 → Int32 → Option (Int32 × jw_H) :=
 Nat.rec (fun _ _ _ _ => none) (fun _ k31 => g_X12_readFile_b31 k31) n

noncomputable def f_X12_readFile (h : jw_H) (x0 : Nat) (x1 : Int32) : Option (Int32 × jw_H) :=
 (jw_gR h 12 (some x0) 11).bind fun v1 =>
 (jw_ai h 20 v1 x1).bind fun v2 =>
 if v2 = 0 then (some ((0 : Int32), h))
 else ((jw_gI h 12 (some x0) 12).bind fun v4 =>
 (jw_gR h 12 (some x0) 11).bind fun v5 =>
 (jw_ai h 20 v5 x1).bind fun v6 =>
 if (v4 + v6) ≤ (40 : Int32) then (f_X12_readFile_b31  jw_FU h x0 x1 (0 : Int32))
 else (some ((4 : Int32), h)))

set_option maxRecDepth 100000 in
set_option maxHeartbeats 4000000 in
theorem l_X12_readFile_b31g {hi : jw_H} {k31 : jw_H → Nat → Int32 → Int32 → Option (Int32 × jw_H)} (hk31 : ∀ (h : jw_H) (x0 : Nat) (x1 : Int32) (x2 : Int32) (r : Int32) (h' : jw_H), k31 h x0 x1 x2 = some (r, h') → jw_E 3 uX12_readFile hi 31 [some (.ref x0), some (.int x1), some (.int x2)] [] h (.inl (some (.int r))) h') {h : jw_H} {x0 : Nat} {x1 : Int32} {x2 : Int32} {r : Int32} {h' : jw_H} (hq : g_X12_readFile_b31 k31 h x0 x1 x2 = some (r, h')) : jw_E 3 uX12_readFile hi 31 [some (.ref x0), some (.int x1), some (.int x2)] [] h (.inl (some (.int r))) h' := by
  unfold g_X12_readFile_b31 at hq
  refine jw_iload_n dX12_readFile_31 rfl ?_
  refine jw_aload_n dX12_readFile_32 (o := (some x0)) rfl ?_
  obtain ⟨v1, ev1, hq⟩ := Option.bind_eq_some_iff.mp hq
  refine jw_getR (o := (some x0)) dX12_readFile_33 ev1 fl_X12_38 rfl ?_
  refine jw_iload_n dX12_readFile_36 rfl ?_
  obtain ⟨v2, ev2, hq⟩ := Option.bind_eq_some_iff.mp hq
  refine jw_iald (o := v1) dX12_readFile_37 ev2 ?_
  rcases jw_if hq with ⟨c3, hq⟩ | ⟨c3, hq⟩
  · refine jw_icmp_ge_t (tgt := 62) dX12_readFile_38 (by decide) c3 ?_
    refine jw_aload_n dX12_readFile_62 (o := (some x0)) rfl ?_
    refine jw_aload_n dX12_readFile_63 (o := (some x0)) rfl ?_
    obtain ⟨v4, ev4, hq⟩ := Option.bind_eq_some_iff.mp hq
    refine jw_getI (o := (some x0)) dX12_readFile_64 ev4 fl_X12_320 rfl ?_
    refine jw_aload_n dX12_readFile_67 (o := (some x0)) rfl ?_
    obtain ⟨v5, ev5, hq⟩ := Option.bind_eq_some_iff.mp hq
    refine jw_getR (o := (some x0)) dX12_readFile_68 ev5 fl_X12_38 rfl ?_
    refine jw_iload_n dX12_readFile_71 rfl ?_
    obtain ⟨v6, ev6, hq⟩ := Option.bind_eq_some_iff.mp hq
    refine jw_iald (o := v5) dX12_readFile_72 ev6 ?_
    refine jw_iadd dX12_readFile_73 ?_
    obtain ⟨h7, eh7, hq⟩ := Option.bind_eq_some_iff.mp hq
    refine jw_putI (o := (some x0)) dX12_readFile_74 eh7 fl_X12_295 rfl rfl ?_
    refine jw_iconst dX12_readFile_77 (v := (0 : Int32)) (by decide) ?_
    cases hq
    exact jw_iret (ty := .int) dX12_readFile_78 rfl rfl
  · refine jw_icmp_ge_f (tgt := 62) dX12_readFile_38 (by decide) c3 ?_
    refine jw_aload_n dX12_readFile_41 (o := (some x0)) rfl ?_
    refine jw_iload_n dX12_readFile_42 rfl ?_
    refine jw_iload_n dX12_readFile_43 rfl ?_
    obtain ⟨w9, h8, ew9, hq⟩ := jw_b2_spec hq
    refine jw_callS (As := [.int x1, .int x2]) (S := [.ref x0]) (v := some (.int w9)) dX12_readFile_44 mt_X12_fileRow st_X12_fileRow lk_X12_394 (c_X12_fileRow ew9) rfl (by decide) (Nat.le_of_ble_eq_true rfl) rfl ?_
    refine jw_aload_n dX12_readFile_47 (o := (some x0)) rfl ?_
    obtain ⟨v10, ev10, hq⟩ := Option.bind_eq_some_iff.mp hq
    refine jw_getI (o := (some x0)) dX12_readFile_48 ev10 fl_X12_320 rfl ?_
    refine jw_iload_n dX12_readFile_51 rfl ?_
    refine jw_iadd dX12_readFile_52 ?_
    obtain ⟨a11, ea11, hq⟩ := Option.bind_eq_some_iff.mp hq
    obtain ⟨eoa11, eta11⟩ := jw_rc_spec ea11
    obtain ⟨w13, h12, ew13, hq⟩ := jw_b2_spec hq
    refine jw_callV (As := [.int w9, .int (v10 + x2)]) (S := []) (a := a11) (v := none) dX12_readFile_53 mt_X12_bring in_X12_bring se_X12_bring lk_X12_332 (c_X12_bring ew13) eta11 (by decide) rfl rfl (by decide) (Nat.le_of_ble_eq_true rfl) (by cases eoa11; rfl) ?_
    refine jw_iinc (L' := [some (.ref x0), some (.int x1), some (.int (x2 + (1 : Int32)))]) dX12_readFile_56 rfl (v := (1 : Int32)) (by decide) (Nat.le_of_ble_eq_true rfl) rfl ?_
    refine jw_goto (tgt := 31) dX12_readFile_59 (by decide) ?_
    exact hk31 _ _ _ _ _ _ hq

theorem l_X12_readFile_b31 {hi : jw_H} : ∀ (n : Nat) (h : jw_H) (x0 : Nat) (x1 : Int32) (x2 : Int32) (r : Int32) (h' : jw_H), f_X12_readFile_b31  n h x0 x1 x2 = some (r, h') → jw_E 3 uX12_readFile hi 31 [some (.ref x0), some (.int x1), some (.int x2)] [] h (.inl (some (.int r))) h' := by
  intro n
  induction n with
  | zero => intro h x0 x1 x2 r h' hq; exact nomatch hq
  | succ n ih => intro h x0 x1 x2 r h' hq; exact l_X12_readFile_b31g ih hq

set_option maxRecDepth 100000 in
set_option maxHeartbeats 4000000 in
theorem l_X12_readFile {hi : jw_H} {h : jw_H} {x0 : Nat} {x1 : Int32} {r : Int32} {h' : jw_H} (hq : f_X12_readFile  h x0 x1 = some (r, h')) : jw_E 3 uX12_readFile hi 0 [some (.ref x0), some (.int x1), none] [] h (.inl (some (.int r))) h' := by
  unfold f_X12_readFile at hq
  refine jw_aload_n dX12_readFile_0 (o := (some x0)) rfl ?_
  obtain ⟨v1, ev1, hq⟩ := Option.bind_eq_some_iff.mp hq
  refine jw_getR (o := (some x0)) dX12_readFile_1 ev1 fl_X12_38 rfl ?_
  refine jw_iload_n dX12_readFile_4 rfl ?_
  obtain ⟨v2, ev2, hq⟩ := Option.bind_eq_some_iff.mp hq
  refine jw_iald (o := v1) dX12_readFile_5 ev2 ?_
  rcases jw_if hq with ⟨c3, hq⟩ | ⟨c3, hq⟩
  · refine jw_if_ne_f (tgt := 11) dX12_readFile_6 (by decide) c3 ?_
    refine jw_iconst dX12_readFile_9 (v := (0 : Int32)) (by decide) ?_
    cases hq
    exact jw_iret (ty := .int) dX12_readFile_10 rfl rfl
  · refine jw_if_ne_t (tgt := 11) dX12_readFile_6 (by decide) c3 ?_
    refine jw_aload_n dX12_readFile_11 (o := (some x0)) rfl ?_
    obtain ⟨v4, ev4, hq⟩ := Option.bind_eq_some_iff.mp hq
    refine jw_getI (o := (some x0)) dX12_readFile_12 ev4 fl_X12_124 rfl ?_
    refine jw_aload_n dX12_readFile_15 (o := (some x0)) rfl ?_
    obtain ⟨v5, ev5, hq⟩ := Option.bind_eq_some_iff.mp hq
    refine jw_getR (o := (some x0)) dX12_readFile_16 ev5 fl_X12_38 rfl ?_
    refine jw_iload_n dX12_readFile_19 rfl ?_
    obtain ⟨v6, ev6, hq⟩ := Option.bind_eq_some_iff.mp hq
    refine jw_iald (o := v5) dX12_readFile_20 ev6 ?_
    refine jw_iadd dX12_readFile_21 ?_
    refine jw_bipush dX12_readFile_22 (v := (40 : Int32)) (by decide) ?_
    rcases jw_if hq with ⟨c7, hq⟩ | ⟨c7, hq⟩
    · refine jw_icmp_le_t (tgt := 29) dX12_readFile_24 (by decide) c7 ?_
      refine jw_iconst dX12_readFile_29 (v := (0 : Int32)) (by decide) ?_
      refine jw_istore_n (L' := [some (.ref x0), some (.int x1), some (.int (0 : Int32))]) dX12_readFile_30 (Nat.le_of_ble_eq_true rfl) rfl ?_
      exact l_X12_readFile_b31  jw_FU _ _ _ _ _ _ hq
    · refine jw_icmp_le_f (tgt := 29) dX12_readFile_24 (by decide) c7 ?_
      refine jw_iconst dX12_readFile_27 (v := (4 : Int32)) (by decide) ?_
      cases hq
      exact jw_iret (ty := .int) dX12_readFile_28 rfl rfl

theorem c_X12_readFile {h : jw_H} {x0 : Nat} {x1 : Int32} {r : Int32} {h' : jw_H} (hq : f_X12_readFile h x0 x1 = some (r, h')) : jw_Con (Cond.code yX12_readFile cX12_readFile 3 (some .int)) yX12_readFile 3 [.ref x0, .int x1] h (.inl (some (.int r))) h' :=
  jw_con false (plainFor_of_name (by decide +kernel)) (fun z => nomatch z) (by simp [jw_ent, jw_sl0_nil, jw_sl0_int, jw_sl0_long, jw_sl0_ref, jw_sl0_rf, jw_sl0_scr, List.replicate]) (by simp [jw_sl0_nil, jw_sl0_int, jw_sl0_long, jw_sl0_ref, jw_sl0_rf, jw_sl0_scr]) (l_X12_readFile hq)


/-! X12_writeFile -/
noncomputable def g_X12_writeFile_b5 (k5 : jw_H → Nat → Int32 → Int32 → Option (Int32 × jw_H)) (h : jw_H) (x0 : Nat) (x1 : Int32) (x2 : Int32) : Option (Int32 × jw_H) :=
 (jw_gI h 12 (some x0) 43).bind fun v1 =>
 if v1 < x2 then ((jw_gR h 12 (some x0) 11).bind fun v3 =>
 (jw_gI h 12 (some x0) 43).bind fun v4 =>
 (jw_gI h 12 (some x0) 42).bind fun v5 =>
 (jw_si h 20 v3 x1 ((v4 - v5) + (1 : Int32))).bind fun h6 =>
 some ((0 : Int32), h6))
 else (jw_b2 (f_X12_textRow h x2) fun w8 h7 =>
 (jw_gI h7 12 (some x0) 42).bind fun v9 =>
 jw_b2 (f_X12_fileRow h7 x1 (x2 - v9)) fun w11 h10 =>
 (jw_rc h10 12 (some x0)).bind fun a12 =>
 jw_b2 (f_X12_copyRow h10 a12 w8 w11) fun w14 h13 =>
 k5 h13 x0 x1 (x2 + (1 : Int32)))

noncomputable def f_X12_writeFile_b5 (n : Nat) : jw_H → Nat → Int32 → Int32 → Option (Int32 × jw_H) :=
 Nat.rec (fun _ _ _ _ => none) (fun _ k5 => g_X12_writeFile_b5 k5) n

noncomputable def f_X12_writeFile (h : jw_H) (x0 : Nat) (x1 : Int32) : Option (Int32 × jw_H) :=
 (jw_gI h 12 (some x0) 42).bind fun v1 =>
 f_X12_writeFile_b5  jw_FU h x0 x1 v1

set_option maxRecDepth 100000 in
set_option maxHeartbeats 4000000 in
theorem l_X12_writeFile_b5g {hi : jw_H} {k5 : jw_H → Nat → Int32 → Int32 → Option (Int32 × jw_H)} (hk5 : ∀ (h : jw_H) (x0 : Nat) (x1 : Int32) (x2 : Int32) (r : Int32) (h' : jw_H), k5 h x0 x1 x2 = some (r, h') → jw_E 1 uX12_writeFile hi 5 [some (.ref x0), some (.int x1), some (.int x2)] [] h (.inl (some (.int r))) h') {h : jw_H} {x0 : Nat} {x1 : Int32} {x2 : Int32} {r : Int32} {h' : jw_H} (hq : g_X12_writeFile_b5 k5 h x0 x1 x2 = some (r, h')) : jw_E 1 uX12_writeFile hi 5 [some (.ref x0), some (.int x1), some (.int x2)] [] h (.inl (some (.int r))) h' := by
  unfold g_X12_writeFile_b5 at hq
  refine jw_iload_n dX12_writeFile_5 rfl ?_
  refine jw_aload_n dX12_writeFile_6 (o := (some x0)) rfl ?_
  obtain ⟨v1, ev1, hq⟩ := Option.bind_eq_some_iff.mp hq
  refine jw_getI (o := (some x0)) dX12_writeFile_7 ev1 fl_X12_320 rfl ?_
  rcases jw_if hq with ⟨c2, hq⟩ | ⟨c2, hq⟩
  · refine jw_icmp_gt_t (tgt := 37) dX12_writeFile_10 (by decide) c2 ?_
    refine jw_aload_n dX12_writeFile_37 (o := (some x0)) rfl ?_
    obtain ⟨v3, ev3, hq⟩ := Option.bind_eq_some_iff.mp hq
    refine jw_getR (o := (some x0)) dX12_writeFile_38 ev3 fl_X12_38 rfl ?_
    refine jw_iload_n dX12_writeFile_41 rfl ?_
    refine jw_aload_n dX12_writeFile_42 (o := (some x0)) rfl ?_
    obtain ⟨v4, ev4, hq⟩ := Option.bind_eq_some_iff.mp hq
    refine jw_getI (o := (some x0)) dX12_writeFile_43 ev4 fl_X12_320 rfl ?_
    refine jw_aload_n dX12_writeFile_46 (o := (some x0)) rfl ?_
    obtain ⟨v5, ev5, hq⟩ := Option.bind_eq_some_iff.mp hq
    refine jw_getI (o := (some x0)) dX12_writeFile_47 ev5 fl_X12_317 rfl ?_
    refine jw_isub dX12_writeFile_50 ?_
    refine jw_iconst dX12_writeFile_51 (v := (1 : Int32)) (by decide) ?_
    refine jw_iadd dX12_writeFile_52 ?_
    obtain ⟨h6, eh6, hq⟩ := Option.bind_eq_some_iff.mp hq
    refine jw_iast (o := v3) dX12_writeFile_53 eh6 ?_
    refine jw_iconst dX12_writeFile_54 (v := (0 : Int32)) (by decide) ?_
    cases hq
    exact jw_iret (ty := .int) dX12_writeFile_55 rfl rfl
  · refine jw_icmp_gt_f (tgt := 37) dX12_writeFile_10 (by decide) c2 ?_
    refine jw_aload_n dX12_writeFile_13 (o := (some x0)) rfl ?_
    refine jw_iload_n dX12_writeFile_14 rfl ?_
    obtain ⟨w8, h7, ew8, hq⟩ := jw_b2_spec hq
    refine jw_callS (As := [.int x2]) (S := [.ref x0]) (v := some (.int w8)) dX12_writeFile_15 mt_X12_textRow st_X12_textRow lk_X12_298 (c_X12_textRow ew8) rfl (by decide) (Nat.le_of_ble_eq_true rfl) rfl ?_
    refine jw_iload_n dX12_writeFile_18 rfl ?_
    refine jw_iload_n dX12_writeFile_19 rfl ?_
    refine jw_aload_n dX12_writeFile_20 (o := (some x0)) rfl ?_
    obtain ⟨v9, ev9, hq⟩ := Option.bind_eq_some_iff.mp hq
    refine jw_getI (o := (some x0)) dX12_writeFile_21 ev9 fl_X12_317 rfl ?_
    refine jw_isub dX12_writeFile_24 ?_
    obtain ⟨w11, h10, ew11, hq⟩ := jw_b2_spec hq
    refine jw_callS (As := [.int x1, .int (x2 - v9)]) (S := [.int w8, .ref x0]) (v := some (.int w11)) dX12_writeFile_25 mt_X12_fileRow st_X12_fileRow lk_X12_394 (c_X12_fileRow ew11) rfl (by decide) (Nat.le_of_ble_eq_true rfl) rfl ?_
    obtain ⟨a12, ea12, hq⟩ := Option.bind_eq_some_iff.mp hq
    obtain ⟨eoa12, eta12⟩ := jw_rc_spec ea12
    obtain ⟨w14, h13, ew14, hq⟩ := jw_b2_spec hq
    refine jw_callV (As := [.int w8, .int w11]) (S := []) (a := a12) (v := none) dX12_writeFile_28 mt_X12_copyRow in_X12_copyRow se_X12_copyRow lk_X12_127 (c_X12_copyRow ew14) eta12 (by decide) rfl rfl (by decide) (Nat.le_of_ble_eq_true rfl) (by cases eoa12; rfl) ?_
    refine jw_iinc (L' := [some (.ref x0), some (.int x1), some (.int (x2 + (1 : Int32)))]) dX12_writeFile_31 rfl (v := (1 : Int32)) (by decide) (Nat.le_of_ble_eq_true rfl) rfl ?_
    refine jw_goto (tgt := 5) dX12_writeFile_34 (by decide) ?_
    exact hk5 _ _ _ _ _ _ hq

theorem l_X12_writeFile_b5 {hi : jw_H} : ∀ (n : Nat) (h : jw_H) (x0 : Nat) (x1 : Int32) (x2 : Int32) (r : Int32) (h' : jw_H), f_X12_writeFile_b5  n h x0 x1 x2 = some (r, h') → jw_E 1 uX12_writeFile hi 5 [some (.ref x0), some (.int x1), some (.int x2)] [] h (.inl (some (.int r))) h' := by
  intro n
  induction n with
  | zero => intro h x0 x1 x2 r h' hq; exact nomatch hq
  | succ n ih => intro h x0 x1 x2 r h' hq; exact l_X12_writeFile_b5g ih hq

set_option maxRecDepth 100000 in
set_option maxHeartbeats 4000000 in
theorem l_X12_writeFile {hi : jw_H} {h : jw_H} {x0 : Nat} {x1 : Int32} {r : Int32} {h' : jw_H} (hq : f_X12_writeFile  h x0 x1 = some (r, h')) : jw_E 1 uX12_writeFile hi 0 [some (.ref x0), some (.int x1), none] [] h (.inl (some (.int r))) h' := by
  unfold f_X12_writeFile at hq
  refine jw_aload_n dX12_writeFile_0 (o := (some x0)) rfl ?_
  obtain ⟨v1, ev1, hq⟩ := Option.bind_eq_some_iff.mp hq
  refine jw_getI (o := (some x0)) dX12_writeFile_1 ev1 fl_X12_317 rfl ?_
  refine jw_istore_n (L' := [some (.ref x0), some (.int x1), some (.int v1)]) dX12_writeFile_4 (Nat.le_of_ble_eq_true rfl) rfl ?_
  exact l_X12_writeFile_b5  jw_FU _ _ _ _ _ _ hq

theorem c_X12_writeFile {h : jw_H} {x0 : Nat} {x1 : Int32} {r : Int32} {h' : jw_H} (hq : f_X12_writeFile h x0 x1 = some (r, h')) : jw_Con (Cond.code yX12_writeFile cX12_writeFile 3 (some .int)) yX12_writeFile 1 [.ref x0, .int x1] h (.inl (some (.int r))) h' :=
  jw_con false (plainFor_of_name (by decide +kernel)) (fun z => nomatch z) (by simp [jw_ent, jw_sl0_nil, jw_sl0_int, jw_sl0_long, jw_sl0_ref, jw_sl0_rf, jw_sl0_scr, List.replicate]) (by simp [jw_sl0_nil, jw_sl0_int, jw_sl0_long, jw_sl0_ref, jw_sl0_rf, jw_sl0_scr]) (l_X12_writeFile hq)


/-! X12_otherAct -/
noncomputable def g_X12_otherAct_b38 (h : jw_H) (t0 : Nat) (t1 : Int32) (t2 : Int32) : Option (Int32 × jw_H) :=
 (jw_rc h 12 (some t0)).bind fun a1 =>
 jw_b2 (f_X12_shift h a1 t1 t2) fun w3 h2 =>
 some (w3, h2)

noncomputable def g_X12_otherAct_b19 (h : jw_H) (x0 : Nat) (x1 : Int32) (x2 : Int32) : Option (Int32 × jw_H) :=
 (jw_rc h 12 (some x0)).bind fun a1 =>
 jw_b2 (f_X12_numberAt h a1 (x1 + (1 : Int32))) fun w3 h2 =>
 if x2 = (62 : Int32) then (g_X12_otherAct_b38  h2 x0 w3 (1 : Int32))
 else (g_X12_otherAct_b38  h2 x0 w3 (0 : Int32))

noncomputable def g_X12_otherAct_b73 (h : jw_H) (t0 : Nat) (t1 : Int32) (t2 : Int32) : Option (Int32 × jw_H) :=
 (jw_rc h 12 (some t0)).bind fun a1 =>
 jw_b2 (f_X12_sort h a1 t1 t2) fun w3 h2 =>
 some (w3, h2)

noncomputable def g_X12_otherAct_b54 (h : jw_H) (x0 : Nat) (x1 : Int32) (x2 : Int32) : Option (Int32 × jw_H) :=
 (jw_rc h 12 (some x0)).bind fun a1 =>
 jw_b2 (f_X12_numberAt h a1 (x1 + (1 : Int32))) fun w3 h2 =>
 if x2 = (111 : Int32) then (g_X12_otherAct_b73  h2 x0 w3 (1 : Int32))
 else (g_X12_otherAct_b73  h2 x0 w3 (0 : Int32))

noncomputable def f_X12_otherAct (h : jw_H) (x0 : Nat) (x1 : Int32) : Option (Int32 × jw_H) :=
 (jw_gR h 12 (some x0) 21).bind fun v1 =>
 (jw_ai h 20 v1 x1).bind fun v2 =>
 if v2 = (62 : Int32) then (g_X12_otherAct_b19  h x0 x1 v2)
 else (if v2 = (60 : Int32) then (g_X12_otherAct_b19  h x0 x1 v2)
 else (if v2 = (111 : Int32) then (g_X12_otherAct_b54  h x0 x1 v2)
 else (if v2 = (79 : Int32) then (g_X12_otherAct_b54  h x0 x1 v2)
 else (if v2 = (109 : Int32) then ((jw_rc h 12 (some x0)).bind fun a39 =>
 jw_b2 (f_X12_move h a39 (x1 + (1 : Int32))) fun w41 h40 =>
 some (w41, h40))
 else (if v2 = (116 : Int32) then ((jw_rc h 12 (some x0)).bind fun a36 =>
 jw_b2 (f_X12_copyTo h a36 (x1 + (1 : Int32))) fun w38 h37 =>
 some (w38, h37))
 else (if v2 = (115 : Int32) then ((jw_rc h 12 (some x0)).bind fun a33 =>
 jw_b2 (f_X12_replaceAll h a33 x1) fun w35 h34 =>
 some (w35, h34))
 else (if v2 = (122 : Int32) then ((jw_rc h 12 (some x0)).bind fun a30 =>
 jw_b2 (f_X12_turnAll h a30 x1) fun w32 h31 =>
 some (w32, h31))
 else (if v2 = (114 : Int32) then ((jw_gR h 12 (some x0) 21).bind fun v25 =>
 (jw_ai h 20 v25 (x1 + (1 : Int32))).bind fun v26 =>
 (jw_rc h 12 (some x0)).bind fun a27 =>
 jw_b2 (f_X12_readFile h a27 (v26 - (48 : Int32))) fun w29 h28 =>
 some (w29, h28))
 else (if v2 = (119 : Int32) then ((jw_gR h 12 (some x0) 21).bind fun v20 =>
 (jw_ai h 20 v20 (x1 + (1 : Int32))).bind fun v21 =>
 (jw_rc h 12 (some x0)).bind fun a22 =>
 jw_b2 (f_X12_writeFile h a22 (v21 - (48 : Int32))) fun w24 h23 =>
 some (w24, h23))
 else ((jw_gR h 12 (some x0) 10).bind fun v13 =>
 (jw_gR h 12 (some x0) 21).bind fun v14 =>
 (jw_ai h 20 v14 (x1 + (1 : Int32))).bind fun v15 =>
 (jw_gR h 12 (some x0) 7).bind fun v16 =>
 (jw_gI h 12 (some x0) 43).bind fun v17 =>
 (jw_ai h 20 v16 (v17 - (1 : Int32))).bind fun v18 =>
 (jw_si h 20 v13 (v15 - (97 : Int32)) v18).bind fun h19 =>
 some ((0 : Int32), h19)))))))))))

set_option maxRecDepth 100000 in
set_option maxHeartbeats 4000000 in
theorem l_X12_otherAct_b38 {hi : jw_H} {h : jw_H} {t0 : Nat} {t1 : Int32} {t2 : Int32} {r : Int32} {h' : jw_H} (hq : g_X12_otherAct_b38  h t0 t1 t2 = some (r, h')) : jw_E 8 uX12_otherAct hi 38 [none, none, none] [.int t2, .int t1, .ref t0] h (.inl (some (.int r))) h' := by
  unfold g_X12_otherAct_b38 at hq
  obtain ⟨a1, ea1, hq⟩ := Option.bind_eq_some_iff.mp hq
  obtain ⟨eoa1, eta1⟩ := jw_rc_spec ea1
  obtain ⟨w3, h2, ew3, hq⟩ := jw_b2_spec hq
  refine jw_callV (As := [.int t1, .int t2]) (S := []) (a := a1) (v := some (.int w3)) dX12_otherAct_38 mt_X12_shift in_X12_shift se_X12_shift lk_X12_430 (c_X12_shift ew3) eta1 (by decide) rfl rfl (by decide) (Nat.le_of_ble_eq_true rfl) (by cases eoa1; rfl) ?_
  cases hq
  exact jw_iret (ty := .int) dX12_otherAct_41 rfl rfl

set_option maxRecDepth 100000 in
set_option maxHeartbeats 4000000 in
theorem l_X12_otherAct_b19 {hi : jw_H} {h : jw_H} {x0 : Nat} {x1 : Int32} {x2 : Int32} {r : Int32} {h' : jw_H} (hq : g_X12_otherAct_b19  h x0 x1 x2 = some (r, h')) : jw_E 8 uX12_otherAct hi 19 [some (.ref x0), some (.int x1), some (.int x2)] [] h (.inl (some (.int r))) h' := by
  unfold g_X12_otherAct_b19 at hq
  refine jw_aload_n dX12_otherAct_19 (o := (some x0)) rfl ?_
  refine jw_aload_n dX12_otherAct_20 (o := (some x0)) rfl ?_
  refine jw_iload_n dX12_otherAct_21 rfl ?_
  refine jw_iconst dX12_otherAct_22 (v := (1 : Int32)) (by decide) ?_
  refine jw_iadd dX12_otherAct_23 ?_
  obtain ⟨a1, ea1, hq⟩ := Option.bind_eq_some_iff.mp hq
  obtain ⟨eoa1, eta1⟩ := jw_rc_spec ea1
  obtain ⟨w3, h2, ew3, hq⟩ := jw_b2_spec hq
  refine jw_callV (As := [.int (x1 + (1 : Int32))]) (S := [.ref x0]) (a := a1) (v := some (.int w3)) dX12_otherAct_24 mt_X12_numberAt in_X12_numberAt se_X12_numberAt lk_X12_301 (c_X12_numberAt ew3) eta1 (by decide) rfl rfl (by decide) (Nat.le_of_ble_eq_true rfl) (by cases eoa1; rfl) ?_
  refine jw_iload_n dX12_otherAct_27 rfl ?_
  refine jw_bipush dX12_otherAct_28 (v := (62 : Int32)) (by decide) ?_
  rcases jw_if hq with ⟨c4, hq⟩ | ⟨c4, hq⟩
  · refine jw_icmp_ne_f (tgt := 37) dX12_otherAct_30 (by decide) c4 ?_
    refine jw_iconst dX12_otherAct_33 (v := (1 : Int32)) (by decide) ?_
    refine jw_goto (tgt := 38) dX12_otherAct_34 (by decide) ?_
    refine jw_forget [false, false, false] (L' := [none, none, none]) rfl ?_
    exact l_X12_otherAct_b38  hq
  · refine jw_icmp_ne_t (tgt := 37) dX12_otherAct_30 (by decide) c4 ?_
    refine jw_iconst dX12_otherAct_37 (v := (0 : Int32)) (by decide) ?_
    refine jw_forget [false, false, false] (L' := [none, none, none]) rfl ?_
    exact l_X12_otherAct_b38  hq

set_option maxRecDepth 100000 in
set_option maxHeartbeats 4000000 in
theorem l_X12_otherAct_b73 {hi : jw_H} {h : jw_H} {t0 : Nat} {t1 : Int32} {t2 : Int32} {r : Int32} {h' : jw_H} (hq : g_X12_otherAct_b73  h t0 t1 t2 = some (r, h')) : jw_E 8 uX12_otherAct hi 73 [none, none, none] [.int t2, .int t1, .ref t0] h (.inl (some (.int r))) h' := by
  unfold g_X12_otherAct_b73 at hq
  obtain ⟨a1, ea1, hq⟩ := Option.bind_eq_some_iff.mp hq
  obtain ⟨eoa1, eta1⟩ := jw_rc_spec ea1
  obtain ⟨w3, h2, ew3, hq⟩ := jw_b2_spec hq
  refine jw_callV (As := [.int t1, .int t2]) (S := []) (a := a1) (v := some (.int w3)) dX12_otherAct_73 mt_X12_sort in_X12_sort se_X12_sort lk_X12_434 (c_X12_sort ew3) eta1 (by decide) rfl rfl (by decide) (Nat.le_of_ble_eq_true rfl) (by cases eoa1; rfl) ?_
  cases hq
  exact jw_iret (ty := .int) dX12_otherAct_76 rfl rfl

set_option maxRecDepth 100000 in
set_option maxHeartbeats 4000000 in
theorem l_X12_otherAct_b54 {hi : jw_H} {h : jw_H} {x0 : Nat} {x1 : Int32} {x2 : Int32} {r : Int32} {h' : jw_H} (hq : g_X12_otherAct_b54  h x0 x1 x2 = some (r, h')) : jw_E 8 uX12_otherAct hi 54 [some (.ref x0), some (.int x1), some (.int x2)] [] h (.inl (some (.int r))) h' := by
  unfold g_X12_otherAct_b54 at hq
  refine jw_aload_n dX12_otherAct_54 (o := (some x0)) rfl ?_
  refine jw_aload_n dX12_otherAct_55 (o := (some x0)) rfl ?_
  refine jw_iload_n dX12_otherAct_56 rfl ?_
  refine jw_iconst dX12_otherAct_57 (v := (1 : Int32)) (by decide) ?_
  refine jw_iadd dX12_otherAct_58 ?_
  obtain ⟨a1, ea1, hq⟩ := Option.bind_eq_some_iff.mp hq
  obtain ⟨eoa1, eta1⟩ := jw_rc_spec ea1
  obtain ⟨w3, h2, ew3, hq⟩ := jw_b2_spec hq
  refine jw_callV (As := [.int (x1 + (1 : Int32))]) (S := [.ref x0]) (a := a1) (v := some (.int w3)) dX12_otherAct_59 mt_X12_numberAt in_X12_numberAt se_X12_numberAt lk_X12_301 (c_X12_numberAt ew3) eta1 (by decide) rfl rfl (by decide) (Nat.le_of_ble_eq_true rfl) (by cases eoa1; rfl) ?_
  refine jw_iload_n dX12_otherAct_62 rfl ?_
  refine jw_bipush dX12_otherAct_63 (v := (111 : Int32)) (by decide) ?_
  rcases jw_if hq with ⟨c4, hq⟩ | ⟨c4, hq⟩
  · refine jw_icmp_ne_f (tgt := 72) dX12_otherAct_65 (by decide) c4 ?_
    refine jw_iconst dX12_otherAct_68 (v := (1 : Int32)) (by decide) ?_
    refine jw_goto (tgt := 73) dX12_otherAct_69 (by decide) ?_
    refine jw_forget [false, false, false] (L' := [none, none, none]) rfl ?_
    exact l_X12_otherAct_b73  hq
  · refine jw_icmp_ne_t (tgt := 72) dX12_otherAct_65 (by decide) c4 ?_
    refine jw_iconst dX12_otherAct_72 (v := (0 : Int32)) (by decide) ?_
    refine jw_forget [false, false, false] (L' := [none, none, none]) rfl ?_
    exact l_X12_otherAct_b73  hq

set_option maxRecDepth 100000 in
set_option maxHeartbeats 4000000 in
theorem l_X12_otherAct {hi : jw_H} {h : jw_H} {x0 : Nat} {x1 : Int32} {r : Int32} {h' : jw_H} (hq : f_X12_otherAct  h x0 x1 = some (r, h')) : jw_E 8 uX12_otherAct hi 0 [some (.ref x0), some (.int x1), none] [] h (.inl (some (.int r))) h' := by
  unfold f_X12_otherAct at hq
  refine jw_aload_n dX12_otherAct_0 (o := (some x0)) rfl ?_
  obtain ⟨v1, ev1, hq⟩ := Option.bind_eq_some_iff.mp hq
  refine jw_getR (o := (some x0)) dX12_otherAct_1 ev1 fl_X12_44 rfl ?_
  refine jw_iload_n dX12_otherAct_4 rfl ?_
  obtain ⟨v2, ev2, hq⟩ := Option.bind_eq_some_iff.mp hq
  refine jw_iald (o := v1) dX12_otherAct_5 ev2 ?_
  refine jw_istore_n (L' := [some (.ref x0), some (.int x1), some (.int v2)]) dX12_otherAct_6 (Nat.le_of_ble_eq_true rfl) rfl ?_
  refine jw_iload_n dX12_otherAct_7 rfl ?_
  refine jw_bipush dX12_otherAct_8 (v := (62 : Int32)) (by decide) ?_
  rcases jw_if hq with ⟨c3, hq⟩ | ⟨c3, hq⟩
  · refine jw_icmp_eq_t (tgt := 19) dX12_otherAct_10 (by decide) c3 ?_
    exact l_X12_otherAct_b19  hq
  · refine jw_icmp_eq_f (tgt := 19) dX12_otherAct_10 (by decide) c3 ?_
    refine jw_iload_n dX12_otherAct_13 rfl ?_
    refine jw_bipush dX12_otherAct_14 (v := (60 : Int32)) (by decide) ?_
    rcases jw_if hq with ⟨c4, hq⟩ | ⟨c4, hq⟩
    · refine jw_icmp_ne_f (tgt := 42) dX12_otherAct_16 (by decide) c4 ?_
      exact l_X12_otherAct_b19  hq
    · refine jw_icmp_ne_t (tgt := 42) dX12_otherAct_16 (by decide) c4 ?_
      refine jw_iload_n dX12_otherAct_42 rfl ?_
      refine jw_bipush dX12_otherAct_43 (v := (111 : Int32)) (by decide) ?_
      rcases jw_if hq with ⟨c5, hq⟩ | ⟨c5, hq⟩
      · refine jw_icmp_eq_t (tgt := 54) dX12_otherAct_45 (by decide) c5 ?_
        exact l_X12_otherAct_b54  hq
      · refine jw_icmp_eq_f (tgt := 54) dX12_otherAct_45 (by decide) c5 ?_
        refine jw_iload_n dX12_otherAct_48 rfl ?_
        refine jw_bipush dX12_otherAct_49 (v := (79 : Int32)) (by decide) ?_
        rcases jw_if hq with ⟨c6, hq⟩ | ⟨c6, hq⟩
        · refine jw_icmp_ne_f (tgt := 77) dX12_otherAct_51 (by decide) c6 ?_
          exact l_X12_otherAct_b54  hq
        · refine jw_icmp_ne_t (tgt := 77) dX12_otherAct_51 (by decide) c6 ?_
          refine jw_iload_n dX12_otherAct_77 rfl ?_
          refine jw_bipush dX12_otherAct_78 (v := (109 : Int32)) (by decide) ?_
          rcases jw_if hq with ⟨c7, hq⟩ | ⟨c7, hq⟩
          · refine jw_icmp_ne_f (tgt := 91) dX12_otherAct_80 (by decide) c7 ?_
            refine jw_aload_n dX12_otherAct_83 (o := (some x0)) rfl ?_
            refine jw_iload_n dX12_otherAct_84 rfl ?_
            refine jw_iconst dX12_otherAct_85 (v := (1 : Int32)) (by decide) ?_
            refine jw_iadd dX12_otherAct_86 ?_
            obtain ⟨a39, ea39, hq⟩ := Option.bind_eq_some_iff.mp hq
            obtain ⟨eoa39, eta39⟩ := jw_rc_spec ea39
            obtain ⟨w41, h40, ew41, hq⟩ := jw_b2_spec hq
            refine jw_callV (As := [.int (x1 + (1 : Int32))]) (S := []) (a := a39) (v := some (.int w41)) dX12_otherAct_87 mt_X12_move in_X12_move se_X12_move lk_X12_437 (c_X12_move ew41) eta39 (by decide) rfl rfl (by decide) (Nat.le_of_ble_eq_true rfl) (by cases eoa39; rfl) ?_
            cases hq
            exact jw_iret (ty := .int) dX12_otherAct_90 rfl rfl
          · refine jw_icmp_ne_t (tgt := 91) dX12_otherAct_80 (by decide) c7 ?_
            refine jw_iload_n dX12_otherAct_91 rfl ?_
            refine jw_bipush dX12_otherAct_92 (v := (116 : Int32)) (by decide) ?_
            rcases jw_if hq with ⟨c8, hq⟩ | ⟨c8, hq⟩
            · refine jw_icmp_ne_f (tgt := 105) dX12_otherAct_94 (by decide) c8 ?_
              refine jw_aload_n dX12_otherAct_97 (o := (some x0)) rfl ?_
              refine jw_iload_n dX12_otherAct_98 rfl ?_
              refine jw_iconst dX12_otherAct_99 (v := (1 : Int32)) (by decide) ?_
              refine jw_iadd dX12_otherAct_100 ?_
              obtain ⟨a36, ea36, hq⟩ := Option.bind_eq_some_iff.mp hq
              obtain ⟨eoa36, eta36⟩ := jw_rc_spec ea36
              obtain ⟨w38, h37, ew38, hq⟩ := jw_b2_spec hq
              refine jw_callV (As := [.int (x1 + (1 : Int32))]) (S := []) (a := a36) (v := some (.int w38)) dX12_otherAct_101 mt_X12_copyTo in_X12_copyTo se_X12_copyTo lk_X12_440 (c_X12_copyTo ew38) eta36 (by decide) rfl rfl (by decide) (Nat.le_of_ble_eq_true rfl) (by cases eoa36; rfl) ?_
              cases hq
              exact jw_iret (ty := .int) dX12_otherAct_104 rfl rfl
            · refine jw_icmp_ne_t (tgt := 105) dX12_otherAct_94 (by decide) c8 ?_
              refine jw_iload_n dX12_otherAct_105 rfl ?_
              refine jw_bipush dX12_otherAct_106 (v := (115 : Int32)) (by decide) ?_
              rcases jw_if hq with ⟨c9, hq⟩ | ⟨c9, hq⟩
              · refine jw_icmp_ne_f (tgt := 117) dX12_otherAct_108 (by decide) c9 ?_
                refine jw_aload_n dX12_otherAct_111 (o := (some x0)) rfl ?_
                refine jw_iload_n dX12_otherAct_112 rfl ?_
                obtain ⟨a33, ea33, hq⟩ := Option.bind_eq_some_iff.mp hq
                obtain ⟨eoa33, eta33⟩ := jw_rc_spec ea33
                obtain ⟨w35, h34, ew35, hq⟩ := jw_b2_spec hq
                refine jw_callV (As := [.int x1]) (S := []) (a := a33) (v := some (.int w35)) dX12_otherAct_113 mt_X12_replaceAll in_X12_replaceAll se_X12_replaceAll lk_X12_443 (c_X12_replaceAll ew35) eta33 (by decide) rfl rfl (by decide) (Nat.le_of_ble_eq_true rfl) (by cases eoa33; rfl) ?_
                cases hq
                exact jw_iret (ty := .int) dX12_otherAct_116 rfl rfl
              · refine jw_icmp_ne_t (tgt := 117) dX12_otherAct_108 (by decide) c9 ?_
                refine jw_iload_n dX12_otherAct_117 rfl ?_
                refine jw_bipush dX12_otherAct_118 (v := (122 : Int32)) (by decide) ?_
                rcases jw_if hq with ⟨c10, hq⟩ | ⟨c10, hq⟩
                · refine jw_icmp_ne_f (tgt := 129) dX12_otherAct_120 (by decide) c10 ?_
                  refine jw_aload_n dX12_otherAct_123 (o := (some x0)) rfl ?_
                  refine jw_iload_n dX12_otherAct_124 rfl ?_
                  obtain ⟨a30, ea30, hq⟩ := Option.bind_eq_some_iff.mp hq
                  obtain ⟨eoa30, eta30⟩ := jw_rc_spec ea30
                  obtain ⟨w32, h31, ew32, hq⟩ := jw_b2_spec hq
                  refine jw_callV (As := [.int x1]) (S := []) (a := a30) (v := some (.int w32)) dX12_otherAct_125 mt_X12_turnAll in_X12_turnAll se_X12_turnAll lk_X12_446 (c_X12_turnAll ew32) eta30 (by decide) rfl rfl (by decide) (Nat.le_of_ble_eq_true rfl) (by cases eoa30; rfl) ?_
                  cases hq
                  exact jw_iret (ty := .int) dX12_otherAct_128 rfl rfl
                · refine jw_icmp_ne_t (tgt := 129) dX12_otherAct_120 (by decide) c10 ?_
                  refine jw_iload_n dX12_otherAct_129 rfl ?_
                  refine jw_bipush dX12_otherAct_130 (v := (114 : Int32)) (by decide) ?_
                  rcases jw_if hq with ⟨c11, hq⟩ | ⟨c11, hq⟩
                  · refine jw_icmp_ne_f (tgt := 151) dX12_otherAct_132 (by decide) c11 ?_
                    refine jw_aload_n dX12_otherAct_135 (o := (some x0)) rfl ?_
                    refine jw_aload_n dX12_otherAct_136 (o := (some x0)) rfl ?_
                    obtain ⟨v25, ev25, hq⟩ := Option.bind_eq_some_iff.mp hq
                    refine jw_getR (o := (some x0)) dX12_otherAct_137 ev25 fl_X12_44 rfl ?_
                    refine jw_iload_n dX12_otherAct_140 rfl ?_
                    refine jw_iconst dX12_otherAct_141 (v := (1 : Int32)) (by decide) ?_
                    refine jw_iadd dX12_otherAct_142 ?_
                    obtain ⟨v26, ev26, hq⟩ := Option.bind_eq_some_iff.mp hq
                    refine jw_iald (o := v25) dX12_otherAct_143 ev26 ?_
                    refine jw_bipush dX12_otherAct_144 (v := (48 : Int32)) (by decide) ?_
                    refine jw_isub dX12_otherAct_146 ?_
                    obtain ⟨a27, ea27, hq⟩ := Option.bind_eq_some_iff.mp hq
                    obtain ⟨eoa27, eta27⟩ := jw_rc_spec ea27
                    obtain ⟨w29, h28, ew29, hq⟩ := jw_b2_spec hq
                    refine jw_callV (As := [.int (v26 - (48 : Int32))]) (S := []) (a := a27) (v := some (.int w29)) dX12_otherAct_147 mt_X12_readFile in_X12_readFile se_X12_readFile lk_X12_449 (c_X12_readFile ew29) eta27 (by decide) rfl rfl (by decide) (Nat.le_of_ble_eq_true rfl) (by cases eoa27; rfl) ?_
                    cases hq
                    exact jw_iret (ty := .int) dX12_otherAct_150 rfl rfl
                  · refine jw_icmp_ne_t (tgt := 151) dX12_otherAct_132 (by decide) c11 ?_
                    refine jw_iload_n dX12_otherAct_151 rfl ?_
                    refine jw_bipush dX12_otherAct_152 (v := (119 : Int32)) (by decide) ?_
                    rcases jw_if hq with ⟨c12, hq⟩ | ⟨c12, hq⟩
                    · refine jw_icmp_ne_f (tgt := 173) dX12_otherAct_154 (by decide) c12 ?_
                      refine jw_aload_n dX12_otherAct_157 (o := (some x0)) rfl ?_
                      refine jw_aload_n dX12_otherAct_158 (o := (some x0)) rfl ?_
                      obtain ⟨v20, ev20, hq⟩ := Option.bind_eq_some_iff.mp hq
                      refine jw_getR (o := (some x0)) dX12_otherAct_159 ev20 fl_X12_44 rfl ?_
                      refine jw_iload_n dX12_otherAct_162 rfl ?_
                      refine jw_iconst dX12_otherAct_163 (v := (1 : Int32)) (by decide) ?_
                      refine jw_iadd dX12_otherAct_164 ?_
                      obtain ⟨v21, ev21, hq⟩ := Option.bind_eq_some_iff.mp hq
                      refine jw_iald (o := v20) dX12_otherAct_165 ev21 ?_
                      refine jw_bipush dX12_otherAct_166 (v := (48 : Int32)) (by decide) ?_
                      refine jw_isub dX12_otherAct_168 ?_
                      obtain ⟨a22, ea22, hq⟩ := Option.bind_eq_some_iff.mp hq
                      obtain ⟨eoa22, eta22⟩ := jw_rc_spec ea22
                      obtain ⟨w24, h23, ew24, hq⟩ := jw_b2_spec hq
                      refine jw_callV (As := [.int (v21 - (48 : Int32))]) (S := []) (a := a22) (v := some (.int w24)) dX12_otherAct_169 mt_X12_writeFile in_X12_writeFile se_X12_writeFile lk_X12_452 (c_X12_writeFile ew24) eta22 (by decide) rfl rfl (by decide) (Nat.le_of_ble_eq_true rfl) (by cases eoa22; rfl) ?_
                      cases hq
                      exact jw_iret (ty := .int) dX12_otherAct_172 rfl rfl
                    · refine jw_icmp_ne_t (tgt := 173) dX12_otherAct_154 (by decide) c12 ?_
                      refine jw_aload_n dX12_otherAct_173 (o := (some x0)) rfl ?_
                      obtain ⟨v13, ev13, hq⟩ := Option.bind_eq_some_iff.mp hq
                      refine jw_getR (o := (some x0)) dX12_otherAct_174 ev13 fl_X12_35 rfl ?_
                      refine jw_aload_n dX12_otherAct_177 (o := (some x0)) rfl ?_
                      obtain ⟨v14, ev14, hq⟩ := Option.bind_eq_some_iff.mp hq
                      refine jw_getR (o := (some x0)) dX12_otherAct_178 ev14 fl_X12_44 rfl ?_
                      refine jw_iload_n dX12_otherAct_181 rfl ?_
                      refine jw_iconst dX12_otherAct_182 (v := (1 : Int32)) (by decide) ?_
                      refine jw_iadd dX12_otherAct_183 ?_
                      obtain ⟨v15, ev15, hq⟩ := Option.bind_eq_some_iff.mp hq
                      refine jw_iald (o := v14) dX12_otherAct_184 ev15 ?_
                      refine jw_bipush dX12_otherAct_185 (v := (97 : Int32)) (by decide) ?_
                      refine jw_isub dX12_otherAct_187 ?_
                      refine jw_aload_n dX12_otherAct_188 (o := (some x0)) rfl ?_
                      obtain ⟨v16, ev16, hq⟩ := Option.bind_eq_some_iff.mp hq
                      refine jw_getR (o := (some x0)) dX12_otherAct_189 ev16 fl_X12_26 rfl ?_
                      refine jw_aload_n dX12_otherAct_192 (o := (some x0)) rfl ?_
                      obtain ⟨v17, ev17, hq⟩ := Option.bind_eq_some_iff.mp hq
                      refine jw_getI (o := (some x0)) dX12_otherAct_193 ev17 fl_X12_320 rfl ?_
                      refine jw_iconst dX12_otherAct_196 (v := (1 : Int32)) (by decide) ?_
                      refine jw_isub dX12_otherAct_197 ?_
                      obtain ⟨v18, ev18, hq⟩ := Option.bind_eq_some_iff.mp hq
                      refine jw_iald (o := v16) dX12_otherAct_198 ev18 ?_
                      obtain ⟨h19, eh19, hq⟩ := Option.bind_eq_some_iff.mp hq
                      refine jw_iast (o := v13) dX12_otherAct_199 eh19 ?_
                      refine jw_iconst dX12_otherAct_200 (v := (0 : Int32)) (by decide) ?_
                      cases hq
                      exact jw_iret (ty := .int) dX12_otherAct_201 rfl rfl

theorem c_X12_otherAct {h : jw_H} {x0 : Nat} {x1 : Int32} {r : Int32} {h' : jw_H} (hq : f_X12_otherAct h x0 x1 = some (r, h')) : jw_Con (Cond.code yX12_otherAct cX12_otherAct 3 (some .int)) yX12_otherAct 8 [.ref x0, .int x1] h (.inl (some (.int r))) h' :=
  jw_con false (plainFor_of_name (by decide +kernel)) (fun z => nomatch z) (by simp [jw_ent, jw_sl0_nil, jw_sl0_int, jw_sl0_long, jw_sl0_ref, jw_sl0_rf, jw_sl0_scr, List.replicate]) (by simp [jw_sl0_nil, jw_sl0_int, jw_sl0_long, jw_sl0_ref, jw_sl0_rf, jw_sl0_scr]) (l_X12_otherAct hq)


/-! X12_act -/
noncomputable def g_X12_act_b134 (h : jw_H) (t0 : Nat) (t1 : Int32) : Option (Int32 × jw_H) :=
 (jw_rc h 12 (some t0)).bind fun a1 =>
 jw_b2 (f_X12_print h a1 t1) fun w3 h2 =>
 some (w3, h2)

noncomputable def g_X12_act_b122 (h : jw_H) (x0 : Nat) (x2 : Int32) : Option (Int32 × jw_H) :=
 if x2 = (110 : Int32) then (g_X12_act_b134  h x0 (1 : Int32))
 else (g_X12_act_b134  h x0 (0 : Int32))

noncomputable def g_X12_act_b189 (h : jw_H) (t0 : Nat) (t1 : Int32) : Option (Int32 × jw_H) :=
 (jw_rc h 12 (some t0)).bind fun a1 =>
 jw_b2 (f_X12_hold h a1 t1) fun w3 h2 =>
 some (w3, h2)

noncomputable def g_X12_act_b174 (h : jw_H) (x0 : Nat) (x2 : Int32) : Option (Int32 × jw_H) :=
 if x2 = (104 : Int32) then (g_X12_act_b189  h x0 (0 : Int32))
 else ((jw_gI h 12 (some x0) 14).bind fun v2 =>
 g_X12_act_b189  h x0 v2)

noncomputable def f_X12_act (h : jw_H) (x0 : Nat) (x1 : Int32) : Option (Int32 × jw_H) :=
 (jw_gR h 12 (some x0) 21).bind fun v1 =>
 (jw_ai h 20 v1 x1).bind fun v2 =>
 if v2 = (97 : Int32) then ((jw_gI h 12 (some x0) 43).bind fun v56 =>
 (jw_rc h 12 (some x0)).bind fun a57 =>
 jw_b2 (f_X12_append h a57 (x1 + (1 : Int32)) v56) fun w59 h58 =>
 some (w59, h58))
 else (if v2 = (105 : Int32) then ((jw_gI h 12 (some x0) 42).bind fun v52 =>
 (jw_rc h 12 (some x0)).bind fun a53 =>
 jw_b2 (f_X12_append h a53 (x1 + (1 : Int32)) (v52 - (1 : Int32))) fun w55 h54 =>
 some (w55, h54))
 else (if v2 = (99 : Int32) then ((jw_rc h 12 (some x0)).bind fun a49 =>
 jw_b2 (f_X12_change h a49 (x1 + (1 : Int32))) fun w51 h50 =>
 some (w51, h50))
 else (if v2 = (100 : Int32) then ((jw_rc h 12 (some x0)).bind fun a46 =>
 jw_b2 (f_X12_delete h a46) fun w48 h47 =>
 some (w48, h47))
 else (if v2 = (106 : Int32) then ((jw_rc h 12 (some x0)).bind fun a43 =>
 jw_b2 (f_X12_join h a43) fun w45 h44 =>
 some (w45, h44))
 else (if v2 = (118 : Int32) then ((jw_rc h 12 (some x0)).bind fun a37 =>
 jw_b2 (f_X12_numberAt h a37 (x1 + (1 : Int32))) fun w39 h38 =>
 (jw_rc h38 12 (some x0)).bind fun a40 =>
 jw_b2 (f_X12_part h38 a40 w39) fun w42 h41 =>
 some (w42, h41))
 else (if v2 = (108 : Int32) then ((jw_rc h 12 (some x0)).bind fun a34 =>
 jw_b2 (f_X12_lessAlike h a34) fun w36 h35 =>
 some (w36, h35))
 else (if v2 = (112 : Int32) then (g_X12_act_b122  h x0 v2)
 else (if v2 = (110 : Int32) then (g_X12_act_b122  h x0 v2)
 else (if v2 = (61 : Int32) then ((jw_pI h 12 (some x0) 20 (0 : Int32)).bind fun h26 =>
 (jw_gI h26 12 (some x0) 43).bind fun v27 =>
 (jw_rc h26 12 (some x0)).bind fun a28 =>
 jw_b2 (f_X12_makesNumber h26 a28 v27) fun w30 h29 =>
 (jw_rc h29 12 (some x0)).bind fun a31 =>
 jw_b2 (f_X12_tells h29 a31) fun w33 h32 =>
 some (w33, h32))
 else (if v2 = (104 : Int32) then (g_X12_act_b174  h x0 v2)
 else (if v2 = (72 : Int32) then (g_X12_act_b174  h x0 v2)
 else (if v2 = (117 : Int32) then ((jw_rc h 12 (some x0)).bind fun a23 =>
 jw_b2 (f_X12_bringHeld h a23) fun w25 h24 =>
 some (w25, h24))
 else (if v2 = (101 : Int32) then ((jw_rc h 12 (some x0)).bind fun a20 =>
 jw_b2 (f_X12_exchange h a20) fun w22 h21 =>
 some (w22, h21))
 else ((jw_rc h 12 (some x0)).bind fun a17 =>
 jw_b2 (f_X12_otherAct h a17 x1) fun w19 h18 =>
 some (w19, h18)))))))))))))))

set_option maxRecDepth 100000 in
set_option maxHeartbeats 4000000 in
theorem l_X12_act_b134 {hi : jw_H} {h : jw_H} {t0 : Nat} {t1 : Int32} {r : Int32} {h' : jw_H} (hq : g_X12_act_b134  h t0 t1 = some (r, h')) : jw_E 9 uX12_act hi 134 [none, none, none] [.int t1, .ref t0] h (.inl (some (.int r))) h' := by
  unfold g_X12_act_b134 at hq
  obtain ⟨a1, ea1, hq⟩ := Option.bind_eq_some_iff.mp hq
  obtain ⟨eoa1, eta1⟩ := jw_rc_spec ea1
  obtain ⟨w3, h2, ew3, hq⟩ := jw_b2_spec hq
  refine jw_callV (As := [.int t1]) (S := []) (a := a1) (v := some (.int w3)) dX12_act_134 mt_X12_print in_X12_print se_X12_print lk_X12_415 (c_X12_print ew3) eta1 (by decide) rfl rfl (by decide) (Nat.le_of_ble_eq_true rfl) (by cases eoa1; rfl) ?_
  cases hq
  exact jw_iret (ty := .int) dX12_act_137 rfl rfl

set_option maxRecDepth 100000 in
set_option maxHeartbeats 4000000 in
theorem l_X12_act_b122 {hi : jw_H} {h : jw_H} {x0 : Nat} {x2 : Int32} {r : Int32} {h' : jw_H} (hq : g_X12_act_b122  h x0 x2 = some (r, h')) : jw_E 9 uX12_act hi 122 [some (.ref x0), none, some (.int x2)] [] h (.inl (some (.int r))) h' := by
  unfold g_X12_act_b122 at hq
  refine jw_aload_n dX12_act_122 (o := (some x0)) rfl ?_
  refine jw_iload_n dX12_act_123 rfl ?_
  refine jw_bipush dX12_act_124 (v := (110 : Int32)) (by decide) ?_
  rcases jw_if hq with ⟨c1, hq⟩ | ⟨c1, hq⟩
  · refine jw_icmp_ne_f (tgt := 133) dX12_act_126 (by decide) c1 ?_
    refine jw_iconst dX12_act_129 (v := (1 : Int32)) (by decide) ?_
    refine jw_goto (tgt := 134) dX12_act_130 (by decide) ?_
    refine jw_forget [false, true, false] (L' := [none, none, none]) rfl ?_
    exact l_X12_act_b134  hq
  · refine jw_icmp_ne_t (tgt := 133) dX12_act_126 (by decide) c1 ?_
    refine jw_iconst dX12_act_133 (v := (0 : Int32)) (by decide) ?_
    refine jw_forget [false, true, false] (L' := [none, none, none]) rfl ?_
    exact l_X12_act_b134  hq

set_option maxRecDepth 100000 in
set_option maxHeartbeats 4000000 in
theorem l_X12_act_b189 {hi : jw_H} {h : jw_H} {t0 : Nat} {t1 : Int32} {r : Int32} {h' : jw_H} (hq : g_X12_act_b189  h t0 t1 = some (r, h')) : jw_E 9 uX12_act hi 189 [none, none, none] [.int t1, .ref t0] h (.inl (some (.int r))) h' := by
  unfold g_X12_act_b189 at hq
  obtain ⟨a1, ea1, hq⟩ := Option.bind_eq_some_iff.mp hq
  obtain ⟨eoa1, eta1⟩ := jw_rc_spec ea1
  obtain ⟨w3, h2, ew3, hq⟩ := jw_b2_spec hq
  refine jw_callV (As := [.int t1]) (S := []) (a := a1) (v := some (.int w3)) dX12_act_189 mt_X12_hold in_X12_hold se_X12_hold lk_X12_418 (c_X12_hold ew3) eta1 (by decide) rfl rfl (by decide) (Nat.le_of_ble_eq_true rfl) (by cases eoa1; rfl) ?_
  cases hq
  exact jw_iret (ty := .int) dX12_act_192 rfl rfl

set_option maxRecDepth 100000 in
set_option maxHeartbeats 4000000 in
theorem l_X12_act_b174 {hi : jw_H} {h : jw_H} {x0 : Nat} {x2 : Int32} {r : Int32} {h' : jw_H} (hq : g_X12_act_b174  h x0 x2 = some (r, h')) : jw_E 9 uX12_act hi 174 [some (.ref x0), none, some (.int x2)] [] h (.inl (some (.int r))) h' := by
  unfold g_X12_act_b174 at hq
  refine jw_aload_n dX12_act_174 (o := (some x0)) rfl ?_
  refine jw_iload_n dX12_act_175 rfl ?_
  refine jw_bipush dX12_act_176 (v := (104 : Int32)) (by decide) ?_
  rcases jw_if hq with ⟨c1, hq⟩ | ⟨c1, hq⟩
  · refine jw_icmp_ne_f (tgt := 185) dX12_act_178 (by decide) c1 ?_
    refine jw_iconst dX12_act_181 (v := (0 : Int32)) (by decide) ?_
    refine jw_goto (tgt := 189) dX12_act_182 (by decide) ?_
    refine jw_forget [false, true, false] (L' := [none, none, none]) rfl ?_
    exact l_X12_act_b189  hq
  · refine jw_icmp_ne_t (tgt := 185) dX12_act_178 (by decide) c1 ?_
    refine jw_aload_n dX12_act_185 (o := (some x0)) rfl ?_
    obtain ⟨v2, ev2, hq⟩ := Option.bind_eq_some_iff.mp hq
    refine jw_getI (o := (some x0)) dX12_act_186 ev2 fl_X12_366 rfl ?_
    refine jw_forget [false, true, false] (L' := [none, none, none]) rfl ?_
    exact l_X12_act_b189  hq

set_option maxRecDepth 100000 in
set_option maxHeartbeats 4000000 in
theorem l_X12_act {hi : jw_H} {h : jw_H} {x0 : Nat} {x1 : Int32} {r : Int32} {h' : jw_H} (hq : f_X12_act  h x0 x1 = some (r, h')) : jw_E 9 uX12_act hi 0 [some (.ref x0), some (.int x1), none] [] h (.inl (some (.int r))) h' := by
  unfold f_X12_act at hq
  refine jw_aload_n dX12_act_0 (o := (some x0)) rfl ?_
  obtain ⟨v1, ev1, hq⟩ := Option.bind_eq_some_iff.mp hq
  refine jw_getR (o := (some x0)) dX12_act_1 ev1 fl_X12_44 rfl ?_
  refine jw_iload_n dX12_act_4 rfl ?_
  obtain ⟨v2, ev2, hq⟩ := Option.bind_eq_some_iff.mp hq
  refine jw_iald (o := v1) dX12_act_5 ev2 ?_
  refine jw_istore_n (L' := [some (.ref x0), some (.int x1), some (.int v2)]) dX12_act_6 (Nat.le_of_ble_eq_true rfl) rfl ?_
  refine jw_iload_n dX12_act_7 rfl ?_
  refine jw_bipush dX12_act_8 (v := (97 : Int32)) (by decide) ?_
  rcases jw_if hq with ⟨c3, hq⟩ | ⟨c3, hq⟩
  · refine jw_icmp_ne_f (tgt := 25) dX12_act_10 (by decide) c3 ?_
    refine jw_aload_n dX12_act_13 (o := (some x0)) rfl ?_
    refine jw_iload_n dX12_act_14 rfl ?_
    refine jw_iconst dX12_act_15 (v := (1 : Int32)) (by decide) ?_
    refine jw_iadd dX12_act_16 ?_
    refine jw_aload_n dX12_act_17 (o := (some x0)) rfl ?_
    obtain ⟨v56, ev56, hq⟩ := Option.bind_eq_some_iff.mp hq
    refine jw_getI (o := (some x0)) dX12_act_18 ev56 fl_X12_320 rfl ?_
    obtain ⟨a57, ea57, hq⟩ := Option.bind_eq_some_iff.mp hq
    obtain ⟨eoa57, eta57⟩ := jw_rc_spec ea57
    obtain ⟨w59, h58, ew59, hq⟩ := jw_b2_spec hq
    refine jw_callV (As := [.int (x1 + (1 : Int32)), .int v56]) (S := []) (a := a57) (v := some (.int w59)) dX12_act_21 mt_X12_append in_X12_append se_X12_append lk_X12_397 (c_X12_append ew59) eta57 (by decide) rfl rfl (by decide) (Nat.le_of_ble_eq_true rfl) (by cases eoa57; rfl) ?_
    cases hq
    exact jw_iret (ty := .int) dX12_act_24 rfl rfl
  · refine jw_icmp_ne_t (tgt := 25) dX12_act_10 (by decide) c3 ?_
    refine jw_iload_n dX12_act_25 rfl ?_
    refine jw_bipush dX12_act_26 (v := (105 : Int32)) (by decide) ?_
    rcases jw_if hq with ⟨c4, hq⟩ | ⟨c4, hq⟩
    · refine jw_icmp_ne_f (tgt := 45) dX12_act_28 (by decide) c4 ?_
      refine jw_aload_n dX12_act_31 (o := (some x0)) rfl ?_
      refine jw_iload_n dX12_act_32 rfl ?_
      refine jw_iconst dX12_act_33 (v := (1 : Int32)) (by decide) ?_
      refine jw_iadd dX12_act_34 ?_
      refine jw_aload_n dX12_act_35 (o := (some x0)) rfl ?_
      obtain ⟨v52, ev52, hq⟩ := Option.bind_eq_some_iff.mp hq
      refine jw_getI (o := (some x0)) dX12_act_36 ev52 fl_X12_317 rfl ?_
      refine jw_iconst dX12_act_39 (v := (1 : Int32)) (by decide) ?_
      refine jw_isub dX12_act_40 ?_
      obtain ⟨a53, ea53, hq⟩ := Option.bind_eq_some_iff.mp hq
      obtain ⟨eoa53, eta53⟩ := jw_rc_spec ea53
      obtain ⟨w55, h54, ew55, hq⟩ := jw_b2_spec hq
      refine jw_callV (As := [.int (x1 + (1 : Int32)), .int (v52 - (1 : Int32))]) (S := []) (a := a53) (v := some (.int w55)) dX12_act_41 mt_X12_append in_X12_append se_X12_append lk_X12_397 (c_X12_append ew55) eta53 (by decide) rfl rfl (by decide) (Nat.le_of_ble_eq_true rfl) (by cases eoa53; rfl) ?_
      cases hq
      exact jw_iret (ty := .int) dX12_act_44 rfl rfl
    · refine jw_icmp_ne_t (tgt := 45) dX12_act_28 (by decide) c4 ?_
      refine jw_iload_n dX12_act_45 rfl ?_
      refine jw_bipush dX12_act_46 (v := (99 : Int32)) (by decide) ?_
      rcases jw_if hq with ⟨c5, hq⟩ | ⟨c5, hq⟩
      · refine jw_icmp_ne_f (tgt := 59) dX12_act_48 (by decide) c5 ?_
        refine jw_aload_n dX12_act_51 (o := (some x0)) rfl ?_
        refine jw_iload_n dX12_act_52 rfl ?_
        refine jw_iconst dX12_act_53 (v := (1 : Int32)) (by decide) ?_
        refine jw_iadd dX12_act_54 ?_
        obtain ⟨a49, ea49, hq⟩ := Option.bind_eq_some_iff.mp hq
        obtain ⟨eoa49, eta49⟩ := jw_rc_spec ea49
        obtain ⟨w51, h50, ew51, hq⟩ := jw_b2_spec hq
        refine jw_callV (As := [.int (x1 + (1 : Int32))]) (S := []) (a := a49) (v := some (.int w51)) dX12_act_55 mt_X12_change in_X12_change se_X12_change lk_X12_400 (c_X12_change ew51) eta49 (by decide) rfl rfl (by decide) (Nat.le_of_ble_eq_true rfl) (by cases eoa49; rfl) ?_
        cases hq
        exact jw_iret (ty := .int) dX12_act_58 rfl rfl
      · refine jw_icmp_ne_t (tgt := 59) dX12_act_48 (by decide) c5 ?_
        refine jw_iload_n dX12_act_59 rfl ?_
        refine jw_bipush dX12_act_60 (v := (100 : Int32)) (by decide) ?_
        rcases jw_if hq with ⟨c6, hq⟩ | ⟨c6, hq⟩
        · refine jw_icmp_ne_f (tgt := 70) dX12_act_62 (by decide) c6 ?_
          refine jw_aload_n dX12_act_65 (o := (some x0)) rfl ?_
          obtain ⟨a46, ea46, hq⟩ := Option.bind_eq_some_iff.mp hq
          obtain ⟨eoa46, eta46⟩ := jw_rc_spec ea46
          obtain ⟨w48, h47, ew48, hq⟩ := jw_b2_spec hq
          refine jw_callV (As := []) (S := []) (a := a46) (v := some (.int w48)) dX12_act_66 mt_X12_delete in_X12_delete se_X12_delete lk_X12_403 (c_X12_delete ew48) eta46 (by decide) rfl rfl (by decide) (Nat.le_of_ble_eq_true rfl) (by cases eoa46; rfl) ?_
          cases hq
          exact jw_iret (ty := .int) dX12_act_69 rfl rfl
        · refine jw_icmp_ne_t (tgt := 70) dX12_act_62 (by decide) c6 ?_
          refine jw_iload_n dX12_act_70 rfl ?_
          refine jw_bipush dX12_act_71 (v := (106 : Int32)) (by decide) ?_
          rcases jw_if hq with ⟨c7, hq⟩ | ⟨c7, hq⟩
          · refine jw_icmp_ne_f (tgt := 81) dX12_act_73 (by decide) c7 ?_
            refine jw_aload_n dX12_act_76 (o := (some x0)) rfl ?_
            obtain ⟨a43, ea43, hq⟩ := Option.bind_eq_some_iff.mp hq
            obtain ⟨eoa43, eta43⟩ := jw_rc_spec ea43
            obtain ⟨w45, h44, ew45, hq⟩ := jw_b2_spec hq
            refine jw_callV (As := []) (S := []) (a := a43) (v := some (.int w45)) dX12_act_77 mt_X12_join in_X12_join se_X12_join lk_X12_406 (c_X12_join ew45) eta43 (by decide) rfl rfl (by decide) (Nat.le_of_ble_eq_true rfl) (by cases eoa43; rfl) ?_
            cases hq
            exact jw_iret (ty := .int) dX12_act_80 rfl rfl
          · refine jw_icmp_ne_t (tgt := 81) dX12_act_73 (by decide) c7 ?_
            refine jw_iload_n dX12_act_81 rfl ?_
            refine jw_bipush dX12_act_82 (v := (118 : Int32)) (by decide) ?_
            rcases jw_if hq with ⟨c8, hq⟩ | ⟨c8, hq⟩
            · refine jw_icmp_ne_f (tgt := 99) dX12_act_84 (by decide) c8 ?_
              refine jw_aload_n dX12_act_87 (o := (some x0)) rfl ?_
              refine jw_aload_n dX12_act_88 (o := (some x0)) rfl ?_
              refine jw_iload_n dX12_act_89 rfl ?_
              refine jw_iconst dX12_act_90 (v := (1 : Int32)) (by decide) ?_
              refine jw_iadd dX12_act_91 ?_
              obtain ⟨a37, ea37, hq⟩ := Option.bind_eq_some_iff.mp hq
              obtain ⟨eoa37, eta37⟩ := jw_rc_spec ea37
              obtain ⟨w39, h38, ew39, hq⟩ := jw_b2_spec hq
              refine jw_callV (As := [.int (x1 + (1 : Int32))]) (S := [.ref x0]) (a := a37) (v := some (.int w39)) dX12_act_92 mt_X12_numberAt in_X12_numberAt se_X12_numberAt lk_X12_301 (c_X12_numberAt ew39) eta37 (by decide) rfl rfl (by decide) (Nat.le_of_ble_eq_true rfl) (by cases eoa37; rfl) ?_
              obtain ⟨a40, ea40, hq⟩ := Option.bind_eq_some_iff.mp hq
              obtain ⟨eoa40, eta40⟩ := jw_rc_spec ea40
              obtain ⟨w42, h41, ew42, hq⟩ := jw_b2_spec hq
              refine jw_callV (As := [.int w39]) (S := []) (a := a40) (v := some (.int w42)) dX12_act_95 mt_X12_part in_X12_part se_X12_part lk_X12_409 (c_X12_part ew42) eta40 (by decide) rfl rfl (by decide) (Nat.le_of_ble_eq_true rfl) (by cases eoa40; rfl) ?_
              cases hq
              exact jw_iret (ty := .int) dX12_act_98 rfl rfl
            · refine jw_icmp_ne_t (tgt := 99) dX12_act_84 (by decide) c8 ?_
              refine jw_iload_n dX12_act_99 rfl ?_
              refine jw_bipush dX12_act_100 (v := (108 : Int32)) (by decide) ?_
              rcases jw_if hq with ⟨c9, hq⟩ | ⟨c9, hq⟩
              · refine jw_icmp_ne_f (tgt := 110) dX12_act_102 (by decide) c9 ?_
                refine jw_aload_n dX12_act_105 (o := (some x0)) rfl ?_
                obtain ⟨a34, ea34, hq⟩ := Option.bind_eq_some_iff.mp hq
                obtain ⟨eoa34, eta34⟩ := jw_rc_spec ea34
                obtain ⟨w36, h35, ew36, hq⟩ := jw_b2_spec hq
                refine jw_callV (As := []) (S := []) (a := a34) (v := some (.int w36)) dX12_act_106 mt_X12_lessAlike in_X12_lessAlike se_X12_lessAlike lk_X12_412 (c_X12_lessAlike ew36) eta34 (by decide) rfl rfl (by decide) (Nat.le_of_ble_eq_true rfl) (by cases eoa34; rfl) ?_
                cases hq
                exact jw_iret (ty := .int) dX12_act_109 rfl rfl
              · refine jw_icmp_ne_t (tgt := 110) dX12_act_102 (by decide) c9 ?_
                refine jw_iload_n dX12_act_110 rfl ?_
                refine jw_bipush dX12_act_111 (v := (112 : Int32)) (by decide) ?_
                rcases jw_if hq with ⟨c10, hq⟩ | ⟨c10, hq⟩
                · refine jw_icmp_eq_t (tgt := 122) dX12_act_113 (by decide) c10 ?_
                  refine jw_forget [true, false, true] (L' := [some (.ref x0), none, some (.int v2)]) rfl ?_
                  exact l_X12_act_b122  hq
                · refine jw_icmp_eq_f (tgt := 122) dX12_act_113 (by decide) c10 ?_
                  refine jw_iload_n dX12_act_116 rfl ?_
                  refine jw_bipush dX12_act_117 (v := (110 : Int32)) (by decide) ?_
                  rcases jw_if hq with ⟨c11, hq⟩ | ⟨c11, hq⟩
                  · refine jw_icmp_ne_f (tgt := 138) dX12_act_119 (by decide) c11 ?_
                    refine jw_forget [true, false, true] (L' := [some (.ref x0), none, some (.int v2)]) rfl ?_
                    exact l_X12_act_b122  hq
                  · refine jw_icmp_ne_t (tgt := 138) dX12_act_119 (by decide) c11 ?_
                    refine jw_iload_n dX12_act_138 rfl ?_
                    refine jw_bipush dX12_act_139 (v := (61 : Int32)) (by decide) ?_
                    rcases jw_if hq with ⟨c12, hq⟩ | ⟨c12, hq⟩
                    · refine jw_icmp_ne_f (tgt := 162) dX12_act_141 (by decide) c12 ?_
                      refine jw_aload_n dX12_act_144 (o := (some x0)) rfl ?_
                      refine jw_iconst dX12_act_145 (v := (0 : Int32)) (by decide) ?_
                      obtain ⟨h26, eh26, hq⟩ := Option.bind_eq_some_iff.mp hq
                      refine jw_putI (o := (some x0)) dX12_act_146 eh26 fl_X12_117 rfl rfl ?_
                      refine jw_aload_n dX12_act_149 (o := (some x0)) rfl ?_
                      refine jw_aload_n dX12_act_150 (o := (some x0)) rfl ?_
                      obtain ⟨v27, ev27, hq⟩ := Option.bind_eq_some_iff.mp hq
                      refine jw_getI (o := (some x0)) dX12_act_151 ev27 fl_X12_320 rfl ?_
                      obtain ⟨a28, ea28, hq⟩ := Option.bind_eq_some_iff.mp hq
                      obtain ⟨eoa28, eta28⟩ := jw_rc_spec ea28
                      obtain ⟨w30, h29, ew30, hq⟩ := jw_b2_spec hq
                      refine jw_callV (As := [.int v27]) (S := []) (a := a28) (v := none) dX12_act_154 mt_X12_makesNumber in_X12_makesNumber se_X12_makesNumber lk_X12_360 (c_X12_makesNumber ew30) eta28 (by decide) rfl rfl (by decide) (Nat.le_of_ble_eq_true rfl) (by cases eoa28; rfl) ?_
                      refine jw_aload_n dX12_act_157 (o := (some x0)) rfl ?_
                      obtain ⟨a31, ea31, hq⟩ := Option.bind_eq_some_iff.mp hq
                      obtain ⟨eoa31, eta31⟩ := jw_rc_spec ea31
                      obtain ⟨w33, h32, ew33, hq⟩ := jw_b2_spec hq
                      refine jw_callV (As := []) (S := []) (a := a31) (v := some (.int w33)) dX12_act_158 mt_X12_tells in_X12_tells se_X12_tells lk_X12_363 (c_X12_tells ew33) eta31 (by decide) rfl rfl (by decide) (Nat.le_of_ble_eq_true rfl) (by cases eoa31; rfl) ?_
                      cases hq
                      exact jw_iret (ty := .int) dX12_act_161 rfl rfl
                    · refine jw_icmp_ne_t (tgt := 162) dX12_act_141 (by decide) c12 ?_
                      refine jw_iload_n dX12_act_162 rfl ?_
                      refine jw_bipush dX12_act_163 (v := (104 : Int32)) (by decide) ?_
                      rcases jw_if hq with ⟨c13, hq⟩ | ⟨c13, hq⟩
                      · refine jw_icmp_eq_t (tgt := 174) dX12_act_165 (by decide) c13 ?_
                        refine jw_forget [true, false, true] (L' := [some (.ref x0), none, some (.int v2)]) rfl ?_
                        exact l_X12_act_b174  hq
                      · refine jw_icmp_eq_f (tgt := 174) dX12_act_165 (by decide) c13 ?_
                        refine jw_iload_n dX12_act_168 rfl ?_
                        refine jw_bipush dX12_act_169 (v := (72 : Int32)) (by decide) ?_
                        rcases jw_if hq with ⟨c14, hq⟩ | ⟨c14, hq⟩
                        · refine jw_icmp_ne_f (tgt := 193) dX12_act_171 (by decide) c14 ?_
                          refine jw_forget [true, false, true] (L' := [some (.ref x0), none, some (.int v2)]) rfl ?_
                          exact l_X12_act_b174  hq
                        · refine jw_icmp_ne_t (tgt := 193) dX12_act_171 (by decide) c14 ?_
                          refine jw_iload_n dX12_act_193 rfl ?_
                          refine jw_bipush dX12_act_194 (v := (117 : Int32)) (by decide) ?_
                          rcases jw_if hq with ⟨c15, hq⟩ | ⟨c15, hq⟩
                          · refine jw_icmp_ne_f (tgt := 204) dX12_act_196 (by decide) c15 ?_
                            refine jw_aload_n dX12_act_199 (o := (some x0)) rfl ?_
                            obtain ⟨a23, ea23, hq⟩ := Option.bind_eq_some_iff.mp hq
                            obtain ⟨eoa23, eta23⟩ := jw_rc_spec ea23
                            obtain ⟨w25, h24, ew25, hq⟩ := jw_b2_spec hq
                            refine jw_callV (As := []) (S := []) (a := a23) (v := some (.int w25)) dX12_act_200 mt_X12_bringHeld in_X12_bringHeld se_X12_bringHeld lk_X12_421 (c_X12_bringHeld ew25) eta23 (by decide) rfl rfl (by decide) (Nat.le_of_ble_eq_true rfl) (by cases eoa23; rfl) ?_
                            cases hq
                            exact jw_iret (ty := .int) dX12_act_203 rfl rfl
                          · refine jw_icmp_ne_t (tgt := 204) dX12_act_196 (by decide) c15 ?_
                            refine jw_iload_n dX12_act_204 rfl ?_
                            refine jw_bipush dX12_act_205 (v := (101 : Int32)) (by decide) ?_
                            rcases jw_if hq with ⟨c16, hq⟩ | ⟨c16, hq⟩
                            · refine jw_icmp_ne_f (tgt := 215) dX12_act_207 (by decide) c16 ?_
                              refine jw_aload_n dX12_act_210 (o := (some x0)) rfl ?_
                              obtain ⟨a20, ea20, hq⟩ := Option.bind_eq_some_iff.mp hq
                              obtain ⟨eoa20, eta20⟩ := jw_rc_spec ea20
                              obtain ⟨w22, h21, ew22, hq⟩ := jw_b2_spec hq
                              refine jw_callV (As := []) (S := []) (a := a20) (v := some (.int w22)) dX12_act_211 mt_X12_exchange in_X12_exchange se_X12_exchange lk_X12_424 (c_X12_exchange ew22) eta20 (by decide) rfl rfl (by decide) (Nat.le_of_ble_eq_true rfl) (by cases eoa20; rfl) ?_
                              cases hq
                              exact jw_iret (ty := .int) dX12_act_214 rfl rfl
                            · refine jw_icmp_ne_t (tgt := 215) dX12_act_207 (by decide) c16 ?_
                              refine jw_aload_n dX12_act_215 (o := (some x0)) rfl ?_
                              refine jw_iload_n dX12_act_216 rfl ?_
                              obtain ⟨a17, ea17, hq⟩ := Option.bind_eq_some_iff.mp hq
                              obtain ⟨eoa17, eta17⟩ := jw_rc_spec ea17
                              obtain ⟨w19, h18, ew19, hq⟩ := jw_b2_spec hq
                              refine jw_callV (As := [.int x1]) (S := []) (a := a17) (v := some (.int w19)) dX12_act_217 mt_X12_otherAct in_X12_otherAct se_X12_otherAct lk_X12_427 (c_X12_otherAct ew19) eta17 (by decide) rfl rfl (by decide) (Nat.le_of_ble_eq_true rfl) (by cases eoa17; rfl) ?_
                              cases hq
                              exact jw_iret (ty := .int) dX12_act_220 rfl rfl

theorem c_X12_act {h : jw_H} {x0 : Nat} {x1 : Int32} {r : Int32} {h' : jw_H} (hq : f_X12_act h x0 x1 = some (r, h')) : jw_Con (Cond.code yX12_act cX12_act 3 (some .int)) yX12_act 9 [.ref x0, .int x1] h (.inl (some (.int r))) h' :=
  jw_con false (plainFor_of_name (by decide +kernel)) (fun z => nomatch z) (by simp [jw_ent, jw_sl0_nil, jw_sl0_int, jw_sl0_long, jw_sl0_ref, jw_sl0_rf, jw_sl0_scr, List.replicate]) (by simp [jw_sl0_nil, jw_sl0_int, jw_sl0_long, jw_sl0_ref, jw_sl0_rf, jw_sl0_scr]) (l_X12_act hq)


/-! X12_doInner -/
noncomputable def g_X12_doInner_b50 (h : jw_H) (t0 : Int32) : Option (Int32 × jw_H) :=
 some (t0, h)

noncomputable def f_X12_doInner (h : jw_H) (x0 : Nat) (x1 : Int32) : Option (Int32 × jw_H) :=
 (jw_gI h 12 (some x0) 45).bind fun v1 =>
 if v1 = (60 : Int32) then (some ((7 : Int32), h))
 else ((jw_gI h 12 (some x0) 45).bind fun v3 =>
 (jw_pI h 12 (some x0) 45 (v3 + (1 : Int32))).bind fun h4 =>
 (jw_rc h4 12 (some x0)).bind fun a5 =>
 jw_b2 (f_X12_readWhere h4 a5 x1) fun w7 h6 =>
 (jw_gI h6 12 (some x0) 30).bind fun v8 =>
 (jw_rc h6 12 (some x0)).bind fun a9 =>
 jw_b2 (f_X12_range h6 a9) fun w11 h10 =>
 if w11 ≤ 0 then ((jw_rc h10 12 (some x0)).bind fun a13 =>
 jw_b2 (f_X12_act h10 a13 v8) fun w15 h14 =>
 g_X12_doInner_b50  h14 w15)
 else (g_X12_doInner_b50  h10 w11))

set_option maxRecDepth 100000 in
set_option maxHeartbeats 4000000 in
theorem l_X12_doInner_b50 {hi : jw_H} {h : jw_H} {t0 : Int32} {r : Int32} {h' : jw_H} (hq : g_X12_doInner_b50  h t0 = some (r, h')) : jw_E 11 uX12_doInner hi 50 [none, none, none, none] [.int t0] h (.inl (some (.int r))) h' := by
  unfold g_X12_doInner_b50 at hq
  cases hq
  exact jw_iret (ty := .int) dX12_doInner_50 rfl rfl

set_option maxRecDepth 100000 in
set_option maxHeartbeats 4000000 in
theorem l_X12_doInner {hi : jw_H} {h : jw_H} {x0 : Nat} {x1 : Int32} {r : Int32} {h' : jw_H} (hq : f_X12_doInner  h x0 x1 = some (r, h')) : jw_E 11 uX12_doInner hi 0 [some (.ref x0), some (.int x1), none, none] [] h (.inl (some (.int r))) h' := by
  unfold f_X12_doInner at hq
  refine jw_aload_n dX12_doInner_0 (o := (some x0)) rfl ?_
  obtain ⟨v1, ev1, hq⟩ := Option.bind_eq_some_iff.mp hq
  refine jw_getI (o := (some x0)) dX12_doInner_1 ev1 fl_X12_455 rfl ?_
  refine jw_bipush dX12_doInner_4 (v := (60 : Int32)) (by decide) ?_
  rcases jw_if hq with ⟨c2, hq⟩ | ⟨c2, hq⟩
  · refine jw_icmp_ne_f (tgt := 12) dX12_doInner_6 (by decide) c2 ?_
    refine jw_bipush dX12_doInner_9 (v := (7 : Int32)) (by decide) ?_
    cases hq
    exact jw_iret (ty := .int) dX12_doInner_11 rfl rfl
  · refine jw_icmp_ne_t (tgt := 12) dX12_doInner_6 (by decide) c2 ?_
    refine jw_aload_n dX12_doInner_12 (o := (some x0)) rfl ?_
    refine jw_dup dX12_doInner_13 rfl ?_
    obtain ⟨v3, ev3, hq⟩ := Option.bind_eq_some_iff.mp hq
    refine jw_getI (o := (some x0)) dX12_doInner_14 ev3 fl_X12_455 rfl ?_
    refine jw_iconst dX12_doInner_17 (v := (1 : Int32)) (by decide) ?_
    refine jw_iadd dX12_doInner_18 ?_
    obtain ⟨h4, eh4, hq⟩ := Option.bind_eq_some_iff.mp hq
    refine jw_putI (o := (some x0)) dX12_doInner_19 eh4 fl_X12_455 rfl rfl ?_
    refine jw_aload_n dX12_doInner_22 (o := (some x0)) rfl ?_
    refine jw_iload_n dX12_doInner_23 rfl ?_
    obtain ⟨a5, ea5, hq⟩ := Option.bind_eq_some_iff.mp hq
    obtain ⟨eoa5, eta5⟩ := jw_rc_spec ea5
    obtain ⟨w7, h6, ew7, hq⟩ := jw_b2_spec hq
    refine jw_callV (As := [.int x1]) (S := []) (a := a5) (v := none) dX12_doInner_24 mt_X12_readWhere in_X12_readWhere se_X12_readWhere lk_X12_458 (c_X12_readWhere ew7) eta5 (by decide) rfl rfl (by decide) (Nat.le_of_ble_eq_true rfl) (by cases eoa5; rfl) ?_
    refine jw_aload_n dX12_doInner_27 (o := (some x0)) rfl ?_
    obtain ⟨v8, ev8, hq⟩ := Option.bind_eq_some_iff.mp hq
    refine jw_getI (o := (some x0)) dX12_doInner_28 ev8 fl_X12_218 rfl ?_
    refine jw_istore_n (L' := [some (.ref x0), some (.int x1), some (.int v8), none]) dX12_doInner_31 (Nat.le_of_ble_eq_true rfl) rfl ?_
    refine jw_aload_n dX12_doInner_32 (o := (some x0)) rfl ?_
    obtain ⟨a9, ea9, hq⟩ := Option.bind_eq_some_iff.mp hq
    obtain ⟨eoa9, eta9⟩ := jw_rc_spec ea9
    obtain ⟨w11, h10, ew11, hq⟩ := jw_b2_spec hq
    refine jw_callV (As := []) (S := []) (a := a9) (v := some (.int w11)) dX12_doInner_33 mt_X12_range in_X12_range se_X12_range lk_X12_461 (c_X12_range ew11) eta9 (by decide) rfl rfl (by decide) (Nat.le_of_ble_eq_true rfl) (by cases eoa9; rfl) ?_
    refine jw_istore_n (L' := [some (.ref x0), some (.int x1), some (.int v8), some (.int w11)]) dX12_doInner_36 (Nat.le_of_ble_eq_true rfl) rfl ?_
    refine jw_iload_n dX12_doInner_37 rfl ?_
    rcases jw_if hq with ⟨c12, hq⟩ | ⟨c12, hq⟩
    · refine jw_if_le_t (tgt := 45) dX12_doInner_38 (by decide) c12 ?_
      refine jw_aload_n dX12_doInner_45 (o := (some x0)) rfl ?_
      refine jw_iload_n dX12_doInner_46 rfl ?_
      obtain ⟨a13, ea13, hq⟩ := Option.bind_eq_some_iff.mp hq
      obtain ⟨eoa13, eta13⟩ := jw_rc_spec ea13
      obtain ⟨w15, h14, ew15, hq⟩ := jw_b2_spec hq
      refine jw_callV (As := [.int v8]) (S := []) (a := a13) (v := some (.int w15)) dX12_doInner_47 mt_X12_act in_X12_act se_X12_act lk_X12_464 (c_X12_act ew15) eta13 (by decide) rfl rfl (by decide) (Nat.le_of_ble_eq_true rfl) (by cases eoa13; rfl) ?_
      refine jw_forget [false, false, false, false] (L' := [none, none, none, none]) rfl ?_
      exact l_X12_doInner_b50  hq
    · refine jw_if_le_f (tgt := 45) dX12_doInner_38 (by decide) c12 ?_
      refine jw_iload_n dX12_doInner_41 rfl ?_
      refine jw_goto (tgt := 50) dX12_doInner_42 (by decide) ?_
      refine jw_forget [false, false, false, false] (L' := [none, none, none, none]) rfl ?_
      exact l_X12_doInner_b50  hq

theorem c_X12_doInner {h : jw_H} {x0 : Nat} {x1 : Int32} {r : Int32} {h' : jw_H} (hq : f_X12_doInner h x0 x1 = some (r, h')) : jw_Con (Cond.code yX12_doInner cX12_doInner 4 (some .int)) yX12_doInner 11 [.ref x0, .int x1] h (.inl (some (.int r))) h' :=
  jw_con false (plainFor_of_name (by decide +kernel)) (fun z => nomatch z) (by simp [jw_ent, jw_sl0_nil, jw_sl0_int, jw_sl0_long, jw_sl0_ref, jw_sl0_rf, jw_sl0_scr, List.replicate]) (by simp [jw_sl0_nil, jw_sl0_int, jw_sl0_long, jw_sl0_ref, jw_sl0_rf, jw_sl0_scr]) (l_X12_doInner hq)


/-! X12_doParts -/
noncomputable def g_X12_doParts_b65 (k23 : jw_H → Nat → Int32 → Int32 → Option (Int32 × jw_H)) (h : jw_H) (x0 : Nat) (x2 : Int32) (t0 : Int32) : Option (Int32 × jw_H) :=
 k23 h x0 (x2 + (1 : Int32)) t0

noncomputable def g_X12_doParts_b23 (k23 : jw_H → Nat → Int32 → Int32 → Option (Int32 × jw_H)) (h : jw_H) (x0 : Nat) (x2 : Int32) (x3 : Int32) : Option (Int32 × jw_H) :=
 if x3 = 0 then (some ((0 : Int32), h))
 else ((jw_rc h 12 (some x0)).bind fun a2 =>
 jw_b2 (f_X12_doInner h a2 x2) fun w4 h3 =>
 if w4 ≤ 0 then ((jw_rc h3 12 (some x0)).bind fun a6 =>
 jw_b2 (f_X12_endOf h3 a6 x2 (1 : Int32)) fun w8 h7 =>
 (jw_gR h7 12 (some x0) 21).bind fun v9 =>
 (jw_ai h7 20 v9 w8).bind fun v10 =>
 if v10 = (59 : Int32) then (g_X12_doParts_b65 k23 h7 x0 w8 (1 : Int32))
 else (g_X12_doParts_b65 k23 h7 x0 w8 (0 : Int32)))
 else (some (w4, h3)))

noncomputable def f_X12_doParts_b23 (n : Nat) : jw_H → Nat → Int32 → Int32 → Option (Int32 × jw_H) :=
 Nat.rec (fun _ _ _ _ => none) (fun _ k23 => g_X12_doParts_b23 k23) n

noncomputable def f_X12_doParts (h : jw_H) (x0 : Nat) (x1 : Int32) : Option (Int32 × jw_H) :=
 (jw_gR h 12 (some x0) 21).bind fun v1 =>
 (jw_ai h 20 v1 x1).bind fun v2 =>
 if v2 = (123 : Int32) then (f_X12_doParts_b23  jw_FU h x0 (x1 + (1 : Int32)) (1 : Int32))
 else ((jw_rc h 12 (some x0)).bind fun a4 =>
 jw_b2 (f_X12_doInner h a4 x1) fun w6 h5 =>
 some (w6, h5))

set_option maxRecDepth 100000 in
set_option maxHeartbeats 4000000 in
theorem l_X12_doParts_b65 {hi : jw_H} {k23 : jw_H → Nat → Int32 → Int32 → Option (Int32 × jw_H)} (hk23 : ∀ (h : jw_H) (x0 : Nat) (x2 : Int32) (x3 : Int32) (r : Int32) (h' : jw_H), k23 h x0 x2 x3 = some (r, h') → jw_E 14 uX12_doParts hi 23 [some (.ref x0), none, some (.int x2), some (.int x3), none] [] h (.inl (some (.int r))) h') {h : jw_H} {x0 : Nat} {x2 : Int32} {t0 : Int32} {r : Int32} {h' : jw_H} (hq : g_X12_doParts_b65 k23 h x0 x2 t0 = some (r, h')) : jw_E 14 uX12_doParts hi 65 [some (.ref x0), none, some (.int x2), none, none] [.int t0] h (.inl (some (.int r))) h' := by
  unfold g_X12_doParts_b65 at hq
  refine jw_istore_n (L' := [some (.ref x0), none, some (.int x2), some (.int t0), none]) dX12_doParts_65 (Nat.le_of_ble_eq_true rfl) rfl ?_
  refine jw_iinc (L' := [some (.ref x0), none, some (.int (x2 + (1 : Int32))), some (.int t0), none]) dX12_doParts_66 rfl (v := (1 : Int32)) (by decide) (Nat.le_of_ble_eq_true rfl) rfl ?_
  refine jw_goto (tgt := 23) dX12_doParts_69 (by decide) ?_
  exact hk23 _ _ _ _ _ _ hq

set_option maxRecDepth 100000 in
set_option maxHeartbeats 4000000 in
theorem l_X12_doParts_b23g {hi : jw_H} {k23 : jw_H → Nat → Int32 → Int32 → Option (Int32 × jw_H)} (hk23 : ∀ (h : jw_H) (x0 : Nat) (x2 : Int32) (x3 : Int32) (r : Int32) (h' : jw_H), k23 h x0 x2 x3 = some (r, h') → jw_E 14 uX12_doParts hi 23 [some (.ref x0), none, some (.int x2), some (.int x3), none] [] h (.inl (some (.int r))) h') {h : jw_H} {x0 : Nat} {x2 : Int32} {x3 : Int32} {r : Int32} {h' : jw_H} (hq : g_X12_doParts_b23 k23 h x0 x2 x3 = some (r, h')) : jw_E 14 uX12_doParts hi 23 [some (.ref x0), none, some (.int x2), some (.int x3), none] [] h (.inl (some (.int r))) h' := by
  unfold g_X12_doParts_b23 at hq
  refine jw_iload_n dX12_doParts_23 rfl ?_
  rcases jw_if hq with ⟨c1, hq⟩ | ⟨c1, hq⟩
  · refine jw_if_eq_t (tgt := 72) dX12_doParts_24 (by decide) c1 ?_
    refine jw_iconst dX12_doParts_72 (v := (0 : Int32)) (by decide) ?_
    cases hq
    exact jw_iret (ty := .int) dX12_doParts_73 rfl rfl
  · refine jw_if_eq_f (tgt := 72) dX12_doParts_24 (by decide) c1 ?_
    refine jw_aload_n dX12_doParts_27 (o := (some x0)) rfl ?_
    refine jw_iload_n dX12_doParts_28 rfl ?_
    obtain ⟨a2, ea2, hq⟩ := Option.bind_eq_some_iff.mp hq
    obtain ⟨eoa2, eta2⟩ := jw_rc_spec ea2
    obtain ⟨w4, h3, ew4, hq⟩ := jw_b2_spec hq
    refine jw_callV (As := [.int x2]) (S := []) (a := a2) (v := some (.int w4)) dX12_doParts_29 mt_X12_doInner in_X12_doInner se_X12_doInner lk_X12_467 (c_X12_doInner ew4) eta2 (by decide) rfl rfl (by decide) (Nat.le_of_ble_eq_true rfl) (by cases eoa2; rfl) ?_
    refine jw_istore (L' := [some (.ref x0), none, some (.int x2), some (.int x3), some (.int w4)]) dX12_doParts_32 (Nat.le_of_ble_eq_true rfl) rfl ?_
    refine jw_iload dX12_doParts_34 rfl ?_
    rcases jw_if hq with ⟨c5, hq⟩ | ⟨c5, hq⟩
    · refine jw_if_le_t (tgt := 42) dX12_doParts_36 (by decide) c5 ?_
      refine jw_aload_n dX12_doParts_42 (o := (some x0)) rfl ?_
      refine jw_iload_n dX12_doParts_43 rfl ?_
      refine jw_iconst dX12_doParts_44 (v := (1 : Int32)) (by decide) ?_
      obtain ⟨a6, ea6, hq⟩ := Option.bind_eq_some_iff.mp hq
      obtain ⟨eoa6, eta6⟩ := jw_rc_spec ea6
      obtain ⟨w8, h7, ew8, hq⟩ := jw_b2_spec hq
      refine jw_callV (As := [.int x2, .int (1 : Int32)]) (S := []) (a := a6) (v := some (.int w8)) dX12_doParts_45 mt_X12_endOf in_X12_endOf se_X12_endOf lk_X12_470 (c_X12_endOf ew8) eta6 (by decide) rfl rfl (by decide) (Nat.le_of_ble_eq_true rfl) (by cases eoa6; rfl) ?_
      refine jw_istore_n (L' := [some (.ref x0), none, some (.int w8), some (.int x3), some (.int w4)]) dX12_doParts_48 (Nat.le_of_ble_eq_true rfl) rfl ?_
      refine jw_aload_n dX12_doParts_49 (o := (some x0)) rfl ?_
      obtain ⟨v9, ev9, hq⟩ := Option.bind_eq_some_iff.mp hq
      refine jw_getR (o := (some x0)) dX12_doParts_50 ev9 fl_X12_44 rfl ?_
      refine jw_iload_n dX12_doParts_53 rfl ?_
      obtain ⟨v10, ev10, hq⟩ := Option.bind_eq_some_iff.mp hq
      refine jw_iald (o := v9) dX12_doParts_54 ev10 ?_
      refine jw_bipush dX12_doParts_55 (v := (59 : Int32)) (by decide) ?_
      rcases jw_if hq with ⟨c11, hq⟩ | ⟨c11, hq⟩
      · refine jw_icmp_ne_f (tgt := 64) dX12_doParts_57 (by decide) c11 ?_
        refine jw_iconst dX12_doParts_60 (v := (1 : Int32)) (by decide) ?_
        refine jw_goto (tgt := 65) dX12_doParts_61 (by decide) ?_
        refine jw_forget [true, true, true, false, false] (L' := [some (.ref x0), none, some (.int w8), none, none]) rfl ?_
        exact l_X12_doParts_b65 hk23 hq
      · refine jw_icmp_ne_t (tgt := 64) dX12_doParts_57 (by decide) c11 ?_
        refine jw_iconst dX12_doParts_64 (v := (0 : Int32)) (by decide) ?_
        refine jw_forget [true, true, true, false, false] (L' := [some (.ref x0), none, some (.int w8), none, none]) rfl ?_
        exact l_X12_doParts_b65 hk23 hq
    · refine jw_if_le_f (tgt := 42) dX12_doParts_36 (by decide) c5 ?_
      refine jw_iload dX12_doParts_39 rfl ?_
      cases hq
      exact jw_iret (ty := .int) dX12_doParts_41 rfl rfl

theorem l_X12_doParts_b23 {hi : jw_H} : ∀ (n : Nat) (h : jw_H) (x0 : Nat) (x2 : Int32) (x3 : Int32) (r : Int32) (h' : jw_H), f_X12_doParts_b23  n h x0 x2 x3 = some (r, h') → jw_E 14 uX12_doParts hi 23 [some (.ref x0), none, some (.int x2), some (.int x3), none] [] h (.inl (some (.int r))) h' := by
  intro n
  induction n with
  | zero => intro h x0 x2 x3 r h' hq; exact nomatch hq
  | succ n ih => intro h x0 x2 x3 r h' hq; exact l_X12_doParts_b23g ih hq

set_option maxRecDepth 100000 in
set_option maxHeartbeats 4000000 in
theorem l_X12_doParts {hi : jw_H} {h : jw_H} {x0 : Nat} {x1 : Int32} {r : Int32} {h' : jw_H} (hq : f_X12_doParts  h x0 x1 = some (r, h')) : jw_E 14 uX12_doParts hi 0 [some (.ref x0), some (.int x1), none, none, none] [] h (.inl (some (.int r))) h' := by
  unfold f_X12_doParts at hq
  refine jw_aload_n dX12_doParts_0 (o := (some x0)) rfl ?_
  obtain ⟨v1, ev1, hq⟩ := Option.bind_eq_some_iff.mp hq
  refine jw_getR (o := (some x0)) dX12_doParts_1 ev1 fl_X12_44 rfl ?_
  refine jw_iload_n dX12_doParts_4 rfl ?_
  obtain ⟨v2, ev2, hq⟩ := Option.bind_eq_some_iff.mp hq
  refine jw_iald (o := v1) dX12_doParts_5 ev2 ?_
  refine jw_bipush dX12_doParts_6 (v := (123 : Int32)) (by decide) ?_
  rcases jw_if hq with ⟨c3, hq⟩ | ⟨c3, hq⟩
  · refine jw_icmp_eq_t (tgt := 17) dX12_doParts_8 (by decide) c3 ?_
    refine jw_iload_n dX12_doParts_17 rfl ?_
    refine jw_iconst dX12_doParts_18 (v := (1 : Int32)) (by decide) ?_
    refine jw_iadd dX12_doParts_19 ?_
    refine jw_istore_n (L' := [some (.ref x0), some (.int x1), some (.int (x1 + (1 : Int32))), none, none]) dX12_doParts_20 (Nat.le_of_ble_eq_true rfl) rfl ?_
    refine jw_iconst dX12_doParts_21 (v := (1 : Int32)) (by decide) ?_
    refine jw_istore_n (L' := [some (.ref x0), some (.int x1), some (.int (x1 + (1 : Int32))), some (.int (1 : Int32)), none]) dX12_doParts_22 (Nat.le_of_ble_eq_true rfl) rfl ?_
    refine jw_forget [true, false, true, true, true] (L' := [some (.ref x0), none, some (.int (x1 + (1 : Int32))), some (.int (1 : Int32)), none]) rfl ?_
    exact l_X12_doParts_b23  jw_FU _ _ _ _ _ _ hq
  · refine jw_icmp_eq_f (tgt := 17) dX12_doParts_8 (by decide) c3 ?_
    refine jw_aload_n dX12_doParts_11 (o := (some x0)) rfl ?_
    refine jw_iload_n dX12_doParts_12 rfl ?_
    obtain ⟨a4, ea4, hq⟩ := Option.bind_eq_some_iff.mp hq
    obtain ⟨eoa4, eta4⟩ := jw_rc_spec ea4
    obtain ⟨w6, h5, ew6, hq⟩ := jw_b2_spec hq
    refine jw_callV (As := [.int x1]) (S := []) (a := a4) (v := some (.int w6)) dX12_doParts_13 mt_X12_doInner in_X12_doInner se_X12_doInner lk_X12_467 (c_X12_doInner ew6) eta4 (by decide) rfl rfl (by decide) (Nat.le_of_ble_eq_true rfl) (by cases eoa4; rfl) ?_
    cases hq
    exact jw_iret (ty := .int) dX12_doParts_16 rfl rfl

theorem c_X12_doParts {h : jw_H} {x0 : Nat} {x1 : Int32} {r : Int32} {h' : jw_H} (hq : f_X12_doParts h x0 x1 = some (r, h')) : jw_Con (Cond.code yX12_doParts cX12_doParts 5 (some .int)) yX12_doParts 14 [.ref x0, .int x1] h (.inl (some (.int r))) h' :=
  jw_con false (plainFor_of_name (by decide +kernel)) (fun z => nomatch z) (by simp [jw_ent, jw_sl0_nil, jw_sl0_int, jw_sl0_long, jw_sl0_ref, jw_sl0_rf, jw_sl0_scr, List.replicate]) (by simp [jw_sl0_nil, jw_sl0_int, jw_sl0_long, jw_sl0_ref, jw_sl0_rf, jw_sl0_scr]) (l_X12_doParts hq)


/-! X12_each -/
noncomputable def g_X12_each_b98 (k40 : jw_H → Nat → Int32 → Int32 → Int32 → Int32 → Option (Int32 × jw_H)) (h : jw_H) (x0 : Nat) (x2 : Int32) (x3 : Int32) (x4 : Int32) (x5 : Int32) : Option (Int32 × jw_H) :=
 k40 h x0 x2 x3 x4 (x5 + (1 : Int32))

noncomputable def g_X12_each_b79 (k40 : jw_H → Nat → Int32 → Int32 → Int32 → Int32 → Option (Int32 × jw_H)) (h : jw_H) (x0 : Nat) (x2 : Int32) (x3 : Int32) (x4 : Int32) (x5 : Int32) : Option (Int32 × jw_H) :=
 (jw_gR h 12 (some x0) 46).bind fun v1 =>
 (jw_gR h 12 (some x0) 7).bind fun v2 =>
 (jw_ai h 20 v2 (x5 - (1 : Int32))).bind fun v3 =>
 (jw_si h 20 v1 x4 v3).bind fun h4 =>
 g_X12_each_b98 k40 h4 x0 x2 x3 (x4 + (1 : Int32)) x5

noncomputable def g_X12_each_b76 (k40 : jw_H → Nat → Int32 → Int32 → Int32 → Int32 → Option (Int32 × jw_H)) (h : jw_H) (x0 : Nat) (x2 : Int32) (x3 : Int32) (x4 : Int32) (x5 : Int32) (t0 : Int32) (t1 : Int32) : Option (Int32 × jw_H) :=
 if t0 = t1 then (g_X12_each_b79 k40 h x0 x2 x3 x4 x5)
 else (g_X12_each_b98 k40 h x0 x2 x3 x4 x5)

noncomputable def g_X12_each_b153 (k107 : jw_H → Nat → Int32 → Int32 → Int32 → Option (Int32 × jw_H)) (h : jw_H) (x0 : Nat) (x3 : Int32) (x4 : Int32) (x5 : Int32) : Option (Int32 × jw_H) :=
 k107 h x0 x3 x4 (x5 + (1 : Int32))

noncomputable def g_X12_each_b107 (k107 : jw_H → Nat → Int32 → Int32 → Int32 → Option (Int32 × jw_H)) (h : jw_H) (x0 : Nat) (x3 : Int32) (x4 : Int32) (x5 : Int32) : Option (Int32 × jw_H) :=
 if x4 ≤ x5 then (some ((0 : Int32), h))
 else ((jw_gR h 12 (some x0) 46).bind fun v2 =>
 (jw_ai h 20 v2 x5).bind fun v3 =>
 (jw_rc h 12 (some x0)).bind fun a4 =>
 jw_b2 (f_X12_lineWith h a4 v3) fun w6 h5 =>
 if w6 ≤ 0 then (g_X12_each_b153 k107 h5 x0 x3 x4 x5)
 else ((jw_pI h5 12 (some x0) 16 w6).bind fun h8 =>
 (jw_rc h8 12 (some x0)).bind fun a9 =>
 jw_b2 (f_X12_doParts h8 a9 x3) fun w11 h10 =>
 if w11 ≤ 0 then (g_X12_each_b153 k107 h10 x0 x3 x4 x5)
 else (some (w11, h10))))

noncomputable def f_X12_each_b107 (n : Nat) : jw_H → Nat → Int32 → Int32 → Int32 → Option (Int32 × jw_H) :=
 Nat.rec (fun _ _ _ _ _ => none) (fun _ k107 => g_X12_each_b107 k107) n

noncomputable def g_X12_each_b40 (k40 : jw_H → Nat → Int32 → Int32 → Int32 → Int32 → Option (Int32 × jw_H)) (h : jw_H) (x0 : Nat) (x2 : Int32) (x3 : Int32) (x4 : Int32) (x5 : Int32) : Option (Int32 × jw_H) :=
 (jw_gI h 12 (some x0) 43).bind fun v1 =>
 if v1 < x5 then (f_X12_each_b107  jw_FU h x0 x3 x4 (0 : Int32))
 else (if x2 = (123 : Int32) then (g_X12_each_b79 k40 h x0 x2 x3 x4 x5)
 else (jw_b2 (f_X12_textRow h x5) fun w5 h4 =>
 (jw_rc h4 12 (some x0)).bind fun a6 =>
 jw_b2 (f_X12_finds h4 a6 w5 (0 : Int32)) fun w8 h7 =>
 if x2 = (103 : Int32) then (g_X12_each_b76 k40 h7 x0 x2 x3 x4 x5 w8 (1 : Int32))
 else (g_X12_each_b76 k40 h7 x0 x2 x3 x4 x5 w8 (0 : Int32))))

noncomputable def f_X12_each_b40 (n : Nat) : jw_H → Nat → Int32 → Int32 → Int32 → Int32 → Option (Int32 × jw_H) :=
 Nat.rec (fun _ _ _ _ _ _ => none) (fun _ k40 => g_X12_each_b40 k40) n

noncomputable def g_X12_each_b34 (h : jw_H) (x0 : Nat) (x2 : Int32) (x3 : Int32) (x4 : Int32) : Option (Int32 × jw_H) :=
 (jw_gI h 12 (some x0) 42).bind fun v1 =>
 f_X12_each_b40  jw_FU h x0 x2 x3 x4 v1

noncomputable def f_X12_each (h : jw_H) (x0 : Nat) (x1 : Int32) : Option (Int32 × jw_H) :=
 (jw_gR h 12 (some x0) 21).bind fun v1 =>
 (jw_ai h 20 v1 x1).bind fun v2 =>
 if v2 = (123 : Int32) then (g_X12_each_b34  h x0 v2 x1 (0 : Int32))
 else ((jw_rc h 12 (some x0)).bind fun a4 =>
 jw_b2 (f_X12_compile h a4 (x1 + (2 : Int32)) (47 : Int32)) fun w6 h5 =>
 (jw_gI h5 12 (some x0) 37).bind fun v7 =>
 g_X12_each_b34  h5 x0 v2 (v7 + (1 : Int32)) (0 : Int32))

set_option maxRecDepth 100000 in
set_option maxHeartbeats 4000000 in
theorem l_X12_each_b98 {hi : jw_H} {k40 : jw_H → Nat → Int32 → Int32 → Int32 → Int32 → Option (Int32 × jw_H)} (hk40 : ∀ (h : jw_H) (x0 : Nat) (x2 : Int32) (x3 : Int32) (x4 : Int32) (x5 : Int32) (r : Int32) (h' : jw_H), k40 h x0 x2 x3 x4 x5 = some (r, h') → jw_E 15 uX12_each hi 40 [some (.ref x0), none, some (.int x2), some (.int x3), some (.int x4), some (.int x5), none, none] [] h (.inl (some (.int r))) h') {h : jw_H} {x0 : Nat} {x2 : Int32} {x3 : Int32} {x4 : Int32} {x5 : Int32} {r : Int32} {h' : jw_H} (hq : g_X12_each_b98 k40 h x0 x2 x3 x4 x5 = some (r, h')) : jw_E 15 uX12_each hi 98 [some (.ref x0), none, some (.int x2), some (.int x3), some (.int x4), some (.int x5), none, none] [] h (.inl (some (.int r))) h' := by
  unfold g_X12_each_b98 at hq
  refine jw_iinc (L' := [some (.ref x0), none, some (.int x2), some (.int x3), some (.int x4), some (.int (x5 + (1 : Int32))), none, none]) dX12_each_98 rfl (v := (1 : Int32)) (by decide) (Nat.le_of_ble_eq_true rfl) rfl ?_
  refine jw_goto (tgt := 40) dX12_each_101 (by decide) ?_
  exact hk40 _ _ _ _ _ _ _ _ hq

set_option maxRecDepth 100000 in
set_option maxHeartbeats 4000000 in
theorem l_X12_each_b79 {hi : jw_H} {k40 : jw_H → Nat → Int32 → Int32 → Int32 → Int32 → Option (Int32 × jw_H)} (hk40 : ∀ (h : jw_H) (x0 : Nat) (x2 : Int32) (x3 : Int32) (x4 : Int32) (x5 : Int32) (r : Int32) (h' : jw_H), k40 h x0 x2 x3 x4 x5 = some (r, h') → jw_E 15 uX12_each hi 40 [some (.ref x0), none, some (.int x2), some (.int x3), some (.int x4), some (.int x5), none, none] [] h (.inl (some (.int r))) h') {h : jw_H} {x0 : Nat} {x2 : Int32} {x3 : Int32} {x4 : Int32} {x5 : Int32} {r : Int32} {h' : jw_H} (hq : g_X12_each_b79 k40 h x0 x2 x3 x4 x5 = some (r, h')) : jw_E 15 uX12_each hi 79 [some (.ref x0), none, some (.int x2), some (.int x3), some (.int x4), some (.int x5), none, none] [] h (.inl (some (.int r))) h' := by
  unfold g_X12_each_b79 at hq
  refine jw_aload_n dX12_each_79 (o := (some x0)) rfl ?_
  obtain ⟨v1, ev1, hq⟩ := Option.bind_eq_some_iff.mp hq
  refine jw_getR (o := (some x0)) dX12_each_80 ev1 fl_X12_59 rfl ?_
  refine jw_iload dX12_each_83 rfl ?_
  refine jw_aload_n dX12_each_85 (o := (some x0)) rfl ?_
  obtain ⟨v2, ev2, hq⟩ := Option.bind_eq_some_iff.mp hq
  refine jw_getR (o := (some x0)) dX12_each_86 ev2 fl_X12_26 rfl ?_
  refine jw_iload dX12_each_89 rfl ?_
  refine jw_iconst dX12_each_91 (v := (1 : Int32)) (by decide) ?_
  refine jw_isub dX12_each_92 ?_
  obtain ⟨v3, ev3, hq⟩ := Option.bind_eq_some_iff.mp hq
  refine jw_iald (o := v2) dX12_each_93 ev3 ?_
  obtain ⟨h4, eh4, hq⟩ := Option.bind_eq_some_iff.mp hq
  refine jw_iast (o := v1) dX12_each_94 eh4 ?_
  refine jw_iinc (L' := [some (.ref x0), none, some (.int x2), some (.int x3), some (.int (x4 + (1 : Int32))), some (.int x5), none, none]) dX12_each_95 rfl (v := (1 : Int32)) (by decide) (Nat.le_of_ble_eq_true rfl) rfl ?_
  exact l_X12_each_b98 hk40 hq

set_option maxRecDepth 100000 in
set_option maxHeartbeats 4000000 in
theorem l_X12_each_b76 {hi : jw_H} {k40 : jw_H → Nat → Int32 → Int32 → Int32 → Int32 → Option (Int32 × jw_H)} (hk40 : ∀ (h : jw_H) (x0 : Nat) (x2 : Int32) (x3 : Int32) (x4 : Int32) (x5 : Int32) (r : Int32) (h' : jw_H), k40 h x0 x2 x3 x4 x5 = some (r, h') → jw_E 15 uX12_each hi 40 [some (.ref x0), none, some (.int x2), some (.int x3), some (.int x4), some (.int x5), none, none] [] h (.inl (some (.int r))) h') {h : jw_H} {x0 : Nat} {x2 : Int32} {x3 : Int32} {x4 : Int32} {x5 : Int32} {t0 : Int32} {t1 : Int32} {r : Int32} {h' : jw_H} (hq : g_X12_each_b76 k40 h x0 x2 x3 x4 x5 t0 t1 = some (r, h')) : jw_E 15 uX12_each hi 76 [some (.ref x0), none, some (.int x2), some (.int x3), some (.int x4), some (.int x5), none, none] [.int t1, .int t0] h (.inl (some (.int r))) h' := by
  unfold g_X12_each_b76 at hq
  rcases jw_if hq with ⟨c1, hq⟩ | ⟨c1, hq⟩
  · refine jw_icmp_ne_f (tgt := 98) dX12_each_76 (by decide) c1 ?_
    exact l_X12_each_b79 hk40 hq
  · refine jw_icmp_ne_t (tgt := 98) dX12_each_76 (by decide) c1 ?_
    exact l_X12_each_b98 hk40 hq

set_option maxRecDepth 100000 in
set_option maxHeartbeats 4000000 in
theorem l_X12_each_b153 {hi : jw_H} {k107 : jw_H → Nat → Int32 → Int32 → Int32 → Option (Int32 × jw_H)} (hk107 : ∀ (h : jw_H) (x0 : Nat) (x3 : Int32) (x4 : Int32) (x5 : Int32) (r : Int32) (h' : jw_H), k107 h x0 x3 x4 x5 = some (r, h') → jw_E 15 uX12_each hi 107 [some (.ref x0), none, none, some (.int x3), some (.int x4), some (.int x5), none, none] [] h (.inl (some (.int r))) h') {h : jw_H} {x0 : Nat} {x3 : Int32} {x4 : Int32} {x5 : Int32} {r : Int32} {h' : jw_H} (hq : g_X12_each_b153 k107 h x0 x3 x4 x5 = some (r, h')) : jw_E 15 uX12_each hi 153 [some (.ref x0), none, none, some (.int x3), some (.int x4), some (.int x5), none, none] [] h (.inl (some (.int r))) h' := by
  unfold g_X12_each_b153 at hq
  refine jw_iinc (L' := [some (.ref x0), none, none, some (.int x3), some (.int x4), some (.int (x5 + (1 : Int32))), none, none]) dX12_each_153 rfl (v := (1 : Int32)) (by decide) (Nat.le_of_ble_eq_true rfl) rfl ?_
  refine jw_goto (tgt := 107) dX12_each_156 (by decide) ?_
  exact hk107 _ _ _ _ _ _ _ hq

set_option maxRecDepth 100000 in
set_option maxHeartbeats 4000000 in
theorem l_X12_each_b107g {hi : jw_H} {k107 : jw_H → Nat → Int32 → Int32 → Int32 → Option (Int32 × jw_H)} (hk107 : ∀ (h : jw_H) (x0 : Nat) (x3 : Int32) (x4 : Int32) (x5 : Int32) (r : Int32) (h' : jw_H), k107 h x0 x3 x4 x5 = some (r, h') → jw_E 15 uX12_each hi 107 [some (.ref x0), none, none, some (.int x3), some (.int x4), some (.int x5), none, none] [] h (.inl (some (.int r))) h') {h : jw_H} {x0 : Nat} {x3 : Int32} {x4 : Int32} {x5 : Int32} {r : Int32} {h' : jw_H} (hq : g_X12_each_b107 k107 h x0 x3 x4 x5 = some (r, h')) : jw_E 15 uX12_each hi 107 [some (.ref x0), none, none, some (.int x3), some (.int x4), some (.int x5), none, none] [] h (.inl (some (.int r))) h' := by
  unfold g_X12_each_b107 at hq
  refine jw_iload dX12_each_107 rfl ?_
  refine jw_iload dX12_each_109 rfl ?_
  rcases jw_if hq with ⟨c1, hq⟩ | ⟨c1, hq⟩
  · refine jw_icmp_ge_t (tgt := 159) dX12_each_111 (by decide) c1 ?_
    refine jw_iconst dX12_each_159 (v := (0 : Int32)) (by decide) ?_
    cases hq
    exact jw_iret (ty := .int) dX12_each_160 rfl rfl
  · refine jw_icmp_ge_f (tgt := 159) dX12_each_111 (by decide) c1 ?_
    refine jw_aload_n dX12_each_114 (o := (some x0)) rfl ?_
    refine jw_aload_n dX12_each_115 (o := (some x0)) rfl ?_
    obtain ⟨v2, ev2, hq⟩ := Option.bind_eq_some_iff.mp hq
    refine jw_getR (o := (some x0)) dX12_each_116 ev2 fl_X12_59 rfl ?_
    refine jw_iload dX12_each_119 rfl ?_
    obtain ⟨v3, ev3, hq⟩ := Option.bind_eq_some_iff.mp hq
    refine jw_iald (o := v2) dX12_each_121 ev3 ?_
    obtain ⟨a4, ea4, hq⟩ := Option.bind_eq_some_iff.mp hq
    obtain ⟨eoa4, eta4⟩ := jw_rc_spec ea4
    obtain ⟨w6, h5, ew6, hq⟩ := jw_b2_spec hq
    refine jw_callV (As := [.int v3]) (S := []) (a := a4) (v := some (.int w6)) dX12_each_122 mt_X12_lineWith in_X12_lineWith se_X12_lineWith lk_X12_307 (c_X12_lineWith ew6) eta4 (by decide) rfl rfl (by decide) (Nat.le_of_ble_eq_true rfl) (by cases eoa4; rfl) ?_
    refine jw_istore (L' := [some (.ref x0), none, none, some (.int x3), some (.int x4), some (.int x5), some (.int w6), none]) dX12_each_125 (Nat.le_of_ble_eq_true rfl) rfl ?_
    refine jw_iload dX12_each_127 rfl ?_
    rcases jw_if hq with ⟨c7, hq⟩ | ⟨c7, hq⟩
    · refine jw_if_le_t (tgt := 153) dX12_each_129 (by decide) c7 ?_
      refine jw_forget [true, true, true, true, true, true, false, true] (L' := [some (.ref x0), none, none, some (.int x3), some (.int x4), some (.int x5), none, none]) rfl ?_
      exact l_X12_each_b153 hk107 hq
    · refine jw_if_le_f (tgt := 153) dX12_each_129 (by decide) c7 ?_
      refine jw_aload_n dX12_each_132 (o := (some x0)) rfl ?_
      refine jw_iload dX12_each_133 rfl ?_
      obtain ⟨h8, eh8, hq⟩ := Option.bind_eq_some_iff.mp hq
      refine jw_putI (o := (some x0)) dX12_each_135 eh8 fl_X12_295 rfl rfl ?_
      refine jw_aload_n dX12_each_138 (o := (some x0)) rfl ?_
      refine jw_iload_n dX12_each_139 rfl ?_
      obtain ⟨a9, ea9, hq⟩ := Option.bind_eq_some_iff.mp hq
      obtain ⟨eoa9, eta9⟩ := jw_rc_spec ea9
      obtain ⟨w11, h10, ew11, hq⟩ := jw_b2_spec hq
      refine jw_callV (As := [.int x3]) (S := []) (a := a9) (v := some (.int w11)) dX12_each_140 mt_X12_doParts in_X12_doParts se_X12_doParts lk_X12_473 (c_X12_doParts ew11) eta9 (by decide) rfl rfl (by decide) (Nat.le_of_ble_eq_true rfl) (by cases eoa9; rfl) ?_
      refine jw_istore (L' := [some (.ref x0), none, none, some (.int x3), some (.int x4), some (.int x5), some (.int w6), some (.int w11)]) dX12_each_143 (Nat.le_of_ble_eq_true rfl) rfl ?_
      refine jw_iload dX12_each_145 rfl ?_
      rcases jw_if hq with ⟨c12, hq⟩ | ⟨c12, hq⟩
      · refine jw_if_le_t (tgt := 153) dX12_each_147 (by decide) c12 ?_
        refine jw_forget [true, true, true, true, true, true, false, false] (L' := [some (.ref x0), none, none, some (.int x3), some (.int x4), some (.int x5), none, none]) rfl ?_
        exact l_X12_each_b153 hk107 hq
      · refine jw_if_le_f (tgt := 153) dX12_each_147 (by decide) c12 ?_
        refine jw_iload dX12_each_150 rfl ?_
        cases hq
        exact jw_iret (ty := .int) dX12_each_152 rfl rfl

theorem l_X12_each_b107 {hi : jw_H} : ∀ (n : Nat) (h : jw_H) (x0 : Nat) (x3 : Int32) (x4 : Int32) (x5 : Int32) (r : Int32) (h' : jw_H), f_X12_each_b107  n h x0 x3 x4 x5 = some (r, h') → jw_E 15 uX12_each hi 107 [some (.ref x0), none, none, some (.int x3), some (.int x4), some (.int x5), none, none] [] h (.inl (some (.int r))) h' := by
  intro n
  induction n with
  | zero => intro h x0 x3 x4 x5 r h' hq; exact nomatch hq
  | succ n ih => intro h x0 x3 x4 x5 r h' hq; exact l_X12_each_b107g ih hq

set_option maxRecDepth 100000 in
set_option maxHeartbeats 4000000 in
theorem l_X12_each_b40g {hi : jw_H} {k40 : jw_H → Nat → Int32 → Int32 → Int32 → Int32 → Option (Int32 × jw_H)} (hk40 : ∀ (h : jw_H) (x0 : Nat) (x2 : Int32) (x3 : Int32) (x4 : Int32) (x5 : Int32) (r : Int32) (h' : jw_H), k40 h x0 x2 x3 x4 x5 = some (r, h') → jw_E 15 uX12_each hi 40 [some (.ref x0), none, some (.int x2), some (.int x3), some (.int x4), some (.int x5), none, none] [] h (.inl (some (.int r))) h') {h : jw_H} {x0 : Nat} {x2 : Int32} {x3 : Int32} {x4 : Int32} {x5 : Int32} {r : Int32} {h' : jw_H} (hq : g_X12_each_b40 k40 h x0 x2 x3 x4 x5 = some (r, h')) : jw_E 15 uX12_each hi 40 [some (.ref x0), none, some (.int x2), some (.int x3), some (.int x4), some (.int x5), none, none] [] h (.inl (some (.int r))) h' := by
  unfold g_X12_each_b40 at hq
  refine jw_iload dX12_each_40 rfl ?_
  refine jw_aload_n dX12_each_42 (o := (some x0)) rfl ?_
  obtain ⟨v1, ev1, hq⟩ := Option.bind_eq_some_iff.mp hq
  refine jw_getI (o := (some x0)) dX12_each_43 ev1 fl_X12_320 rfl ?_
  rcases jw_if hq with ⟨c2, hq⟩ | ⟨c2, hq⟩
  · refine jw_icmp_gt_t (tgt := 104) dX12_each_46 (by decide) c2 ?_
    refine jw_iconst dX12_each_104 (v := (0 : Int32)) (by decide) ?_
    refine jw_istore (L' := [some (.ref x0), none, some (.int x2), some (.int x3), some (.int x4), some (.int (0 : Int32)), none, none]) dX12_each_105 (Nat.le_of_ble_eq_true rfl) rfl ?_
    refine jw_forget [true, true, false, true, true, true, true, true] (L' := [some (.ref x0), none, none, some (.int x3), some (.int x4), some (.int (0 : Int32)), none, none]) rfl ?_
    exact l_X12_each_b107  jw_FU _ _ _ _ _ _ _ hq
  · refine jw_icmp_gt_f (tgt := 104) dX12_each_46 (by decide) c2 ?_
    refine jw_iload_n dX12_each_49 rfl ?_
    refine jw_bipush dX12_each_50 (v := (123 : Int32)) (by decide) ?_
    rcases jw_if hq with ⟨c3, hq⟩ | ⟨c3, hq⟩
    · refine jw_icmp_eq_t (tgt := 79) dX12_each_52 (by decide) c3 ?_
      exact l_X12_each_b79 hk40 hq
    · refine jw_icmp_eq_f (tgt := 79) dX12_each_52 (by decide) c3 ?_
      refine jw_aload_n dX12_each_55 (o := (some x0)) rfl ?_
      refine jw_iload dX12_each_56 rfl ?_
      obtain ⟨w5, h4, ew5, hq⟩ := jw_b2_spec hq
      refine jw_callS (As := [.int x5]) (S := [.ref x0]) (v := some (.int w5)) dX12_each_58 mt_X12_textRow st_X12_textRow lk_X12_298 (c_X12_textRow ew5) rfl (by decide) (Nat.le_of_ble_eq_true rfl) rfl ?_
      refine jw_iconst dX12_each_61 (v := (0 : Int32)) (by decide) ?_
      obtain ⟨a6, ea6, hq⟩ := Option.bind_eq_some_iff.mp hq
      obtain ⟨eoa6, eta6⟩ := jw_rc_spec ea6
      obtain ⟨w8, h7, ew8, hq⟩ := jw_b2_spec hq
      refine jw_callV (As := [.int w5, .int (0 : Int32)]) (S := []) (a := a6) (v := some (.int w8)) dX12_each_62 mt_X12_finds in_X12_finds se_X12_finds lk_X12_292 (c_X12_finds ew8) eta6 (by decide) rfl rfl (by decide) (Nat.le_of_ble_eq_true rfl) (by cases eoa6; rfl) ?_
      refine jw_iload_n dX12_each_65 rfl ?_
      refine jw_bipush dX12_each_66 (v := (103 : Int32)) (by decide) ?_
      rcases jw_if hq with ⟨c9, hq⟩ | ⟨c9, hq⟩
      · refine jw_icmp_ne_f (tgt := 75) dX12_each_68 (by decide) c9 ?_
        refine jw_iconst dX12_each_71 (v := (1 : Int32)) (by decide) ?_
        refine jw_goto (tgt := 76) dX12_each_72 (by decide) ?_
        exact l_X12_each_b76 hk40 hq
      · refine jw_icmp_ne_t (tgt := 75) dX12_each_68 (by decide) c9 ?_
        refine jw_iconst dX12_each_75 (v := (0 : Int32)) (by decide) ?_
        exact l_X12_each_b76 hk40 hq

theorem l_X12_each_b40 {hi : jw_H} : ∀ (n : Nat) (h : jw_H) (x0 : Nat) (x2 : Int32) (x3 : Int32) (x4 : Int32) (x5 : Int32) (r : Int32) (h' : jw_H), f_X12_each_b40  n h x0 x2 x3 x4 x5 = some (r, h') → jw_E 15 uX12_each hi 40 [some (.ref x0), none, some (.int x2), some (.int x3), some (.int x4), some (.int x5), none, none] [] h (.inl (some (.int r))) h' := by
  intro n
  induction n with
  | zero => intro h x0 x2 x3 x4 x5 r h' hq; exact nomatch hq
  | succ n ih => intro h x0 x2 x3 x4 x5 r h' hq; exact l_X12_each_b40g ih hq

set_option maxRecDepth 100000 in
set_option maxHeartbeats 4000000 in
theorem l_X12_each_b34 {hi : jw_H} {h : jw_H} {x0 : Nat} {x2 : Int32} {x3 : Int32} {x4 : Int32} {r : Int32} {h' : jw_H} (hq : g_X12_each_b34  h x0 x2 x3 x4 = some (r, h')) : jw_E 15 uX12_each hi 34 [some (.ref x0), none, some (.int x2), some (.int x3), some (.int x4), none, none, none] [] h (.inl (some (.int r))) h' := by
  unfold g_X12_each_b34 at hq
  refine jw_aload_n dX12_each_34 (o := (some x0)) rfl ?_
  obtain ⟨v1, ev1, hq⟩ := Option.bind_eq_some_iff.mp hq
  refine jw_getI (o := (some x0)) dX12_each_35 ev1 fl_X12_317 rfl ?_
  refine jw_istore (L' := [some (.ref x0), none, some (.int x2), some (.int x3), some (.int x4), some (.int v1), none, none]) dX12_each_38 (Nat.le_of_ble_eq_true rfl) rfl ?_
  exact l_X12_each_b40  jw_FU _ _ _ _ _ _ _ _ hq

set_option maxRecDepth 100000 in
set_option maxHeartbeats 4000000 in
theorem l_X12_each {hi : jw_H} {h : jw_H} {x0 : Nat} {x1 : Int32} {r : Int32} {h' : jw_H} (hq : f_X12_each  h x0 x1 = some (r, h')) : jw_E 15 uX12_each hi 0 [some (.ref x0), some (.int x1), none, none, none, none, none, none] [] h (.inl (some (.int r))) h' := by
  unfold f_X12_each at hq
  refine jw_aload_n dX12_each_0 (o := (some x0)) rfl ?_
  obtain ⟨v1, ev1, hq⟩ := Option.bind_eq_some_iff.mp hq
  refine jw_getR (o := (some x0)) dX12_each_1 ev1 fl_X12_44 rfl ?_
  refine jw_iload_n dX12_each_4 rfl ?_
  obtain ⟨v2, ev2, hq⟩ := Option.bind_eq_some_iff.mp hq
  refine jw_iald (o := v1) dX12_each_5 ev2 ?_
  refine jw_istore_n (L' := [some (.ref x0), some (.int x1), some (.int v2), none, none, none, none, none]) dX12_each_6 (Nat.le_of_ble_eq_true rfl) rfl ?_
  refine jw_iload_n dX12_each_7 rfl ?_
  refine jw_istore_n (L' := [some (.ref x0), some (.int x1), some (.int v2), some (.int x1), none, none, none, none]) dX12_each_8 (Nat.le_of_ble_eq_true rfl) rfl ?_
  refine jw_iconst dX12_each_9 (v := (0 : Int32)) (by decide) ?_
  refine jw_istore (L' := [some (.ref x0), some (.int x1), some (.int v2), some (.int x1), some (.int (0 : Int32)), none, none, none]) dX12_each_10 (Nat.le_of_ble_eq_true rfl) rfl ?_
  refine jw_iload_n dX12_each_12 rfl ?_
  refine jw_bipush dX12_each_13 (v := (123 : Int32)) (by decide) ?_
  rcases jw_if hq with ⟨c3, hq⟩ | ⟨c3, hq⟩
  · refine jw_icmp_eq_t (tgt := 34) dX12_each_15 (by decide) c3 ?_
    refine jw_forget [true, false, true, true, true, true, true, true] (L' := [some (.ref x0), none, some (.int v2), some (.int x1), some (.int (0 : Int32)), none, none, none]) rfl ?_
    exact l_X12_each_b34  hq
  · refine jw_icmp_eq_f (tgt := 34) dX12_each_15 (by decide) c3 ?_
    refine jw_aload_n dX12_each_18 (o := (some x0)) rfl ?_
    refine jw_iload_n dX12_each_19 rfl ?_
    refine jw_iconst dX12_each_20 (v := (2 : Int32)) (by decide) ?_
    refine jw_iadd dX12_each_21 ?_
    refine jw_bipush dX12_each_22 (v := (47 : Int32)) (by decide) ?_
    obtain ⟨a4, ea4, hq⟩ := Option.bind_eq_some_iff.mp hq
    obtain ⟨eoa4, eta4⟩ := jw_rc_spec ea4
    obtain ⟨w6, h5, ew6, hq⟩ := jw_b2_spec hq
    refine jw_callV (As := [.int (x1 + (2 : Int32)), .int (47 : Int32)]) (S := []) (a := a4) (v := none) dX12_each_24 mt_X12_compile in_X12_compile se_X12_compile lk_X12_310 (c_X12_compile ew6) eta4 (by decide) rfl rfl (by decide) (Nat.le_of_ble_eq_true rfl) (by cases eoa4; rfl) ?_
    refine jw_aload_n dX12_each_27 (o := (some x0)) rfl ?_
    obtain ⟨v7, ev7, hq⟩ := Option.bind_eq_some_iff.mp hq
    refine jw_getI (o := (some x0)) dX12_each_28 ev7 fl_X12_268 rfl ?_
    refine jw_iconst dX12_each_31 (v := (1 : Int32)) (by decide) ?_
    refine jw_iadd dX12_each_32 ?_
    refine jw_istore_n (L' := [some (.ref x0), some (.int x1), some (.int v2), some (.int (v7 + (1 : Int32))), some (.int (0 : Int32)), none, none, none]) dX12_each_33 (Nat.le_of_ble_eq_true rfl) rfl ?_
    refine jw_forget [true, false, true, true, true, true, true, true] (L' := [some (.ref x0), none, some (.int v2), some (.int (v7 + (1 : Int32))), some (.int (0 : Int32)), none, none, none]) rfl ?_
    exact l_X12_each_b34  hq

theorem c_X12_each {h : jw_H} {x0 : Nat} {x1 : Int32} {r : Int32} {h' : jw_H} (hq : f_X12_each h x0 x1 = some (r, h')) : jw_Con (Cond.code yX12_each cX12_each 8 (some .int)) yX12_each 15 [.ref x0, .int x1] h (.inl (some (.int r))) h' :=
  jw_con false (plainFor_of_name (by decide +kernel)) (fun z => nomatch z) (by simp [jw_ent, jw_sl0_nil, jw_sl0_int, jw_sl0_long, jw_sl0_ref, jw_sl0_rf, jw_sl0_scr, List.replicate]) (by simp [jw_sl0_nil, jw_sl0_int, jw_sl0_long, jw_sl0_ref, jw_sl0_rf, jw_sl0_scr]) (l_X12_each hq)


/-! X12_save -/
noncomputable def g_X12_save_b84 (k84 : jw_H → Nat → Int32 → Option (Unit × jw_H)) (h : jw_H) (x0 : Nat) (x1 : Int32) : Option (Unit × jw_H) :=
 if (4 : Int32) ≤ x1 then ((jw_gI h 12 (some x0) 12).bind fun v2 =>
 (jw_pI h 12 (some x0) 50 v2).bind fun h3 =>
 (jw_gI h3 12 (some x0) 14).bind fun v4 =>
 (jw_pI h3 12 (some x0) 51 v4).bind fun h5 =>
 (jw_gI h5 12 (some x0) 15).bind fun v6 =>
 (jw_pI h5 12 (some x0) 52 v6).bind fun h7 =>
 (jw_gI h7 12 (some x0) 16).bind fun v8 =>
 (jw_pI h7 12 (some x0) 53 v8).bind fun h9 =>
 (jw_gI h9 12 (some x0) 17).bind fun v10 =>
 (jw_pI h9 12 (some x0) 54 v10).bind fun h11 =>
 some ((), h11))
 else ((jw_gR h 12 (some x0) 49).bind fun v12 =>
 (jw_gR h 12 (some x0) 11).bind fun v13 =>
 (jw_ai h 20 v13 x1).bind fun v14 =>
 (jw_si h 20 v12 x1 v14).bind fun h15 =>
 k84 h15 x0 (x1 + (1 : Int32)))

noncomputable def f_X12_save_b84 (n : Nat) : jw_H → Nat → Int32 → Option (Unit × jw_H) :=
 Nat.rec (fun _ _ _ => none) (fun _ k84 => g_X12_save_b84 k84) n

noncomputable def g_X12_save_b59 (k59 : jw_H → Nat → Int32 → Option (Unit × jw_H)) (h : jw_H) (x0 : Nat) (x1 : Int32) : Option (Unit × jw_H) :=
 if (5 : Int32) ≤ x1 then (f_X12_save_b84  jw_FU h x0 (0 : Int32))
 else ((jw_gR h 12 (some x0) 48).bind fun v2 =>
 (jw_gR h 12 (some x0) 10).bind fun v3 =>
 (jw_ai h 20 v3 x1).bind fun v4 =>
 (jw_si h 20 v2 x1 v4).bind fun h5 =>
 k59 h5 x0 (x1 + (1 : Int32)))

noncomputable def f_X12_save_b59 (n : Nat) : jw_H → Nat → Int32 → Option (Unit × jw_H) :=
 Nat.rec (fun _ _ _ => none) (fun _ k59 => g_X12_save_b59 k59) n

noncomputable def g_X12_save_b33 (k33 : jw_H → Nat → Int32 → Option (Unit × jw_H)) (h : jw_H) (x0 : Nat) (x1 : Int32) : Option (Unit × jw_H) :=
 if (41 : Int32) ≤ x1 then (f_X12_save_b59  jw_FU h x0 (0 : Int32))
 else ((jw_gR h 12 (some x0) 47).bind fun v2 =>
 (jw_gR h 12 (some x0) 7).bind fun v3 =>
 (jw_ai h 20 v3 x1).bind fun v4 =>
 (jw_si h 20 v2 x1 v4).bind fun h5 =>
 k33 h5 x0 (x1 + (1 : Int32)))

noncomputable def f_X12_save_b33 (n : Nat) : jw_H → Nat → Int32 → Option (Unit × jw_H) :=
 Nat.rec (fun _ _ _ => none) (fun _ k33 => g_X12_save_b33 k33) n

noncomputable def g_X12_save_b2 (k2 : jw_H → Nat → Int32 → Option (Unit × jw_H)) (h : jw_H) (x0 : Nat) (x1 : Int32) : Option (Unit × jw_H) :=
 if (12028 : Int32) ≤ x1 then (f_X12_save_b33  jw_FU h x0 (0 : Int32))
 else ((jw_gR h 12 (some x0) 6).bind fun v2 =>
 (jw_gR h 12 (some x0) 6).bind fun v3 =>
 (jw_ai h 20 v3 x1).bind fun v4 =>
 (jw_si h 20 v2 ((14880 : Int32) + x1) v4).bind fun h5 =>
 k2 h5 x0 (x1 + (1 : Int32)))

noncomputable def f_X12_save_b2 (n : Nat) : jw_H → Nat → Int32 → Option (Unit × jw_H) :=
 Nat.rec (fun _ _ _ => none) (fun _ k2 => g_X12_save_b2 k2) n

noncomputable def f_X12_save (h : jw_H) (x0 : Nat) : Option (Unit × jw_H) :=
 f_X12_save_b2  jw_FU h x0 (0 : Int32)

set_option maxRecDepth 100000 in
set_option maxHeartbeats 4000000 in
theorem l_X12_save_b84g {hi : jw_H} {k84 : jw_H → Nat → Int32 → Option (Unit × jw_H)} (hk84 : ∀ (h : jw_H) (x0 : Nat) (x1 : Int32) (r : Unit) (h' : jw_H), k84 h x0 x1 = some (r, h') → jw_E 0 uX12_save hi 84 [some (.ref x0), some (.int x1)] [] h (.inl none) h') {h : jw_H} {x0 : Nat} {x1 : Int32} {r : Unit} {h' : jw_H} (hq : g_X12_save_b84 k84 h x0 x1 = some (r, h')) : jw_E 0 uX12_save hi 84 [some (.ref x0), some (.int x1)] [] h (.inl none) h' := by
  unfold g_X12_save_b84 at hq
  refine jw_iload_n dX12_save_84 rfl ?_
  refine jw_iconst dX12_save_85 (v := (4 : Int32)) (by decide) ?_
  rcases jw_if hq with ⟨c1, hq⟩ | ⟨c1, hq⟩
  · refine jw_icmp_ge_t (tgt := 107) dX12_save_86 (by decide) c1 ?_
    refine jw_aload_n dX12_save_107 (o := (some x0)) rfl ?_
    refine jw_aload_n dX12_save_108 (o := (some x0)) rfl ?_
    obtain ⟨v2, ev2, hq⟩ := Option.bind_eq_some_iff.mp hq
    refine jw_getI (o := (some x0)) dX12_save_109 ev2 fl_X12_124 rfl ?_
    obtain ⟨h3, eh3, hq⟩ := Option.bind_eq_some_iff.mp hq
    refine jw_putI (o := (some x0)) dX12_save_112 eh3 fl_X12_476 rfl rfl ?_
    refine jw_aload_n dX12_save_115 (o := (some x0)) rfl ?_
    refine jw_aload_n dX12_save_116 (o := (some x0)) rfl ?_
    obtain ⟨v4, ev4, hq⟩ := Option.bind_eq_some_iff.mp hq
    refine jw_getI (o := (some x0)) dX12_save_117 ev4 fl_X12_366 rfl ?_
    obtain ⟨h5, eh5, hq⟩ := Option.bind_eq_some_iff.mp hq
    refine jw_putI (o := (some x0)) dX12_save_120 eh5 fl_X12_479 rfl rfl ?_
    refine jw_aload_n dX12_save_123 (o := (some x0)) rfl ?_
    refine jw_aload_n dX12_save_124 (o := (some x0)) rfl ?_
    obtain ⟨v6, ev6, hq⟩ := Option.bind_eq_some_iff.mp hq
    refine jw_getI (o := (some x0)) dX12_save_125 ev6 fl_X12_357 rfl ?_
    obtain ⟨h7, eh7, hq⟩ := Option.bind_eq_some_iff.mp hq
    refine jw_putI (o := (some x0)) dX12_save_128 eh7 fl_X12_482 rfl rfl ?_
    refine jw_aload_n dX12_save_131 (o := (some x0)) rfl ?_
    refine jw_aload_n dX12_save_132 (o := (some x0)) rfl ?_
    obtain ⟨v8, ev8, hq⟩ := Option.bind_eq_some_iff.mp hq
    refine jw_getI (o := (some x0)) dX12_save_133 ev8 fl_X12_295 rfl ?_
    obtain ⟨h9, eh9, hq⟩ := Option.bind_eq_some_iff.mp hq
    refine jw_putI (o := (some x0)) dX12_save_136 eh9 fl_X12_485 rfl rfl ?_
    refine jw_aload_n dX12_save_139 (o := (some x0)) rfl ?_
    refine jw_aload_n dX12_save_140 (o := (some x0)) rfl ?_
    obtain ⟨v10, ev10, hq⟩ := Option.bind_eq_some_iff.mp hq
    refine jw_getI (o := (some x0)) dX12_save_141 ev10 fl_X12_134 rfl ?_
    obtain ⟨h11, eh11, hq⟩ := Option.bind_eq_some_iff.mp hq
    refine jw_putI (o := (some x0)) dX12_save_144 eh11 fl_X12_488 rfl rfl ?_
    cases hq
    exact jw_vret dX12_save_147 rfl
  · refine jw_icmp_ge_f (tgt := 107) dX12_save_86 (by decide) c1 ?_
    refine jw_aload_n dX12_save_89 (o := (some x0)) rfl ?_
    obtain ⟨v12, ev12, hq⟩ := Option.bind_eq_some_iff.mp hq
    refine jw_getR (o := (some x0)) dX12_save_90 ev12 fl_X12_68 rfl ?_
    refine jw_iload_n dX12_save_93 rfl ?_
    refine jw_aload_n dX12_save_94 (o := (some x0)) rfl ?_
    obtain ⟨v13, ev13, hq⟩ := Option.bind_eq_some_iff.mp hq
    refine jw_getR (o := (some x0)) dX12_save_95 ev13 fl_X12_38 rfl ?_
    refine jw_iload_n dX12_save_98 rfl ?_
    obtain ⟨v14, ev14, hq⟩ := Option.bind_eq_some_iff.mp hq
    refine jw_iald (o := v13) dX12_save_99 ev14 ?_
    obtain ⟨h15, eh15, hq⟩ := Option.bind_eq_some_iff.mp hq
    refine jw_iast (o := v12) dX12_save_100 eh15 ?_
    refine jw_iinc (L' := [some (.ref x0), some (.int (x1 + (1 : Int32)))]) dX12_save_101 rfl (v := (1 : Int32)) (by decide) (Nat.le_of_ble_eq_true rfl) rfl ?_
    refine jw_goto (tgt := 84) dX12_save_104 (by decide) ?_
    exact hk84 _ _ _ _ _ hq

theorem l_X12_save_b84 {hi : jw_H} : ∀ (n : Nat) (h : jw_H) (x0 : Nat) (x1 : Int32) (r : Unit) (h' : jw_H), f_X12_save_b84  n h x0 x1 = some (r, h') → jw_E 0 uX12_save hi 84 [some (.ref x0), some (.int x1)] [] h (.inl none) h' := by
  intro n
  induction n with
  | zero => intro h x0 x1 r h' hq; exact nomatch hq
  | succ n ih => intro h x0 x1 r h' hq; exact l_X12_save_b84g ih hq

set_option maxRecDepth 100000 in
set_option maxHeartbeats 4000000 in
theorem l_X12_save_b59g {hi : jw_H} {k59 : jw_H → Nat → Int32 → Option (Unit × jw_H)} (hk59 : ∀ (h : jw_H) (x0 : Nat) (x1 : Int32) (r : Unit) (h' : jw_H), k59 h x0 x1 = some (r, h') → jw_E 0 uX12_save hi 59 [some (.ref x0), some (.int x1)] [] h (.inl none) h') {h : jw_H} {x0 : Nat} {x1 : Int32} {r : Unit} {h' : jw_H} (hq : g_X12_save_b59 k59 h x0 x1 = some (r, h')) : jw_E 0 uX12_save hi 59 [some (.ref x0), some (.int x1)] [] h (.inl none) h' := by
  unfold g_X12_save_b59 at hq
  refine jw_iload_n dX12_save_59 rfl ?_
  refine jw_iconst dX12_save_60 (v := (5 : Int32)) (by decide) ?_
  rcases jw_if hq with ⟨c1, hq⟩ | ⟨c1, hq⟩
  · refine jw_icmp_ge_t (tgt := 82) dX12_save_61 (by decide) c1 ?_
    refine jw_iconst dX12_save_82 (v := (0 : Int32)) (by decide) ?_
    refine jw_istore_n (L' := [some (.ref x0), some (.int (0 : Int32))]) dX12_save_83 (Nat.le_of_ble_eq_true rfl) rfl ?_
    exact l_X12_save_b84  jw_FU _ _ _ _ _ hq
  · refine jw_icmp_ge_f (tgt := 82) dX12_save_61 (by decide) c1 ?_
    refine jw_aload_n dX12_save_64 (o := (some x0)) rfl ?_
    obtain ⟨v2, ev2, hq⟩ := Option.bind_eq_some_iff.mp hq
    refine jw_getR (o := (some x0)) dX12_save_65 ev2 fl_X12_65 rfl ?_
    refine jw_iload_n dX12_save_68 rfl ?_
    refine jw_aload_n dX12_save_69 (o := (some x0)) rfl ?_
    obtain ⟨v3, ev3, hq⟩ := Option.bind_eq_some_iff.mp hq
    refine jw_getR (o := (some x0)) dX12_save_70 ev3 fl_X12_35 rfl ?_
    refine jw_iload_n dX12_save_73 rfl ?_
    obtain ⟨v4, ev4, hq⟩ := Option.bind_eq_some_iff.mp hq
    refine jw_iald (o := v3) dX12_save_74 ev4 ?_
    obtain ⟨h5, eh5, hq⟩ := Option.bind_eq_some_iff.mp hq
    refine jw_iast (o := v2) dX12_save_75 eh5 ?_
    refine jw_iinc (L' := [some (.ref x0), some (.int (x1 + (1 : Int32)))]) dX12_save_76 rfl (v := (1 : Int32)) (by decide) (Nat.le_of_ble_eq_true rfl) rfl ?_
    refine jw_goto (tgt := 59) dX12_save_79 (by decide) ?_
    exact hk59 _ _ _ _ _ hq

theorem l_X12_save_b59 {hi : jw_H} : ∀ (n : Nat) (h : jw_H) (x0 : Nat) (x1 : Int32) (r : Unit) (h' : jw_H), f_X12_save_b59  n h x0 x1 = some (r, h') → jw_E 0 uX12_save hi 59 [some (.ref x0), some (.int x1)] [] h (.inl none) h' := by
  intro n
  induction n with
  | zero => intro h x0 x1 r h' hq; exact nomatch hq
  | succ n ih => intro h x0 x1 r h' hq; exact l_X12_save_b59g ih hq

set_option maxRecDepth 100000 in
set_option maxHeartbeats 4000000 in
theorem l_X12_save_b33g {hi : jw_H} {k33 : jw_H → Nat → Int32 → Option (Unit × jw_H)} (hk33 : ∀ (h : jw_H) (x0 : Nat) (x1 : Int32) (r : Unit) (h' : jw_H), k33 h x0 x1 = some (r, h') → jw_E 0 uX12_save hi 33 [some (.ref x0), some (.int x1)] [] h (.inl none) h') {h : jw_H} {x0 : Nat} {x1 : Int32} {r : Unit} {h' : jw_H} (hq : g_X12_save_b33 k33 h x0 x1 = some (r, h')) : jw_E 0 uX12_save hi 33 [some (.ref x0), some (.int x1)] [] h (.inl none) h' := by
  unfold g_X12_save_b33 at hq
  refine jw_iload_n dX12_save_33 rfl ?_
  refine jw_bipush dX12_save_34 (v := (41 : Int32)) (by decide) ?_
  rcases jw_if hq with ⟨c1, hq⟩ | ⟨c1, hq⟩
  · refine jw_icmp_ge_t (tgt := 57) dX12_save_36 (by decide) c1 ?_
    refine jw_iconst dX12_save_57 (v := (0 : Int32)) (by decide) ?_
    refine jw_istore_n (L' := [some (.ref x0), some (.int (0 : Int32))]) dX12_save_58 (Nat.le_of_ble_eq_true rfl) rfl ?_
    exact l_X12_save_b59  jw_FU _ _ _ _ _ hq
  · refine jw_icmp_ge_f (tgt := 57) dX12_save_36 (by decide) c1 ?_
    refine jw_aload_n dX12_save_39 (o := (some x0)) rfl ?_
    obtain ⟨v2, ev2, hq⟩ := Option.bind_eq_some_iff.mp hq
    refine jw_getR (o := (some x0)) dX12_save_40 ev2 fl_X12_62 rfl ?_
    refine jw_iload_n dX12_save_43 rfl ?_
    refine jw_aload_n dX12_save_44 (o := (some x0)) rfl ?_
    obtain ⟨v3, ev3, hq⟩ := Option.bind_eq_some_iff.mp hq
    refine jw_getR (o := (some x0)) dX12_save_45 ev3 fl_X12_26 rfl ?_
    refine jw_iload_n dX12_save_48 rfl ?_
    obtain ⟨v4, ev4, hq⟩ := Option.bind_eq_some_iff.mp hq
    refine jw_iald (o := v3) dX12_save_49 ev4 ?_
    obtain ⟨h5, eh5, hq⟩ := Option.bind_eq_some_iff.mp hq
    refine jw_iast (o := v2) dX12_save_50 eh5 ?_
    refine jw_iinc (L' := [some (.ref x0), some (.int (x1 + (1 : Int32)))]) dX12_save_51 rfl (v := (1 : Int32)) (by decide) (Nat.le_of_ble_eq_true rfl) rfl ?_
    refine jw_goto (tgt := 33) dX12_save_54 (by decide) ?_
    exact hk33 _ _ _ _ _ hq

theorem l_X12_save_b33 {hi : jw_H} : ∀ (n : Nat) (h : jw_H) (x0 : Nat) (x1 : Int32) (r : Unit) (h' : jw_H), f_X12_save_b33  n h x0 x1 = some (r, h') → jw_E 0 uX12_save hi 33 [some (.ref x0), some (.int x1)] [] h (.inl none) h' := by
  intro n
  induction n with
  | zero => intro h x0 x1 r h' hq; exact nomatch hq
  | succ n ih => intro h x0 x1 r h' hq; exact l_X12_save_b33g ih hq

set_option maxRecDepth 100000 in
set_option maxHeartbeats 4000000 in
theorem l_X12_save_b2g {hi : jw_H} {k2 : jw_H → Nat → Int32 → Option (Unit × jw_H)} (hk2 : ∀ (h : jw_H) (x0 : Nat) (x1 : Int32) (r : Unit) (h' : jw_H), k2 h x0 x1 = some (r, h') → jw_E 0 uX12_save hi 2 [some (.ref x0), some (.int x1)] [] h (.inl none) h') {h : jw_H} {x0 : Nat} {x1 : Int32} {r : Unit} {h' : jw_H} (hq : g_X12_save_b2 k2 h x0 x1 = some (r, h')) : jw_E 0 uX12_save hi 2 [some (.ref x0), some (.int x1)] [] h (.inl none) h' := by
  unfold g_X12_save_b2 at hq
  refine jw_iload_n dX12_save_2 rfl ?_
  refine jw_sipush dX12_save_3 (v := (12028 : Int32)) (by decide) ?_
  rcases jw_if hq with ⟨c1, hq⟩ | ⟨c1, hq⟩
  · refine jw_icmp_ge_t (tgt := 31) dX12_save_6 (by decide) c1 ?_
    refine jw_iconst dX12_save_31 (v := (0 : Int32)) (by decide) ?_
    refine jw_istore_n (L' := [some (.ref x0), some (.int (0 : Int32))]) dX12_save_32 (Nat.le_of_ble_eq_true rfl) rfl ?_
    exact l_X12_save_b33  jw_FU _ _ _ _ _ hq
  · refine jw_icmp_ge_f (tgt := 31) dX12_save_6 (by decide) c1 ?_
    refine jw_aload_n dX12_save_9 (o := (some x0)) rfl ?_
    obtain ⟨v2, ev2, hq⟩ := Option.bind_eq_some_iff.mp hq
    refine jw_getR (o := (some x0)) dX12_save_10 ev2 fl_X12_23 rfl ?_
    refine jw_sipush dX12_save_13 (v := (14880 : Int32)) (by decide) ?_
    refine jw_iload_n dX12_save_16 rfl ?_
    refine jw_iadd dX12_save_17 ?_
    refine jw_aload_n dX12_save_18 (o := (some x0)) rfl ?_
    obtain ⟨v3, ev3, hq⟩ := Option.bind_eq_some_iff.mp hq
    refine jw_getR (o := (some x0)) dX12_save_19 ev3 fl_X12_23 rfl ?_
    refine jw_iload_n dX12_save_22 rfl ?_
    obtain ⟨v4, ev4, hq⟩ := Option.bind_eq_some_iff.mp hq
    refine jw_iald (o := v3) dX12_save_23 ev4 ?_
    obtain ⟨h5, eh5, hq⟩ := Option.bind_eq_some_iff.mp hq
    refine jw_iast (o := v2) dX12_save_24 eh5 ?_
    refine jw_iinc (L' := [some (.ref x0), some (.int (x1 + (1 : Int32)))]) dX12_save_25 rfl (v := (1 : Int32)) (by decide) (Nat.le_of_ble_eq_true rfl) rfl ?_
    refine jw_goto (tgt := 2) dX12_save_28 (by decide) ?_
    exact hk2 _ _ _ _ _ hq

theorem l_X12_save_b2 {hi : jw_H} : ∀ (n : Nat) (h : jw_H) (x0 : Nat) (x1 : Int32) (r : Unit) (h' : jw_H), f_X12_save_b2  n h x0 x1 = some (r, h') → jw_E 0 uX12_save hi 2 [some (.ref x0), some (.int x1)] [] h (.inl none) h' := by
  intro n
  induction n with
  | zero => intro h x0 x1 r h' hq; exact nomatch hq
  | succ n ih => intro h x0 x1 r h' hq; exact l_X12_save_b2g ih hq

set_option maxRecDepth 100000 in
set_option maxHeartbeats 4000000 in
theorem l_X12_save {hi : jw_H} {h : jw_H} {x0 : Nat} {r : Unit} {h' : jw_H} (hq : f_X12_save  h x0 = some (r, h')) : jw_E 0 uX12_save hi 0 [some (.ref x0), none] [] h (.inl none) h' := by
  unfold f_X12_save at hq
  refine jw_iconst dX12_save_0 (v := (0 : Int32)) (by decide) ?_
  refine jw_istore_n (L' := [some (.ref x0), some (.int (0 : Int32))]) dX12_save_1 (Nat.le_of_ble_eq_true rfl) rfl ?_
  exact l_X12_save_b2  jw_FU _ _ _ _ _ hq

theorem c_X12_save {h : jw_H} {x0 : Nat} {r : Unit} {h' : jw_H} (hq : f_X12_save h x0 = some (r, h')) : jw_Con (Cond.code yX12_save cX12_save 2 none) yX12_save 0 [.ref x0] h (.inl none) h' :=
  jw_con false (plainFor_of_name (by decide +kernel)) (fun z => nomatch z) (by simp [jw_ent, jw_sl0_nil, jw_sl0_int, jw_sl0_long, jw_sl0_ref, jw_sl0_rf, jw_sl0_scr, List.replicate]) (by simp [jw_sl0_nil, jw_sl0_int, jw_sl0_long, jw_sl0_ref, jw_sl0_rf, jw_sl0_scr]) (l_X12_save hq)

