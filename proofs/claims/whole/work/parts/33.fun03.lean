/-! X6_readTurn -/
noncomputable def g_X6_readTurn_b96 (k96 : jw_H → Nat → Option Nat → Int32 → Option (Int32 × jw_H)) (h : jw_H) (x0 : Nat) (x1 : Option Nat) (x2 : Int32) : Option (Int32 × jw_H) :=
 (jw_gI h 5 x1 5).bind fun v1 =>
 if v1 ≤ x2 then ((jw_rc h 6 (some x0)).bind fun a3 =>
 jw_b2 (f_X6_pass h a3 (47 : Int32)) fun w5 h4 =>
 (jw_rb w5).bind fun v6 =>
 some (w5, h4))
 else ((jw_rc h 6 (some x0)).bind fun a7 =>
 jw_b2 (f_X6_peek h a7) fun w9 h8 =>
 jw_b2 (f_X11_bitOf h8 w9) fun w11 h10 =>
 if (lg_cmp w11 (0 : Int64)) = 0 then (some ((0 : Int32), h10))
 else ((jw_gI h10 6 (some x0) 5).bind fun v13 =>
 (jw_pI h10 6 (some x0) 5 (v13 + (1 : Int32))).bind fun h14 =>
 k96 h14 x0 x1 (x2 + (1 : Int32))))

noncomputable def f_X6_readTurn_b96 (n : Nat) : jw_H → Nat → Option Nat → Int32 → Option (Int32 × jw_H) :=
 Nat.rec (fun _ _ _ _ => none) (fun _ k96 => g_X6_readTurn_b96 k96) n

noncomputable def g_X6_readTurn_b55 (h : jw_H) (x0 : Nat) (x1 : Option Nat) : Option (Int32 × jw_H) :=
 (jw_gI h 6 (some x0) 5).bind fun v1 =>
 (jw_gI h 5 x1 7).bind fun v2 =>
 (jw_pI h 5 x1 5 (v1 - v2)).bind fun h3 =>
 (jw_gI h3 5 x1 5).bind fun v4 =>
 if v4 = 0 then (some ((0 : Int32), h3))
 else ((jw_rc h3 6 (some x0)).bind fun a6 =>
 jw_b2 (f_X6_pass h3 a6 (47 : Int32)) fun w8 h7 =>
 if w8 = 0 then (some ((0 : Int32), h7))
 else ((jw_gI h7 6 (some x0) 5).bind fun v10 =>
 (jw_pI h7 5 x1 8 v10).bind fun h11 =>
 f_X6_readTurn_b96  jw_FU h11 x0 x1 (0 : Int32)))

noncomputable def g_X6_readTurn_b21 (k21 : jw_H → Nat → Option Nat → Int32 → Option (Int32 × jw_H)) (h : jw_H) (x0 : Nat) (x1 : Option Nat) (x2 : Int32) : Option (Int32 × jw_H) :=
 if (60 : Int32) < x2 then (g_X6_readTurn_b55  h x0 x1)
 else ((jw_rc h 6 (some x0)).bind fun a2 =>
 jw_b2 (f_X6_peek h a2) fun w4 h3 =>
 jw_b2 (f_X11_bitOf h3 w4) fun w6 h5 =>
 if (lg_cmp w6 (0 : Int64)) = 0 then (g_X6_readTurn_b55  h5 x0 x1)
 else ((jw_gI h5 6 (some x0) 5).bind fun v8 =>
 (jw_pI h5 6 (some x0) 5 (v8 + (1 : Int32))).bind fun h9 =>
 k21 h9 x0 x1 (x2 + (1 : Int32))))

noncomputable def f_X6_readTurn_b21 (n : Nat) : jw_H → Nat → Option Nat → Int32 → Option (Int32 × jw_H) :=
 Nat.rec (fun _ _ _ _ => none) (fun _ k21 => g_X6_readTurn_b21 k21) n

noncomputable def f_X6_readTurn (h : jw_H) (x0 : Nat) (x1 : Option Nat) : Option (Int32 × jw_H) :=
 (jw_rc h 6 (some x0)).bind fun a1 =>
 jw_b2 (f_X6_pass h a1 (47 : Int32)) fun w3 h2 =>
 if w3 = 0 then (some ((0 : Int32), h2))
 else ((jw_gI h2 6 (some x0) 5).bind fun v5 =>
 (jw_pI h2 5 x1 7 v5).bind fun h6 =>
 f_X6_readTurn_b21  jw_FU h6 x0 x1 (0 : Int32))

set_option maxRecDepth 100000 in
set_option maxHeartbeats 4000000 in
theorem l_X6_readTurn_b96g {hi : jw_H} {k96 : jw_H → Nat → Option Nat → Int32 → Option (Int32 × jw_H)} (hk96 : ∀ (h : jw_H) (x0 : Nat) (x1 : Option Nat) (x2 : Int32) (r : Int32) (h' : jw_H), k96 h x0 x1 x2 = some (r, h') → jw_E 1 uX6_readTurn hi 96 [some (.ref x0), some (va_rf x1), some (.int x2)] [] h (.inl (some (.int r))) h') {h : jw_H} {x0 : Nat} {x1 : Option Nat} {x2 : Int32} {r : Int32} {h' : jw_H} (hq : g_X6_readTurn_b96 k96 h x0 x1 x2 = some (r, h')) : jw_E 1 uX6_readTurn hi 96 [some (.ref x0), some (va_rf x1), some (.int x2)] [] h (.inl (some (.int r))) h' := by
  unfold g_X6_readTurn_b96 at hq
  refine jw_iload_n dX6_readTurn_96 rfl ?_
  refine jw_aload_n dX6_readTurn_97 (o := x1) rfl ?_
  obtain ⟨v1, ev1, hq⟩ := Option.bind_eq_some_iff.mp hq
  refine jw_getI (o := x1) dX6_readTurn_98 ev1 fl_X6_140 rfl ?_
  rcases jw_if hq with ⟨c2, hq⟩ | ⟨c2, hq⟩
  · refine jw_icmp_ge_t (tgt := 134) dX6_readTurn_101 (by decide) c2 ?_
    refine jw_aload_n dX6_readTurn_134 (o := (some x0)) rfl ?_
    refine jw_bipush dX6_readTurn_135 (v := (47 : Int32)) (by decide) ?_
    obtain ⟨a3, ea3, hq⟩ := Option.bind_eq_some_iff.mp hq
    obtain ⟨eoa3, eta3⟩ := jw_rc_spec ea3
    obtain ⟨w5, h4, ew5, hq⟩ := jw_b2_spec hq
    refine jw_callV (As := [.int (47 : Int32)]) (S := []) (a := a3) (v := some (.int w5)) dX6_readTurn_137 mt_X6_pass in_X6_pass se_X6_pass lk_X6_72 (c_X6_pass ew5) eta3 (by decide) rfl rfl (by decide) (Nat.le_of_ble_eq_true rfl) (by cases eoa3; rfl) ?_
    obtain ⟨v6, ev6, hq⟩ := Option.bind_eq_some_iff.mp hq
    cases hq
    exact jw_iret (ty := .boolean) dX6_readTurn_140 rfl (jw_rb_spec ev6)
  · refine jw_icmp_ge_f (tgt := 134) dX6_readTurn_101 (by decide) c2 ?_
    refine jw_aload_n dX6_readTurn_104 (o := (some x0)) rfl ?_
    obtain ⟨a7, ea7, hq⟩ := Option.bind_eq_some_iff.mp hq
    obtain ⟨eoa7, eta7⟩ := jw_rc_spec ea7
    obtain ⟨w9, h8, ew9, hq⟩ := jw_b2_spec hq
    refine jw_callV (As := []) (S := []) (a := a7) (v := some (.int w9)) dX6_readTurn_105 mt_X6_peek in_X6_peek se_X6_peek lk_X6_93 (c_X6_peek ew9) eta7 (by decide) rfl rfl (by decide) (Nat.le_of_ble_eq_true rfl) (by cases eoa7; rfl) ?_
    obtain ⟨w11, h10, ew11, hq⟩ := jw_b2_spec hq
    refine jw_callS (As := [.int w9]) (S := []) (v := some (.long w11)) dX6_readTurn_108 mt_X11_bitOf st_X11_bitOf lk_X6_158 (c_X11_bitOf ew11) rfl (by decide) (Nat.le_of_ble_eq_true rfl) rfl ?_
    refine jw_lconst dX6_readTurn_111 (v := (0 : Int64)) (by decide) ?_
    refine jw_lcmp dX6_readTurn_112 ?_
    rcases jw_if hq with ⟨c12, hq⟩ | ⟨c12, hq⟩
    · refine jw_if_ne_f (tgt := 118) dX6_readTurn_113 (by decide) c12 ?_
      refine jw_iconst dX6_readTurn_116 (v := (0 : Int32)) (by decide) ?_
      cases hq
      exact jw_iret (ty := .boolean) dX6_readTurn_117 rfl rfl
    · refine jw_if_ne_t (tgt := 118) dX6_readTurn_113 (by decide) c12 ?_
      refine jw_aload_n dX6_readTurn_118 (o := (some x0)) rfl ?_
      refine jw_dup dX6_readTurn_119 rfl ?_
      obtain ⟨v13, ev13, hq⟩ := Option.bind_eq_some_iff.mp hq
      refine jw_getI (o := (some x0)) dX6_readTurn_120 ev13 fl_X6_43 rfl ?_
      refine jw_iconst dX6_readTurn_123 (v := (1 : Int32)) (by decide) ?_
      refine jw_iadd dX6_readTurn_124 ?_
      obtain ⟨h14, eh14, hq⟩ := Option.bind_eq_some_iff.mp hq
      refine jw_putI (o := (some x0)) dX6_readTurn_125 eh14 fl_X6_43 rfl rfl ?_
      refine jw_iinc (L' := [some (.ref x0), some (va_rf x1), some (.int (x2 + (1 : Int32)))]) dX6_readTurn_128 rfl (v := (1 : Int32)) (by decide) (Nat.le_of_ble_eq_true rfl) ((jw_st1_of (j := 1) jw_long_rf).trans rfl) ?_
      refine jw_goto (tgt := 96) dX6_readTurn_131 (by decide) ?_
      exact hk96 _ _ _ _ _ _ hq

theorem l_X6_readTurn_b96 {hi : jw_H} : ∀ (n : Nat) (h : jw_H) (x0 : Nat) (x1 : Option Nat) (x2 : Int32) (r : Int32) (h' : jw_H), f_X6_readTurn_b96  n h x0 x1 x2 = some (r, h') → jw_E 1 uX6_readTurn hi 96 [some (.ref x0), some (va_rf x1), some (.int x2)] [] h (.inl (some (.int r))) h' := by
  intro n
  induction n with
  | zero => intro h x0 x1 x2 r h' hq; exact nomatch hq
  | succ n ih => intro h x0 x1 x2 r h' hq; exact l_X6_readTurn_b96g ih hq

set_option maxRecDepth 100000 in
set_option maxHeartbeats 4000000 in
theorem l_X6_readTurn_b55 {hi : jw_H} {h : jw_H} {x0 : Nat} {x1 : Option Nat} {r : Int32} {h' : jw_H} (hq : g_X6_readTurn_b55  h x0 x1 = some (r, h')) : jw_E 1 uX6_readTurn hi 55 [some (.ref x0), some (va_rf x1), none] [] h (.inl (some (.int r))) h' := by
  unfold g_X6_readTurn_b55 at hq
  refine jw_aload_n dX6_readTurn_55 (o := x1) rfl ?_
  refine jw_aload_n dX6_readTurn_56 (o := (some x0)) rfl ?_
  obtain ⟨v1, ev1, hq⟩ := Option.bind_eq_some_iff.mp hq
  refine jw_getI (o := (some x0)) dX6_readTurn_57 ev1 fl_X6_43 rfl ?_
  refine jw_aload_n dX6_readTurn_60 (o := x1) rfl ?_
  obtain ⟨v2, ev2, hq⟩ := Option.bind_eq_some_iff.mp hq
  refine jw_getI (o := x1) dX6_readTurn_61 ev2 fl_X6_155 rfl ?_
  refine jw_isub dX6_readTurn_64 ?_
  obtain ⟨h3, eh3, hq⟩ := Option.bind_eq_some_iff.mp hq
  refine jw_putI (o := x1) dX6_readTurn_65 eh3 fl_X6_140 rfl rfl ?_
  refine jw_aload_n dX6_readTurn_68 (o := x1) rfl ?_
  obtain ⟨v4, ev4, hq⟩ := Option.bind_eq_some_iff.mp hq
  refine jw_getI (o := x1) dX6_readTurn_69 ev4 fl_X6_140 rfl ?_
  rcases jw_if hq with ⟨c5, hq⟩ | ⟨c5, hq⟩
  · refine jw_if_eq_t (tgt := 84) dX6_readTurn_72 (by decide) c5 ?_
    refine jw_iconst dX6_readTurn_84 (v := (0 : Int32)) (by decide) ?_
    cases hq
    exact jw_iret (ty := .boolean) dX6_readTurn_85 rfl rfl
  · refine jw_if_eq_f (tgt := 84) dX6_readTurn_72 (by decide) c5 ?_
    refine jw_aload_n dX6_readTurn_75 (o := (some x0)) rfl ?_
    refine jw_bipush dX6_readTurn_76 (v := (47 : Int32)) (by decide) ?_
    obtain ⟨a6, ea6, hq⟩ := Option.bind_eq_some_iff.mp hq
    obtain ⟨eoa6, eta6⟩ := jw_rc_spec ea6
    obtain ⟨w8, h7, ew8, hq⟩ := jw_b2_spec hq
    refine jw_callV (As := [.int (47 : Int32)]) (S := []) (a := a6) (v := some (.int w8)) dX6_readTurn_78 mt_X6_pass in_X6_pass se_X6_pass lk_X6_72 (c_X6_pass ew8) eta6 (by decide) rfl rfl (by decide) (Nat.le_of_ble_eq_true rfl) (by cases eoa6; rfl) ?_
    rcases jw_if hq with ⟨c9, hq⟩ | ⟨c9, hq⟩
    · refine jw_if_ne_f (tgt := 86) dX6_readTurn_81 (by decide) c9 ?_
      refine jw_iconst dX6_readTurn_84 (v := (0 : Int32)) (by decide) ?_
      cases hq
      exact jw_iret (ty := .boolean) dX6_readTurn_85 rfl rfl
    · refine jw_if_ne_t (tgt := 86) dX6_readTurn_81 (by decide) c9 ?_
      refine jw_aload_n dX6_readTurn_86 (o := x1) rfl ?_
      refine jw_aload_n dX6_readTurn_87 (o := (some x0)) rfl ?_
      obtain ⟨v10, ev10, hq⟩ := Option.bind_eq_some_iff.mp hq
      refine jw_getI (o := (some x0)) dX6_readTurn_88 ev10 fl_X6_43 rfl ?_
      obtain ⟨h11, eh11, hq⟩ := Option.bind_eq_some_iff.mp hq
      refine jw_putI (o := x1) dX6_readTurn_91 eh11 fl_X6_162 rfl rfl ?_
      refine jw_iconst dX6_readTurn_94 (v := (0 : Int32)) (by decide) ?_
      refine jw_istore_n (L' := [some (.ref x0), some (va_rf x1), some (.int (0 : Int32))]) dX6_readTurn_95 (Nat.le_of_ble_eq_true rfl) ((jw_st1_of (j := 1) jw_long_rf).trans rfl) ?_
      exact l_X6_readTurn_b96  jw_FU _ _ _ _ _ _ hq

set_option maxRecDepth 100000 in
set_option maxHeartbeats 4000000 in
theorem l_X6_readTurn_b21g {hi : jw_H} {k21 : jw_H → Nat → Option Nat → Int32 → Option (Int32 × jw_H)} (hk21 : ∀ (h : jw_H) (x0 : Nat) (x1 : Option Nat) (x2 : Int32) (r : Int32) (h' : jw_H), k21 h x0 x1 x2 = some (r, h') → jw_E 1 uX6_readTurn hi 21 [some (.ref x0), some (va_rf x1), some (.int x2)] [] h (.inl (some (.int r))) h') {h : jw_H} {x0 : Nat} {x1 : Option Nat} {x2 : Int32} {r : Int32} {h' : jw_H} (hq : g_X6_readTurn_b21 k21 h x0 x1 x2 = some (r, h')) : jw_E 1 uX6_readTurn hi 21 [some (.ref x0), some (va_rf x1), some (.int x2)] [] h (.inl (some (.int r))) h' := by
  unfold g_X6_readTurn_b21 at hq
  refine jw_iload_n dX6_readTurn_21 rfl ?_
  refine jw_bipush dX6_readTurn_22 (v := (60 : Int32)) (by decide) ?_
  rcases jw_if hq with ⟨c1, hq⟩ | ⟨c1, hq⟩
  · refine jw_icmp_gt_t (tgt := 55) dX6_readTurn_24 (by decide) c1 ?_
    refine jw_forget [true, true, false] (L' := [some (.ref x0), some (va_rf x1), none]) rfl ?_
    exact l_X6_readTurn_b55  hq
  · refine jw_icmp_gt_f (tgt := 55) dX6_readTurn_24 (by decide) c1 ?_
    refine jw_aload_n dX6_readTurn_27 (o := (some x0)) rfl ?_
    obtain ⟨a2, ea2, hq⟩ := Option.bind_eq_some_iff.mp hq
    obtain ⟨eoa2, eta2⟩ := jw_rc_spec ea2
    obtain ⟨w4, h3, ew4, hq⟩ := jw_b2_spec hq
    refine jw_callV (As := []) (S := []) (a := a2) (v := some (.int w4)) dX6_readTurn_28 mt_X6_peek in_X6_peek se_X6_peek lk_X6_93 (c_X6_peek ew4) eta2 (by decide) rfl rfl (by decide) (Nat.le_of_ble_eq_true rfl) (by cases eoa2; rfl) ?_
    obtain ⟨w6, h5, ew6, hq⟩ := jw_b2_spec hq
    refine jw_callS (As := [.int w4]) (S := []) (v := some (.long w6)) dX6_readTurn_31 mt_X11_bitOf st_X11_bitOf lk_X6_158 (c_X11_bitOf ew6) rfl (by decide) (Nat.le_of_ble_eq_true rfl) rfl ?_
    refine jw_lconst dX6_readTurn_34 (v := (0 : Int64)) (by decide) ?_
    refine jw_lcmp dX6_readTurn_35 ?_
    rcases jw_if hq with ⟨c7, hq⟩ | ⟨c7, hq⟩
    · refine jw_if_eq_t (tgt := 55) dX6_readTurn_36 (by decide) c7 ?_
      refine jw_forget [true, true, false] (L' := [some (.ref x0), some (va_rf x1), none]) rfl ?_
      exact l_X6_readTurn_b55  hq
    · refine jw_if_eq_f (tgt := 55) dX6_readTurn_36 (by decide) c7 ?_
      refine jw_aload_n dX6_readTurn_39 (o := (some x0)) rfl ?_
      refine jw_dup dX6_readTurn_40 rfl ?_
      obtain ⟨v8, ev8, hq⟩ := Option.bind_eq_some_iff.mp hq
      refine jw_getI (o := (some x0)) dX6_readTurn_41 ev8 fl_X6_43 rfl ?_
      refine jw_iconst dX6_readTurn_44 (v := (1 : Int32)) (by decide) ?_
      refine jw_iadd dX6_readTurn_45 ?_
      obtain ⟨h9, eh9, hq⟩ := Option.bind_eq_some_iff.mp hq
      refine jw_putI (o := (some x0)) dX6_readTurn_46 eh9 fl_X6_43 rfl rfl ?_
      refine jw_iinc (L' := [some (.ref x0), some (va_rf x1), some (.int (x2 + (1 : Int32)))]) dX6_readTurn_49 rfl (v := (1 : Int32)) (by decide) (Nat.le_of_ble_eq_true rfl) ((jw_st1_of (j := 1) jw_long_rf).trans rfl) ?_
      refine jw_goto (tgt := 21) dX6_readTurn_52 (by decide) ?_
      exact hk21 _ _ _ _ _ _ hq

theorem l_X6_readTurn_b21 {hi : jw_H} : ∀ (n : Nat) (h : jw_H) (x0 : Nat) (x1 : Option Nat) (x2 : Int32) (r : Int32) (h' : jw_H), f_X6_readTurn_b21  n h x0 x1 x2 = some (r, h') → jw_E 1 uX6_readTurn hi 21 [some (.ref x0), some (va_rf x1), some (.int x2)] [] h (.inl (some (.int r))) h' := by
  intro n
  induction n with
  | zero => intro h x0 x1 x2 r h' hq; exact nomatch hq
  | succ n ih => intro h x0 x1 x2 r h' hq; exact l_X6_readTurn_b21g ih hq

set_option maxRecDepth 100000 in
set_option maxHeartbeats 4000000 in
theorem l_X6_readTurn {hi : jw_H} {h : jw_H} {x0 : Nat} {x1 : Option Nat} {r : Int32} {h' : jw_H} (hq : f_X6_readTurn  h x0 x1 = some (r, h')) : jw_E 1 uX6_readTurn hi 0 [some (.ref x0), some (va_rf x1), none] [] h (.inl (some (.int r))) h' := by
  unfold f_X6_readTurn at hq
  refine jw_aload_n dX6_readTurn_0 (o := (some x0)) rfl ?_
  refine jw_bipush dX6_readTurn_1 (v := (47 : Int32)) (by decide) ?_
  obtain ⟨a1, ea1, hq⟩ := Option.bind_eq_some_iff.mp hq
  obtain ⟨eoa1, eta1⟩ := jw_rc_spec ea1
  obtain ⟨w3, h2, ew3, hq⟩ := jw_b2_spec hq
  refine jw_callV (As := [.int (47 : Int32)]) (S := []) (a := a1) (v := some (.int w3)) dX6_readTurn_3 mt_X6_pass in_X6_pass se_X6_pass lk_X6_72 (c_X6_pass ew3) eta1 (by decide) rfl rfl (by decide) (Nat.le_of_ble_eq_true rfl) (by cases eoa1; rfl) ?_
  rcases jw_if hq with ⟨c4, hq⟩ | ⟨c4, hq⟩
  · refine jw_if_ne_f (tgt := 11) dX6_readTurn_6 (by decide) c4 ?_
    refine jw_iconst dX6_readTurn_9 (v := (0 : Int32)) (by decide) ?_
    cases hq
    exact jw_iret (ty := .boolean) dX6_readTurn_10 rfl rfl
  · refine jw_if_ne_t (tgt := 11) dX6_readTurn_6 (by decide) c4 ?_
    refine jw_aload_n dX6_readTurn_11 (o := x1) rfl ?_
    refine jw_aload_n dX6_readTurn_12 (o := (some x0)) rfl ?_
    obtain ⟨v5, ev5, hq⟩ := Option.bind_eq_some_iff.mp hq
    refine jw_getI (o := (some x0)) dX6_readTurn_13 ev5 fl_X6_43 rfl ?_
    obtain ⟨h6, eh6, hq⟩ := Option.bind_eq_some_iff.mp hq
    refine jw_putI (o := x1) dX6_readTurn_16 eh6 fl_X6_155 rfl rfl ?_
    refine jw_iconst dX6_readTurn_19 (v := (0 : Int32)) (by decide) ?_
    refine jw_istore_n (L' := [some (.ref x0), some (va_rf x1), some (.int (0 : Int32))]) dX6_readTurn_20 (Nat.le_of_ble_eq_true rfl) ((jw_st1_of (j := 1) jw_long_rf).trans rfl) ?_
    exact l_X6_readTurn_b21  jw_FU _ _ _ _ _ _ hq

theorem c_X6_readTurn {h : jw_H} {x0 : Nat} {x1 : Option Nat} {r : Int32} {h' : jw_H} (hq : f_X6_readTurn h x0 x1 = some (r, h')) : jw_Con (Cond.code yX6_readTurn cX6_readTurn 3 (some .boolean)) yX6_readTurn 1 [.ref x0, va_rf x1] h (.inl (some (.int r))) h' :=
  jw_con false (plainFor_of_name (by decide +kernel)) (fun z => nomatch z) (by simp [jw_ent, jw_sl0_nil, jw_sl0_int, jw_sl0_long, jw_sl0_ref, jw_sl0_rf, jw_sl0_scr, List.replicate]) (by simp [jw_sl0_nil, jw_sl0_int, jw_sl0_long, jw_sl0_ref, jw_sl0_rf, jw_sl0_scr]) (l_X6_readTurn hq)


/-! X6_readPatternOf -/
noncomputable def g_X6_readPatternOf_b41 (h : jw_H) (t0 : Int32) : Option (Int32 × jw_H) :=
 (jw_rb t0).bind fun v1 =>
 some (t0, h)

noncomputable def g_X6_readPatternOf_b40 (h : jw_H)  : Option (Int32 × jw_H) :=
 g_X6_readPatternOf_b41  h (0 : Int32)

noncomputable def f_X6_readPatternOf (h : jw_H) (x0 : Nat) (x1 : Option Nat) : Option (Int32 × jw_H) :=
 (jw_rc h 6 (some x0)).bind fun a1 =>
 jw_b2 (f_X6_pass h a1 (47 : Int32)) fun w3 h2 =>
 if w3 = 0 then (some ((0 : Int32), h2))
 else ((jw_rc h2 6 (some x0)).bind fun a5 =>
 jw_b2 (f_X6_readPattern h2 a5) fun w7 h6 =>
 (jw_pI h6 5 x1 6 w7).bind fun h8 =>
 (jw_gI h8 5 x1 6).bind fun v9 =>
 if v9 = (-1 : Int32) then (g_X6_readPatternOf_b40  h8 )
 else ((jw_rc h8 6 (some x0)).bind fun a11 =>
 jw_b2 (f_X6_pass h8 a11 (47 : Int32)) fun w13 h12 =>
 if w13 = 0 then (g_X6_readPatternOf_b40  h12 )
 else (g_X6_readPatternOf_b41  h12 (1 : Int32))))

set_option maxRecDepth 100000 in
set_option maxHeartbeats 4000000 in
theorem l_X6_readPatternOf_b41 {hi : jw_H} {h : jw_H} {t0 : Int32} {r : Int32} {h' : jw_H} (hq : g_X6_readPatternOf_b41  h t0 = some (r, h')) : jw_E 3 uX6_readPatternOf hi 41 [none, none] [.int t0] h (.inl (some (.int r))) h' := by
  unfold g_X6_readPatternOf_b41 at hq
  obtain ⟨v1, ev1, hq⟩ := Option.bind_eq_some_iff.mp hq
  cases hq
  exact jw_iret (ty := .boolean) dX6_readPatternOf_41 rfl (jw_rb_spec ev1)

set_option maxRecDepth 100000 in
set_option maxHeartbeats 4000000 in
theorem l_X6_readPatternOf_b40 {hi : jw_H} {h : jw_H}  {r : Int32} {h' : jw_H} (hq : g_X6_readPatternOf_b40  h  = some (r, h')) : jw_E 3 uX6_readPatternOf hi 40 [none, none] [] h (.inl (some (.int r))) h' := by
  unfold g_X6_readPatternOf_b40 at hq
  refine jw_iconst dX6_readPatternOf_40 (v := (0 : Int32)) (by decide) ?_
  exact l_X6_readPatternOf_b41  hq

set_option maxRecDepth 100000 in
set_option maxHeartbeats 4000000 in
theorem l_X6_readPatternOf {hi : jw_H} {h : jw_H} {x0 : Nat} {x1 : Option Nat} {r : Int32} {h' : jw_H} (hq : f_X6_readPatternOf  h x0 x1 = some (r, h')) : jw_E 3 uX6_readPatternOf hi 0 [some (.ref x0), some (va_rf x1)] [] h (.inl (some (.int r))) h' := by
  unfold f_X6_readPatternOf at hq
  refine jw_aload_n dX6_readPatternOf_0 (o := (some x0)) rfl ?_
  refine jw_bipush dX6_readPatternOf_1 (v := (47 : Int32)) (by decide) ?_
  obtain ⟨a1, ea1, hq⟩ := Option.bind_eq_some_iff.mp hq
  obtain ⟨eoa1, eta1⟩ := jw_rc_spec ea1
  obtain ⟨w3, h2, ew3, hq⟩ := jw_b2_spec hq
  refine jw_callV (As := [.int (47 : Int32)]) (S := []) (a := a1) (v := some (.int w3)) dX6_readPatternOf_3 mt_X6_pass in_X6_pass se_X6_pass lk_X6_72 (c_X6_pass ew3) eta1 (by decide) rfl rfl (by decide) (Nat.le_of_ble_eq_true rfl) (by cases eoa1; rfl) ?_
  rcases jw_if hq with ⟨c4, hq⟩ | ⟨c4, hq⟩
  · refine jw_if_ne_f (tgt := 11) dX6_readPatternOf_6 (by decide) c4 ?_
    refine jw_iconst dX6_readPatternOf_9 (v := (0 : Int32)) (by decide) ?_
    cases hq
    exact jw_iret (ty := .boolean) dX6_readPatternOf_10 rfl rfl
  · refine jw_if_ne_t (tgt := 11) dX6_readPatternOf_6 (by decide) c4 ?_
    refine jw_aload_n dX6_readPatternOf_11 (o := x1) rfl ?_
    refine jw_aload_n dX6_readPatternOf_12 (o := (some x0)) rfl ?_
    obtain ⟨a5, ea5, hq⟩ := Option.bind_eq_some_iff.mp hq
    obtain ⟨eoa5, eta5⟩ := jw_rc_spec ea5
    obtain ⟨w7, h6, ew7, hq⟩ := jw_b2_spec hq
    refine jw_callV (As := []) (S := [va_rf x1]) (a := a5) (v := some (.int w7)) dX6_readPatternOf_13 mt_X6_readPattern in_X6_readPattern se_X6_readPattern lk_X6_53 (c_X6_readPattern ew7) eta5 (by decide) rfl rfl (by decide) (by simp only [List.map_cons, List.map_nil, List.sum_cons, List.sum_nil, jw_cat_rf, jw_cat_i, jw_cat_l, jw_cat_a, jw_cat_s] <;> decide) (by cases eoa5; rfl) ?_
    obtain ⟨h8, eh8, hq⟩ := Option.bind_eq_some_iff.mp hq
    refine jw_putI (o := x1) dX6_readPatternOf_16 eh8 fl_X6_165 rfl rfl ?_
    refine jw_aload_n dX6_readPatternOf_19 (o := x1) rfl ?_
    obtain ⟨v9, ev9, hq⟩ := Option.bind_eq_some_iff.mp hq
    refine jw_getI (o := x1) dX6_readPatternOf_20 ev9 fl_X6_165 rfl ?_
    refine jw_iconst dX6_readPatternOf_23 (v := (-1 : Int32)) (by decide) ?_
    rcases jw_if hq with ⟨c10, hq⟩ | ⟨c10, hq⟩
    · refine jw_icmp_eq_t (tgt := 40) dX6_readPatternOf_24 (by decide) c10 ?_
      refine jw_forget [false, false] (L' := [none, none]) rfl ?_
      exact l_X6_readPatternOf_b40  hq
    · refine jw_icmp_eq_f (tgt := 40) dX6_readPatternOf_24 (by decide) c10 ?_
      refine jw_aload_n dX6_readPatternOf_27 (o := (some x0)) rfl ?_
      refine jw_bipush dX6_readPatternOf_28 (v := (47 : Int32)) (by decide) ?_
      obtain ⟨a11, ea11, hq⟩ := Option.bind_eq_some_iff.mp hq
      obtain ⟨eoa11, eta11⟩ := jw_rc_spec ea11
      obtain ⟨w13, h12, ew13, hq⟩ := jw_b2_spec hq
      refine jw_callV (As := [.int (47 : Int32)]) (S := []) (a := a11) (v := some (.int w13)) dX6_readPatternOf_30 mt_X6_pass in_X6_pass se_X6_pass lk_X6_72 (c_X6_pass ew13) eta11 (by decide) rfl rfl (by decide) (Nat.le_of_ble_eq_true rfl) (by cases eoa11; rfl) ?_
      rcases jw_if hq with ⟨c14, hq⟩ | ⟨c14, hq⟩
      · refine jw_if_eq_t (tgt := 40) dX6_readPatternOf_33 (by decide) c14 ?_
        refine jw_forget [false, false] (L' := [none, none]) rfl ?_
        exact l_X6_readPatternOf_b40  hq
      · refine jw_if_eq_f (tgt := 40) dX6_readPatternOf_33 (by decide) c14 ?_
        refine jw_iconst dX6_readPatternOf_36 (v := (1 : Int32)) (by decide) ?_
        refine jw_goto (tgt := 41) dX6_readPatternOf_37 (by decide) ?_
        refine jw_forget [false, false] (L' := [none, none]) rfl ?_
        exact l_X6_readPatternOf_b41  hq

theorem c_X6_readPatternOf {h : jw_H} {x0 : Nat} {x1 : Option Nat} {r : Int32} {h' : jw_H} (hq : f_X6_readPatternOf h x0 x1 = some (r, h')) : jw_Con (Cond.code yX6_readPatternOf cX6_readPatternOf 2 (some .boolean)) yX6_readPatternOf 3 [.ref x0, va_rf x1] h (.inl (some (.int r))) h' :=
  jw_con false (plainFor_of_name (by decide +kernel)) (fun z => nomatch z) (by simp [jw_ent, jw_sl0_nil, jw_sl0_int, jw_sl0_long, jw_sl0_ref, jw_sl0_rf, jw_sl0_scr, List.replicate]) (by simp [jw_sl0_nil, jw_sl0_int, jw_sl0_long, jw_sl0_ref, jw_sl0_rf, jw_sl0_scr]) (l_X6_readPatternOf hq)


/-! X6_readAct -/
noncomputable def g_X6_readAct_b516 (h : jw_H) (t0 : Int32) : Option (Int32 × jw_H) :=
 (jw_rb t0).bind fun v1 =>
 some (t0, h)

noncomputable def g_X6_readAct_b511 (h : jw_H)  : Option (Int32 × jw_H) :=
 g_X6_readAct_b516  h (1 : Int32)

noncomputable def g_X6_readAct_b475 (h : jw_H) (x0 : Nat) (x1 : Option Nat) (x3 : Int32) : Option (Int32 × jw_H) :=
 (jw_gI h 6 (some x0) 5).bind fun v1 =>
 (jw_pI h 6 (some x0) 5 (v1 + (1 : Int32))).bind fun h2 =>
 (jw_rc h2 6 (some x0)).bind fun a3 =>
 jw_b2 (f_X6_readFrom h2 a3 (65 : Int32) (90 : Int32)) fun w5 h4 =>
 (jw_pI h4 5 x1 5 w5).bind fun h6 =>
 (jw_gI h6 5 x1 5).bind fun v7 =>
 if v7 = (-1 : Int32) then (if x3 = (58 : Int32) then (g_X6_readAct_b516  h6 (0 : Int32))
 else (g_X6_readAct_b511  h6 ))
 else (g_X6_readAct_b511  h6 )

noncomputable def g_X6_readAct_b383 (h : jw_H) (t0 : Int32) : Option (Int32 × jw_H) :=
 (jw_rb t0).bind fun v1 =>
 some (t0, h)

noncomputable def g_X6_readAct_b352 (h : jw_H) (x0 : Nat) (x1 : Option Nat) : Option (Int32 × jw_H) :=
 (jw_gI h 6 (some x0) 5).bind fun v1 =>
 (jw_pI h 6 (some x0) 5 (v1 + (1 : Int32))).bind fun h2 =>
 (jw_rc h2 6 (some x0)).bind fun a3 =>
 jw_b2 (f_X6_readNumber h2 a3) fun w5 h4 =>
 (jw_pI h4 5 x1 5 w5).bind fun h6 =>
 (jw_gI h6 5 x1 5).bind fun v7 =>
 if v7 = (-1 : Int32) then (g_X6_readAct_b383  h6 (0 : Int32))
 else (g_X6_readAct_b383  h6 (1 : Int32))

noncomputable def g_X6_readAct_b340 (h : jw_H) (x0 : Nat) : Option (Int32 × jw_H) :=
 (jw_gI h 6 (some x0) 5).bind fun v1 =>
 (jw_pI h 6 (some x0) 5 (v1 + (1 : Int32))).bind fun h2 =>
 some ((1 : Int32), h2)

noncomputable def g_X6_readAct_b549 (h : jw_H) (x0 : Nat) (x1 : Option Nat) : Option (Int32 × jw_H) :=
 (jw_gI h 6 (some x0) 5).bind fun v1 =>
 (jw_pI h 6 (some x0) 5 (v1 + (1 : Int32))).bind fun h2 =>
 (jw_rc h2 6 (some x0)).bind fun a3 =>
 jw_b2 (f_X6_readPatternOf h2 a3 x1) fun w5 h4 =>
 (jw_rb w5).bind fun v6 =>
 some (w5, h4)

noncomputable def g_X6_readAct_b324 (h : jw_H) (x0 : Nat) (x1 : Option Nat) : Option (Int32 × jw_H) :=
 (jw_gI h 6 (some x0) 5).bind fun v1 =>
 (jw_pI h 6 (some x0) 5 (v1 + (1 : Int32))).bind fun h2 =>
 (jw_rc h2 6 (some x0)).bind fun a3 =>
 jw_b2 (f_X6_readRows h2 a3 x1) fun w5 h4 =>
 (jw_rb w5).bind fun v6 =>
 some (w5, h4)

noncomputable def g_X6_readAct_b438 (h : jw_H) (t0 : Int32) : Option (Int32 × jw_H) :=
 (jw_rb t0).bind fun v1 =>
 some (t0, h)

noncomputable def g_X6_readAct_b384 (h : jw_H) (x0 : Nat) (x1 : Option Nat) : Option (Int32 × jw_H) :=
 (jw_gI h 6 (some x0) 5).bind fun v1 =>
 (jw_pI h 6 (some x0) 5 (v1 + (1 : Int32))).bind fun h2 =>
 (jw_gR h2 5 x1 2).bind fun v3 =>
 (jw_rc h2 6 (some x0)).bind fun a4 =>
 jw_b2 (f_X6_readAddress h2 a4 v3) fun w6 h5 =>
 (jw_rb w6).bind fun v7 =>
 some (w6, h5)

noncomputable def g_X6_readAct_b474 (h : jw_H) (t0 : Int32) : Option (Int32 × jw_H) :=
 (jw_rb t0).bind fun v1 =>
 some (t0, h)

noncomputable def g_X6_readAct_b439 (h : jw_H) (x0 : Nat) (x1 : Option Nat) : Option (Int32 × jw_H) :=
 (jw_gI h 6 (some x0) 5).bind fun v1 =>
 (jw_pI h 6 (some x0) 5 (v1 + (1 : Int32))).bind fun h2 =>
 (jw_rc h2 6 (some x0)).bind fun a3 =>
 jw_b2 (f_X6_readFrom h2 a3 (48 : Int32) (51 : Int32)) fun w5 h4 =>
 (jw_pI h4 5 x1 5 w5).bind fun h6 =>
 (jw_gI h6 5 x1 5).bind fun v7 =>
 if v7 = (-1 : Int32) then (g_X6_readAct_b474  h6 (0 : Int32))
 else (g_X6_readAct_b474  h6 (1 : Int32))

noncomputable def g_X6_readAct_b43 (h : jw_H) (x0 : Nat) (x1 : Option Nat) (x3 : Int32) : Option (Int32 × jw_H) :=
 if x3 = (58 : Int32) then (g_X6_readAct_b475  h x0 x1 x3)
 else (if x3 = (59 : Int32) then (some ((0 : Int32), h))
 else (if x3 = (60 : Int32) then (g_X6_readAct_b352  h x0 x1)
 else (if x3 = (61 : Int32) then (g_X6_readAct_b340  h x0)
 else (if x3 = (62 : Int32) then (g_X6_readAct_b352  h x0 x1)
 else (if x3 = (63 : Int32) then (some ((0 : Int32), h))
 else (if x3 = (64 : Int32) then (some ((0 : Int32), h))
 else (if x3 = (65 : Int32) then (some ((0 : Int32), h))
 else (if x3 = (66 : Int32) then (some ((0 : Int32), h))
 else (if x3 = (67 : Int32) then (some ((0 : Int32), h))
 else (if x3 = (68 : Int32) then (some ((0 : Int32), h))
 else (if x3 = (69 : Int32) then (some ((0 : Int32), h))
 else (if x3 = (70 : Int32) then (some ((0 : Int32), h))
 else (if x3 = (71 : Int32) then (g_X6_readAct_b549  h x0 x1)
 else (if x3 = (72 : Int32) then (g_X6_readAct_b340  h x0)
 else (if x3 = (73 : Int32) then (some ((0 : Int32), h))
 else (if x3 = (74 : Int32) then (some ((0 : Int32), h))
 else (if x3 = (75 : Int32) then (some ((0 : Int32), h))
 else (if x3 = (76 : Int32) then (some ((0 : Int32), h))
 else (if x3 = (77 : Int32) then (some ((0 : Int32), h))
 else (if x3 = (78 : Int32) then (g_X6_readAct_b340  h x0)
 else (if x3 = (79 : Int32) then (g_X6_readAct_b352  h x0 x1)
 else (if x3 = (80 : Int32) then (some ((0 : Int32), h))
 else (if x3 = (81 : Int32) then (some ((0 : Int32), h))
 else (if x3 = (82 : Int32) then (some ((0 : Int32), h))
 else (if x3 = (83 : Int32) then (some ((0 : Int32), h))
 else (if x3 = (84 : Int32) then (g_X6_readAct_b475  h x0 x1 x3)
 else (if x3 = (85 : Int32) then (some ((0 : Int32), h))
 else (if x3 = (86 : Int32) then (some ((0 : Int32), h))
 else (if x3 = (87 : Int32) then (some ((0 : Int32), h))
 else (if x3 = (88 : Int32) then (some ((0 : Int32), h))
 else (if x3 = (89 : Int32) then (some ((0 : Int32), h))
 else (if x3 = (90 : Int32) then (some ((0 : Int32), h))
 else (if x3 = (91 : Int32) then (some ((0 : Int32), h))
 else (if x3 = (92 : Int32) then (some ((0 : Int32), h))
 else (if x3 = (93 : Int32) then (some ((0 : Int32), h))
 else (if x3 = (94 : Int32) then (some ((0 : Int32), h))
 else (if x3 = (95 : Int32) then (some ((0 : Int32), h))
 else (if x3 = (96 : Int32) then (some ((0 : Int32), h))
 else (if x3 = (97 : Int32) then (g_X6_readAct_b324  h x0 x1)
 else (if x3 = (98 : Int32) then (g_X6_readAct_b475  h x0 x1 x3)
 else (if x3 = (99 : Int32) then (g_X6_readAct_b324  h x0 x1)
 else (if x3 = (100 : Int32) then (g_X6_readAct_b340  h x0)
 else (if x3 = (101 : Int32) then (g_X6_readAct_b340  h x0)
 else (if x3 = (102 : Int32) then (some ((0 : Int32), h))
 else (if x3 = (103 : Int32) then (g_X6_readAct_b549  h x0 x1)
 else (if x3 = (104 : Int32) then (g_X6_readAct_b340  h x0)
 else (if x3 = (105 : Int32) then (g_X6_readAct_b324  h x0 x1)
 else (if x3 = (106 : Int32) then (g_X6_readAct_b340  h x0)
 else (if x3 = (107 : Int32) then ((jw_gI h 6 (some x0) 5).bind fun v51 =>
 (jw_pI h 6 (some x0) 5 (v51 + (1 : Int32))).bind fun h52 =>
 (jw_rc h52 6 (some x0)).bind fun a53 =>
 jw_b2 (f_X6_readFrom h52 a53 (97 : Int32) (101 : Int32)) fun w55 h54 =>
 (jw_pI h54 5 x1 5 w55).bind fun h56 =>
 (jw_gI h56 5 x1 5).bind fun v57 =>
 if v57 = (-1 : Int32) then (g_X6_readAct_b438  h56 (0 : Int32))
 else (g_X6_readAct_b438  h56 (1 : Int32)))
 else (if x3 = (108 : Int32) then (g_X6_readAct_b340  h x0)
 else (if x3 = (109 : Int32) then (g_X6_readAct_b384  h x0 x1)
 else (if x3 = (110 : Int32) then (g_X6_readAct_b340  h x0)
 else (if x3 = (111 : Int32) then (g_X6_readAct_b352  h x0 x1)
 else (if x3 = (112 : Int32) then (g_X6_readAct_b340  h x0)
 else (if x3 = (113 : Int32) then (g_X6_readAct_b340  h x0)
 else (if x3 = (114 : Int32) then (g_X6_readAct_b439  h x0 x1)
 else (if x3 = (115 : Int32) then ((jw_gI h 6 (some x0) 5).bind fun v67 =>
 (jw_pI h 6 (some x0) 5 (v67 + (1 : Int32))).bind fun h68 =>
 (jw_rc h68 6 (some x0)).bind fun a69 =>
 jw_b2 (f_X6_readReplace h68 a69 x1) fun w71 h70 =>
 (jw_rb w71).bind fun v72 =>
 some (w71, h70))
 else (if x3 = (116 : Int32) then (g_X6_readAct_b384  h x0 x1)
 else (if x3 = (117 : Int32) then (g_X6_readAct_b340  h x0)
 else (if x3 = (118 : Int32) then (g_X6_readAct_b352  h x0 x1)
 else (if x3 = (119 : Int32) then (g_X6_readAct_b439  h x0 x1)
 else (if x3 = (120 : Int32) then (some ((0 : Int32), h))
 else (if x3 = (121 : Int32) then (some ((0 : Int32), h))
 else (if x3 = (122 : Int32) then ((jw_gI h 6 (some x0) 5).bind fun v80 =>
 (jw_pI h 6 (some x0) 5 (v80 + (1 : Int32))).bind fun h81 =>
 (jw_rc h81 6 (some x0)).bind fun a82 =>
 jw_b2 (f_X6_readTurn h81 a82 x1) fun w84 h83 =>
 (jw_rb w84).bind fun v85 =>
 some (w84, h83))
 else (if x3 = (123 : Int32) then (g_X6_readAct_b340  h x0)
 else (some ((0 : Int32), h)))))))))))))))))))))))))))))))))))))))))))))))))))))))))))))))))))

noncomputable def g_X6_readAct_b28 (h : jw_H) (x0 : Nat) (x1 : Option Nat) (x3 : Int32) : Option (Int32 × jw_H) :=
 if x3 = (58 : Int32) then ((jw_gI h 5 x1 4).bind fun v2 =>
 if v2 = 0 then (g_X6_readAct_b43  h x0 x1 x3)
 else (some ((0 : Int32), h)))
 else (g_X6_readAct_b43  h x0 x1 x3)

noncomputable def f_X6_readAct (h : jw_H) (x0 : Nat) (x1 : Option Nat) (x2 : Int32) : Option (Int32 × jw_H) :=
 (jw_rc h 6 (some x0)).bind fun a1 =>
 jw_b2 (f_X6_peek h a1) fun w3 h2 =>
 (jw_pI h2 5 x1 3 w3).bind fun h4 =>
 if x2 = 0 then (g_X6_readAct_b28  h4 x0 x1 w3)
 else ((jw_rc h4 5 x1).bind fun a6 =>
 jw_b2 (f_X5_holdsOthers h4 a6) fun w8 h7 =>
 if w8 = 0 then ((jw_rc h7 5 x1).bind fun a10 =>
 jw_b2 (f_X5_steers h7 a10) fun w12 h11 =>
 if w12 = 0 then (g_X6_readAct_b28  h11 x0 x1 w3)
 else (some ((0 : Int32), h11)))
 else (some ((0 : Int32), h7)))

set_option maxRecDepth 100000 in
set_option maxHeartbeats 4000000 in
theorem l_X6_readAct_b516 {hi : jw_H} {h : jw_H} {t0 : Int32} {r : Int32} {h' : jw_H} (hq : g_X6_readAct_b516  h t0 = some (r, h')) : jw_E 4 uX6_readAct hi 516 [none, none, none, none] [.int t0] h (.inl (some (.int r))) h' := by
  unfold g_X6_readAct_b516 at hq
  obtain ⟨v1, ev1, hq⟩ := Option.bind_eq_some_iff.mp hq
  cases hq
  exact jw_iret (ty := .boolean) dX6_readAct_516 rfl (jw_rb_spec ev1)

set_option maxRecDepth 100000 in
set_option maxHeartbeats 4000000 in
theorem l_X6_readAct_b511 {hi : jw_H} {h : jw_H}  {r : Int32} {h' : jw_H} (hq : g_X6_readAct_b511  h  = some (r, h')) : jw_E 4 uX6_readAct hi 511 [none, none, none, none] [] h (.inl (some (.int r))) h' := by
  unfold g_X6_readAct_b511 at hq
  refine jw_iconst dX6_readAct_511 (v := (1 : Int32)) (by decide) ?_
  refine jw_goto (tgt := 516) dX6_readAct_512 (by decide) ?_
  exact l_X6_readAct_b516  hq

set_option maxRecDepth 100000 in
set_option maxHeartbeats 4000000 in
theorem l_X6_readAct_b475 {hi : jw_H} {h : jw_H} {x0 : Nat} {x1 : Option Nat} {x3 : Int32} {r : Int32} {h' : jw_H} (hq : g_X6_readAct_b475  h x0 x1 x3 = some (r, h')) : jw_E 4 uX6_readAct hi 475 [some (.ref x0), some (va_rf x1), none, some (.int x3)] [] h (.inl (some (.int r))) h' := by
  unfold g_X6_readAct_b475 at hq
  refine jw_aload_n dX6_readAct_475 (o := (some x0)) rfl ?_
  refine jw_dup dX6_readAct_476 rfl ?_
  obtain ⟨v1, ev1, hq⟩ := Option.bind_eq_some_iff.mp hq
  refine jw_getI (o := (some x0)) dX6_readAct_477 ev1 fl_X6_43 rfl ?_
  refine jw_iconst dX6_readAct_480 (v := (1 : Int32)) (by decide) ?_
  refine jw_iadd dX6_readAct_481 ?_
  obtain ⟨h2, eh2, hq⟩ := Option.bind_eq_some_iff.mp hq
  refine jw_putI (o := (some x0)) dX6_readAct_482 eh2 fl_X6_43 rfl rfl ?_
  refine jw_aload_n dX6_readAct_485 (o := x1) rfl ?_
  refine jw_aload_n dX6_readAct_486 (o := (some x0)) rfl ?_
  refine jw_bipush dX6_readAct_487 (v := (65 : Int32)) (by decide) ?_
  refine jw_bipush dX6_readAct_489 (v := (90 : Int32)) (by decide) ?_
  obtain ⟨a3, ea3, hq⟩ := Option.bind_eq_some_iff.mp hq
  obtain ⟨eoa3, eta3⟩ := jw_rc_spec ea3
  obtain ⟨w5, h4, ew5, hq⟩ := jw_b2_spec hq
  refine jw_callV (As := [.int (65 : Int32), .int (90 : Int32)]) (S := [va_rf x1]) (a := a3) (v := some (.int w5)) dX6_readAct_491 mt_X6_readFrom in_X6_readFrom se_X6_readFrom lk_X6_121 (c_X6_readFrom ew5) eta3 (by decide) rfl rfl (by decide) (by simp only [List.map_cons, List.map_nil, List.sum_cons, List.sum_nil, jw_cat_rf, jw_cat_i, jw_cat_l, jw_cat_a, jw_cat_s] <;> decide) (by cases eoa3; rfl) ?_
  obtain ⟨h6, eh6, hq⟩ := Option.bind_eq_some_iff.mp hq
  refine jw_putI (o := x1) dX6_readAct_494 eh6 fl_X6_140 rfl rfl ?_
  refine jw_aload_n dX6_readAct_497 (o := x1) rfl ?_
  obtain ⟨v7, ev7, hq⟩ := Option.bind_eq_some_iff.mp hq
  refine jw_getI (o := x1) dX6_readAct_498 ev7 fl_X6_140 rfl ?_
  refine jw_iconst dX6_readAct_501 (v := (-1 : Int32)) (by decide) ?_
  rcases jw_if hq with ⟨c8, hq⟩ | ⟨c8, hq⟩
  · refine jw_icmp_ne_f (tgt := 511) dX6_readAct_502 (by decide) c8 ?_
    refine jw_iload_n dX6_readAct_505 rfl ?_
    refine jw_bipush dX6_readAct_506 (v := (58 : Int32)) (by decide) ?_
    rcases jw_if hq with ⟨c9, hq⟩ | ⟨c9, hq⟩
    · refine jw_icmp_eq_t (tgt := 515) dX6_readAct_508 (by decide) c9 ?_
      refine jw_iconst dX6_readAct_515 (v := (0 : Int32)) (by decide) ?_
      refine jw_forget [false, false, true, false] (L' := [none, none, none, none]) rfl ?_
      exact l_X6_readAct_b516  hq
    · refine jw_icmp_eq_f (tgt := 515) dX6_readAct_508 (by decide) c9 ?_
      refine jw_forget [false, false, true, false] (L' := [none, none, none, none]) rfl ?_
      exact l_X6_readAct_b511  hq
  · refine jw_icmp_ne_t (tgt := 511) dX6_readAct_502 (by decide) c8 ?_
    refine jw_forget [false, false, true, false] (L' := [none, none, none, none]) rfl ?_
    exact l_X6_readAct_b511  hq

set_option maxRecDepth 100000 in
set_option maxHeartbeats 4000000 in
theorem l_X6_readAct_b383 {hi : jw_H} {h : jw_H} {t0 : Int32} {r : Int32} {h' : jw_H} (hq : g_X6_readAct_b383  h t0 = some (r, h')) : jw_E 4 uX6_readAct hi 383 [none, none, none, none] [.int t0] h (.inl (some (.int r))) h' := by
  unfold g_X6_readAct_b383 at hq
  obtain ⟨v1, ev1, hq⟩ := Option.bind_eq_some_iff.mp hq
  cases hq
  exact jw_iret (ty := .boolean) dX6_readAct_383 rfl (jw_rb_spec ev1)

set_option maxRecDepth 100000 in
set_option maxHeartbeats 4000000 in
theorem l_X6_readAct_b352 {hi : jw_H} {h : jw_H} {x0 : Nat} {x1 : Option Nat} {r : Int32} {h' : jw_H} (hq : g_X6_readAct_b352  h x0 x1 = some (r, h')) : jw_E 4 uX6_readAct hi 352 [some (.ref x0), some (va_rf x1), none, none] [] h (.inl (some (.int r))) h' := by
  unfold g_X6_readAct_b352 at hq
  refine jw_aload_n dX6_readAct_352 (o := (some x0)) rfl ?_
  refine jw_dup dX6_readAct_353 rfl ?_
  obtain ⟨v1, ev1, hq⟩ := Option.bind_eq_some_iff.mp hq
  refine jw_getI (o := (some x0)) dX6_readAct_354 ev1 fl_X6_43 rfl ?_
  refine jw_iconst dX6_readAct_357 (v := (1 : Int32)) (by decide) ?_
  refine jw_iadd dX6_readAct_358 ?_
  obtain ⟨h2, eh2, hq⟩ := Option.bind_eq_some_iff.mp hq
  refine jw_putI (o := (some x0)) dX6_readAct_359 eh2 fl_X6_43 rfl rfl ?_
  refine jw_aload_n dX6_readAct_362 (o := x1) rfl ?_
  refine jw_aload_n dX6_readAct_363 (o := (some x0)) rfl ?_
  obtain ⟨a3, ea3, hq⟩ := Option.bind_eq_some_iff.mp hq
  obtain ⟨eoa3, eta3⟩ := jw_rc_spec ea3
  obtain ⟨w5, h4, ew5, hq⟩ := jw_b2_spec hq
  refine jw_callV (As := []) (S := [va_rf x1]) (a := a3) (v := some (.int w5)) dX6_readAct_364 mt_X6_readNumber in_X6_readNumber se_X6_readNumber lk_X6_115 (c_X6_readNumber ew5) eta3 (by decide) rfl rfl (by decide) (by simp only [List.map_cons, List.map_nil, List.sum_cons, List.sum_nil, jw_cat_rf, jw_cat_i, jw_cat_l, jw_cat_a, jw_cat_s] <;> decide) (by cases eoa3; rfl) ?_
  obtain ⟨h6, eh6, hq⟩ := Option.bind_eq_some_iff.mp hq
  refine jw_putI (o := x1) dX6_readAct_367 eh6 fl_X6_140 rfl rfl ?_
  refine jw_aload_n dX6_readAct_370 (o := x1) rfl ?_
  obtain ⟨v7, ev7, hq⟩ := Option.bind_eq_some_iff.mp hq
  refine jw_getI (o := x1) dX6_readAct_371 ev7 fl_X6_140 rfl ?_
  refine jw_iconst dX6_readAct_374 (v := (-1 : Int32)) (by decide) ?_
  rcases jw_if hq with ⟨c8, hq⟩ | ⟨c8, hq⟩
  · refine jw_icmp_eq_t (tgt := 382) dX6_readAct_375 (by decide) c8 ?_
    refine jw_iconst dX6_readAct_382 (v := (0 : Int32)) (by decide) ?_
    refine jw_forget [false, false, true, true] (L' := [none, none, none, none]) rfl ?_
    exact l_X6_readAct_b383  hq
  · refine jw_icmp_eq_f (tgt := 382) dX6_readAct_375 (by decide) c8 ?_
    refine jw_iconst dX6_readAct_378 (v := (1 : Int32)) (by decide) ?_
    refine jw_goto (tgt := 383) dX6_readAct_379 (by decide) ?_
    refine jw_forget [false, false, true, true] (L' := [none, none, none, none]) rfl ?_
    exact l_X6_readAct_b383  hq

set_option maxRecDepth 100000 in
set_option maxHeartbeats 4000000 in
theorem l_X6_readAct_b340 {hi : jw_H} {h : jw_H} {x0 : Nat} {r : Int32} {h' : jw_H} (hq : g_X6_readAct_b340  h x0 = some (r, h')) : jw_E 4 uX6_readAct hi 340 [some (.ref x0), none, none, none] [] h (.inl (some (.int r))) h' := by
  unfold g_X6_readAct_b340 at hq
  refine jw_aload_n dX6_readAct_340 (o := (some x0)) rfl ?_
  refine jw_dup dX6_readAct_341 rfl ?_
  obtain ⟨v1, ev1, hq⟩ := Option.bind_eq_some_iff.mp hq
  refine jw_getI (o := (some x0)) dX6_readAct_342 ev1 fl_X6_43 rfl ?_
  refine jw_iconst dX6_readAct_345 (v := (1 : Int32)) (by decide) ?_
  refine jw_iadd dX6_readAct_346 ?_
  obtain ⟨h2, eh2, hq⟩ := Option.bind_eq_some_iff.mp hq
  refine jw_putI (o := (some x0)) dX6_readAct_347 eh2 fl_X6_43 rfl rfl ?_
  refine jw_iconst dX6_readAct_350 (v := (1 : Int32)) (by decide) ?_
  cases hq
  exact jw_iret (ty := .boolean) dX6_readAct_351 rfl rfl

set_option maxRecDepth 100000 in
set_option maxHeartbeats 4000000 in
theorem l_X6_readAct_b549 {hi : jw_H} {h : jw_H} {x0 : Nat} {x1 : Option Nat} {r : Int32} {h' : jw_H} (hq : g_X6_readAct_b549  h x0 x1 = some (r, h')) : jw_E 4 uX6_readAct hi 549 [some (.ref x0), some (va_rf x1), none, none] [] h (.inl (some (.int r))) h' := by
  unfold g_X6_readAct_b549 at hq
  refine jw_aload_n dX6_readAct_549 (o := (some x0)) rfl ?_
  refine jw_dup dX6_readAct_550 rfl ?_
  obtain ⟨v1, ev1, hq⟩ := Option.bind_eq_some_iff.mp hq
  refine jw_getI (o := (some x0)) dX6_readAct_551 ev1 fl_X6_43 rfl ?_
  refine jw_iconst dX6_readAct_554 (v := (1 : Int32)) (by decide) ?_
  refine jw_iadd dX6_readAct_555 ?_
  obtain ⟨h2, eh2, hq⟩ := Option.bind_eq_some_iff.mp hq
  refine jw_putI (o := (some x0)) dX6_readAct_556 eh2 fl_X6_43 rfl rfl ?_
  refine jw_aload_n dX6_readAct_559 (o := (some x0)) rfl ?_
  refine jw_aload_n dX6_readAct_560 (o := x1) rfl ?_
  obtain ⟨a3, ea3, hq⟩ := Option.bind_eq_some_iff.mp hq
  obtain ⟨eoa3, eta3⟩ := jw_rc_spec ea3
  obtain ⟨w5, h4, ew5, hq⟩ := jw_b2_spec hq
  refine jw_callV (As := [va_rf x1]) (S := []) (a := a3) (v := some (.int w5)) dX6_readAct_561 mt_X6_readPatternOf in_X6_readPatternOf se_X6_readPatternOf lk_X6_152 (c_X6_readPatternOf ew5) eta3 (by decide) rfl rfl (by decide) (Nat.le_of_ble_eq_true rfl) (by cases eoa3; rfl) ?_
  obtain ⟨v6, ev6, hq⟩ := Option.bind_eq_some_iff.mp hq
  cases hq
  exact jw_iret (ty := .boolean) dX6_readAct_564 rfl (jw_rb_spec ev6)

set_option maxRecDepth 100000 in
set_option maxHeartbeats 4000000 in
theorem l_X6_readAct_b324 {hi : jw_H} {h : jw_H} {x0 : Nat} {x1 : Option Nat} {r : Int32} {h' : jw_H} (hq : g_X6_readAct_b324  h x0 x1 = some (r, h')) : jw_E 4 uX6_readAct hi 324 [some (.ref x0), some (va_rf x1), none, none] [] h (.inl (some (.int r))) h' := by
  unfold g_X6_readAct_b324 at hq
  refine jw_aload_n dX6_readAct_324 (o := (some x0)) rfl ?_
  refine jw_dup dX6_readAct_325 rfl ?_
  obtain ⟨v1, ev1, hq⟩ := Option.bind_eq_some_iff.mp hq
  refine jw_getI (o := (some x0)) dX6_readAct_326 ev1 fl_X6_43 rfl ?_
  refine jw_iconst dX6_readAct_329 (v := (1 : Int32)) (by decide) ?_
  refine jw_iadd dX6_readAct_330 ?_
  obtain ⟨h2, eh2, hq⟩ := Option.bind_eq_some_iff.mp hq
  refine jw_putI (o := (some x0)) dX6_readAct_331 eh2 fl_X6_43 rfl rfl ?_
  refine jw_aload_n dX6_readAct_334 (o := (some x0)) rfl ?_
  refine jw_aload_n dX6_readAct_335 (o := x1) rfl ?_
  obtain ⟨a3, ea3, hq⟩ := Option.bind_eq_some_iff.mp hq
  obtain ⟨eoa3, eta3⟩ := jw_rc_spec ea3
  obtain ⟨w5, h4, ew5, hq⟩ := jw_b2_spec hq
  refine jw_callV (As := [va_rf x1]) (S := []) (a := a3) (v := some (.int w5)) dX6_readAct_336 mt_X6_readRows in_X6_readRows se_X6_readRows lk_X6_137 (c_X6_readRows ew5) eta3 (by decide) rfl rfl (by decide) (Nat.le_of_ble_eq_true rfl) (by cases eoa3; rfl) ?_
  obtain ⟨v6, ev6, hq⟩ := Option.bind_eq_some_iff.mp hq
  cases hq
  exact jw_iret (ty := .boolean) dX6_readAct_339 rfl (jw_rb_spec ev6)

set_option maxRecDepth 100000 in
set_option maxHeartbeats 4000000 in
theorem l_X6_readAct_b438 {hi : jw_H} {h : jw_H} {t0 : Int32} {r : Int32} {h' : jw_H} (hq : g_X6_readAct_b438  h t0 = some (r, h')) : jw_E 4 uX6_readAct hi 438 [none, none, none, none] [.int t0] h (.inl (some (.int r))) h' := by
  unfold g_X6_readAct_b438 at hq
  obtain ⟨v1, ev1, hq⟩ := Option.bind_eq_some_iff.mp hq
  cases hq
  exact jw_iret (ty := .boolean) dX6_readAct_438 rfl (jw_rb_spec ev1)

set_option maxRecDepth 100000 in
set_option maxHeartbeats 4000000 in
theorem l_X6_readAct_b384 {hi : jw_H} {h : jw_H} {x0 : Nat} {x1 : Option Nat} {r : Int32} {h' : jw_H} (hq : g_X6_readAct_b384  h x0 x1 = some (r, h')) : jw_E 4 uX6_readAct hi 384 [some (.ref x0), some (va_rf x1), none, none] [] h (.inl (some (.int r))) h' := by
  unfold g_X6_readAct_b384 at hq
  refine jw_aload_n dX6_readAct_384 (o := (some x0)) rfl ?_
  refine jw_dup dX6_readAct_385 rfl ?_
  obtain ⟨v1, ev1, hq⟩ := Option.bind_eq_some_iff.mp hq
  refine jw_getI (o := (some x0)) dX6_readAct_386 ev1 fl_X6_43 rfl ?_
  refine jw_iconst dX6_readAct_389 (v := (1 : Int32)) (by decide) ?_
  refine jw_iadd dX6_readAct_390 ?_
  obtain ⟨h2, eh2, hq⟩ := Option.bind_eq_some_iff.mp hq
  refine jw_putI (o := (some x0)) dX6_readAct_391 eh2 fl_X6_43 rfl rfl ?_
  refine jw_aload_n dX6_readAct_394 (o := (some x0)) rfl ?_
  refine jw_aload_n dX6_readAct_395 (o := x1) rfl ?_
  obtain ⟨v3, ev3, hq⟩ := Option.bind_eq_some_iff.mp hq
  refine jw_getR (o := x1) dX6_readAct_396 ev3 fl_X6_143 rfl ?_
  obtain ⟨a4, ea4, hq⟩ := Option.bind_eq_some_iff.mp hq
  obtain ⟨eoa4, eta4⟩ := jw_rc_spec ea4
  obtain ⟨w6, h5, ew6, hq⟩ := jw_b2_spec hq
  refine jw_callV (As := [va_rf v3]) (S := []) (a := a4) (v := some (.int w6)) dX6_readAct_399 mt_X6_readAddress in_X6_readAddress se_X6_readAddress lk_X6_103 (c_X6_readAddress ew6) eta4 (by decide) rfl rfl (by decide) (Nat.le_of_ble_eq_true rfl) (by cases eoa4; rfl) ?_
  obtain ⟨v7, ev7, hq⟩ := Option.bind_eq_some_iff.mp hq
  cases hq
  exact jw_iret (ty := .boolean) dX6_readAct_402 rfl (jw_rb_spec ev7)

set_option maxRecDepth 100000 in
set_option maxHeartbeats 4000000 in
theorem l_X6_readAct_b474 {hi : jw_H} {h : jw_H} {t0 : Int32} {r : Int32} {h' : jw_H} (hq : g_X6_readAct_b474  h t0 = some (r, h')) : jw_E 4 uX6_readAct hi 474 [none, none, none, none] [.int t0] h (.inl (some (.int r))) h' := by
  unfold g_X6_readAct_b474 at hq
  obtain ⟨v1, ev1, hq⟩ := Option.bind_eq_some_iff.mp hq
  cases hq
  exact jw_iret (ty := .boolean) dX6_readAct_474 rfl (jw_rb_spec ev1)

set_option maxRecDepth 100000 in
set_option maxHeartbeats 4000000 in
theorem l_X6_readAct_b439 {hi : jw_H} {h : jw_H} {x0 : Nat} {x1 : Option Nat} {r : Int32} {h' : jw_H} (hq : g_X6_readAct_b439  h x0 x1 = some (r, h')) : jw_E 4 uX6_readAct hi 439 [some (.ref x0), some (va_rf x1), none, none] [] h (.inl (some (.int r))) h' := by
  unfold g_X6_readAct_b439 at hq
  refine jw_aload_n dX6_readAct_439 (o := (some x0)) rfl ?_
  refine jw_dup dX6_readAct_440 rfl ?_
  obtain ⟨v1, ev1, hq⟩ := Option.bind_eq_some_iff.mp hq
  refine jw_getI (o := (some x0)) dX6_readAct_441 ev1 fl_X6_43 rfl ?_
  refine jw_iconst dX6_readAct_444 (v := (1 : Int32)) (by decide) ?_
  refine jw_iadd dX6_readAct_445 ?_
  obtain ⟨h2, eh2, hq⟩ := Option.bind_eq_some_iff.mp hq
  refine jw_putI (o := (some x0)) dX6_readAct_446 eh2 fl_X6_43 rfl rfl ?_
  refine jw_aload_n dX6_readAct_449 (o := x1) rfl ?_
  refine jw_aload_n dX6_readAct_450 (o := (some x0)) rfl ?_
  refine jw_bipush dX6_readAct_451 (v := (48 : Int32)) (by decide) ?_
  refine jw_bipush dX6_readAct_453 (v := (51 : Int32)) (by decide) ?_
  obtain ⟨a3, ea3, hq⟩ := Option.bind_eq_some_iff.mp hq
  obtain ⟨eoa3, eta3⟩ := jw_rc_spec ea3
  obtain ⟨w5, h4, ew5, hq⟩ := jw_b2_spec hq
  refine jw_callV (As := [.int (48 : Int32), .int (51 : Int32)]) (S := [va_rf x1]) (a := a3) (v := some (.int w5)) dX6_readAct_455 mt_X6_readFrom in_X6_readFrom se_X6_readFrom lk_X6_121 (c_X6_readFrom ew5) eta3 (by decide) rfl rfl (by decide) (by simp only [List.map_cons, List.map_nil, List.sum_cons, List.sum_nil, jw_cat_rf, jw_cat_i, jw_cat_l, jw_cat_a, jw_cat_s] <;> decide) (by cases eoa3; rfl) ?_
  obtain ⟨h6, eh6, hq⟩ := Option.bind_eq_some_iff.mp hq
  refine jw_putI (o := x1) dX6_readAct_458 eh6 fl_X6_140 rfl rfl ?_
  refine jw_aload_n dX6_readAct_461 (o := x1) rfl ?_
  obtain ⟨v7, ev7, hq⟩ := Option.bind_eq_some_iff.mp hq
  refine jw_getI (o := x1) dX6_readAct_462 ev7 fl_X6_140 rfl ?_
  refine jw_iconst dX6_readAct_465 (v := (-1 : Int32)) (by decide) ?_
  rcases jw_if hq with ⟨c8, hq⟩ | ⟨c8, hq⟩
  · refine jw_icmp_eq_t (tgt := 473) dX6_readAct_466 (by decide) c8 ?_
    refine jw_iconst dX6_readAct_473 (v := (0 : Int32)) (by decide) ?_
    refine jw_forget [false, false, true, true] (L' := [none, none, none, none]) rfl ?_
    exact l_X6_readAct_b474  hq
  · refine jw_icmp_eq_f (tgt := 473) dX6_readAct_466 (by decide) c8 ?_
    refine jw_iconst dX6_readAct_469 (v := (1 : Int32)) (by decide) ?_
    refine jw_goto (tgt := 474) dX6_readAct_470 (by decide) ?_
    refine jw_forget [false, false, true, true] (L' := [none, none, none, none]) rfl ?_
    exact l_X6_readAct_b474  hq

set_option maxRecDepth 100000 in
set_option maxHeartbeats 4000000 in
theorem l_X6_readAct_b43 {hi : jw_H} {h : jw_H} {x0 : Nat} {x1 : Option Nat} {x3 : Int32} {r : Int32} {h' : jw_H} (hq : g_X6_readAct_b43  h x0 x1 x3 = some (r, h')) : jw_E 4 uX6_readAct hi 43 [some (.ref x0), some (va_rf x1), none, some (.int x3)] [] h (.inl (some (.int r))) h' := by
  unfold g_X6_readAct_b43 at hq
  refine jw_iload_n dX6_readAct_43 rfl ?_
  rcases jw_if hq with ⟨c1, hq⟩ | ⟨c1, hq⟩
  · refine jw_tableIn (tgt := 475) (off := 431) dX6_readAct_44 (by rw [c1]; decide) (by rw [c1]; decide) (by rw [c1]; rfl) (by decide) ?_
    exact l_X6_readAct_b475  hq
  · rcases jw_if hq with ⟨c2, hq⟩ | ⟨c2, hq⟩
    · refine jw_tableIn (tgt := 565) (off := 521) dX6_readAct_44 (by rw [c2]; decide) (by rw [c2]; decide) (by rw [c2]; rfl) (by decide) ?_
      refine jw_iconst dX6_readAct_565 (v := (0 : Int32)) (by decide) ?_
      cases hq
      exact jw_iret (ty := .boolean) dX6_readAct_566 rfl rfl
    · rcases jw_if hq with ⟨c3, hq⟩ | ⟨c3, hq⟩
      · refine jw_tableIn (tgt := 352) (off := 308) dX6_readAct_44 (by rw [c3]; decide) (by rw [c3]; decide) (by rw [c3]; rfl) (by decide) ?_
        refine jw_forget [true, true, true, false] (L' := [some (.ref x0), some (va_rf x1), none, none]) rfl ?_
        exact l_X6_readAct_b352  hq
      · rcases jw_if hq with ⟨c4, hq⟩ | ⟨c4, hq⟩
        · refine jw_tableIn (tgt := 340) (off := 296) dX6_readAct_44 (by rw [c4]; decide) (by rw [c4]; decide) (by rw [c4]; rfl) (by decide) ?_
          refine jw_forget [true, false, true, false] (L' := [some (.ref x0), none, none, none]) rfl ?_
          exact l_X6_readAct_b340  hq
        · rcases jw_if hq with ⟨c5, hq⟩ | ⟨c5, hq⟩
          · refine jw_tableIn (tgt := 352) (off := 308) dX6_readAct_44 (by rw [c5]; decide) (by rw [c5]; decide) (by rw [c5]; rfl) (by decide) ?_
            refine jw_forget [true, true, true, false] (L' := [some (.ref x0), some (va_rf x1), none, none]) rfl ?_
            exact l_X6_readAct_b352  hq
          · rcases jw_if hq with ⟨c6, hq⟩ | ⟨c6, hq⟩
            · refine jw_tableIn (tgt := 565) (off := 521) dX6_readAct_44 (by rw [c6]; decide) (by rw [c6]; decide) (by rw [c6]; rfl) (by decide) ?_
              refine jw_iconst dX6_readAct_565 (v := (0 : Int32)) (by decide) ?_
              cases hq
              exact jw_iret (ty := .boolean) dX6_readAct_566 rfl rfl
            · rcases jw_if hq with ⟨c7, hq⟩ | ⟨c7, hq⟩
              · refine jw_tableIn (tgt := 565) (off := 521) dX6_readAct_44 (by rw [c7]; decide) (by rw [c7]; decide) (by rw [c7]; rfl) (by decide) ?_
                refine jw_iconst dX6_readAct_565 (v := (0 : Int32)) (by decide) ?_
                cases hq
                exact jw_iret (ty := .boolean) dX6_readAct_566 rfl rfl
              · rcases jw_if hq with ⟨c8, hq⟩ | ⟨c8, hq⟩
                · refine jw_tableIn (tgt := 565) (off := 521) dX6_readAct_44 (by rw [c8]; decide) (by rw [c8]; decide) (by rw [c8]; rfl) (by decide) ?_
                  refine jw_iconst dX6_readAct_565 (v := (0 : Int32)) (by decide) ?_
                  cases hq
                  exact jw_iret (ty := .boolean) dX6_readAct_566 rfl rfl
                · rcases jw_if hq with ⟨c9, hq⟩ | ⟨c9, hq⟩
                  · refine jw_tableIn (tgt := 565) (off := 521) dX6_readAct_44 (by rw [c9]; decide) (by rw [c9]; decide) (by rw [c9]; rfl) (by decide) ?_
                    refine jw_iconst dX6_readAct_565 (v := (0 : Int32)) (by decide) ?_
                    cases hq
                    exact jw_iret (ty := .boolean) dX6_readAct_566 rfl rfl
                  · rcases jw_if hq with ⟨c10, hq⟩ | ⟨c10, hq⟩
                    · refine jw_tableIn (tgt := 565) (off := 521) dX6_readAct_44 (by rw [c10]; decide) (by rw [c10]; decide) (by rw [c10]; rfl) (by decide) ?_
                      refine jw_iconst dX6_readAct_565 (v := (0 : Int32)) (by decide) ?_
                      cases hq
                      exact jw_iret (ty := .boolean) dX6_readAct_566 rfl rfl
                    · rcases jw_if hq with ⟨c11, hq⟩ | ⟨c11, hq⟩
                      · refine jw_tableIn (tgt := 565) (off := 521) dX6_readAct_44 (by rw [c11]; decide) (by rw [c11]; decide) (by rw [c11]; rfl) (by decide) ?_
                        refine jw_iconst dX6_readAct_565 (v := (0 : Int32)) (by decide) ?_
                        cases hq
                        exact jw_iret (ty := .boolean) dX6_readAct_566 rfl rfl
                      · rcases jw_if hq with ⟨c12, hq⟩ | ⟨c12, hq⟩
                        · refine jw_tableIn (tgt := 565) (off := 521) dX6_readAct_44 (by rw [c12]; decide) (by rw [c12]; decide) (by rw [c12]; rfl) (by decide) ?_
                          refine jw_iconst dX6_readAct_565 (v := (0 : Int32)) (by decide) ?_
                          cases hq
                          exact jw_iret (ty := .boolean) dX6_readAct_566 rfl rfl
                        · rcases jw_if hq with ⟨c13, hq⟩ | ⟨c13, hq⟩
                          · refine jw_tableIn (tgt := 565) (off := 521) dX6_readAct_44 (by rw [c13]; decide) (by rw [c13]; decide) (by rw [c13]; rfl) (by decide) ?_
                            refine jw_iconst dX6_readAct_565 (v := (0 : Int32)) (by decide) ?_
                            cases hq
                            exact jw_iret (ty := .boolean) dX6_readAct_566 rfl rfl
                          · rcases jw_if hq with ⟨c14, hq⟩ | ⟨c14, hq⟩
                            · refine jw_tableIn (tgt := 549) (off := 505) dX6_readAct_44 (by rw [c14]; decide) (by rw [c14]; decide) (by rw [c14]; rfl) (by decide) ?_
                              refine jw_forget [true, true, true, false] (L' := [some (.ref x0), some (va_rf x1), none, none]) rfl ?_
                              exact l_X6_readAct_b549  hq
                            · rcases jw_if hq with ⟨c15, hq⟩ | ⟨c15, hq⟩
                              · refine jw_tableIn (tgt := 340) (off := 296) dX6_readAct_44 (by rw [c15]; decide) (by rw [c15]; decide) (by rw [c15]; rfl) (by decide) ?_
                                refine jw_forget [true, false, true, false] (L' := [some (.ref x0), none, none, none]) rfl ?_
                                exact l_X6_readAct_b340  hq
                              · rcases jw_if hq with ⟨c16, hq⟩ | ⟨c16, hq⟩
                                · refine jw_tableIn (tgt := 565) (off := 521) dX6_readAct_44 (by rw [c16]; decide) (by rw [c16]; decide) (by rw [c16]; rfl) (by decide) ?_
                                  refine jw_iconst dX6_readAct_565 (v := (0 : Int32)) (by decide) ?_
                                  cases hq
                                  exact jw_iret (ty := .boolean) dX6_readAct_566 rfl rfl
                                · rcases jw_if hq with ⟨c17, hq⟩ | ⟨c17, hq⟩
                                  · refine jw_tableIn (tgt := 565) (off := 521) dX6_readAct_44 (by rw [c17]; decide) (by rw [c17]; decide) (by rw [c17]; rfl) (by decide) ?_
                                    refine jw_iconst dX6_readAct_565 (v := (0 : Int32)) (by decide) ?_
                                    cases hq
                                    exact jw_iret (ty := .boolean) dX6_readAct_566 rfl rfl
                                  · rcases jw_if hq with ⟨c18, hq⟩ | ⟨c18, hq⟩
                                    · refine jw_tableIn (tgt := 565) (off := 521) dX6_readAct_44 (by rw [c18]; decide) (by rw [c18]; decide) (by rw [c18]; rfl) (by decide) ?_
                                      refine jw_iconst dX6_readAct_565 (v := (0 : Int32)) (by decide) ?_
                                      cases hq
                                      exact jw_iret (ty := .boolean) dX6_readAct_566 rfl rfl
                                    · rcases jw_if hq with ⟨c19, hq⟩ | ⟨c19, hq⟩
                                      · refine jw_tableIn (tgt := 565) (off := 521) dX6_readAct_44 (by rw [c19]; decide) (by rw [c19]; decide) (by rw [c19]; rfl) (by decide) ?_
                                        refine jw_iconst dX6_readAct_565 (v := (0 : Int32)) (by decide) ?_
                                        cases hq
                                        exact jw_iret (ty := .boolean) dX6_readAct_566 rfl rfl
                                      · rcases jw_if hq with ⟨c20, hq⟩ | ⟨c20, hq⟩
                                        · refine jw_tableIn (tgt := 565) (off := 521) dX6_readAct_44 (by rw [c20]; decide) (by rw [c20]; decide) (by rw [c20]; rfl) (by decide) ?_
                                          refine jw_iconst dX6_readAct_565 (v := (0 : Int32)) (by decide) ?_
                                          cases hq
                                          exact jw_iret (ty := .boolean) dX6_readAct_566 rfl rfl
                                        · rcases jw_if hq with ⟨c21, hq⟩ | ⟨c21, hq⟩
                                          · refine jw_tableIn (tgt := 340) (off := 296) dX6_readAct_44 (by rw [c21]; decide) (by rw [c21]; decide) (by rw [c21]; rfl) (by decide) ?_
                                            refine jw_forget [true, false, true, false] (L' := [some (.ref x0), none, none, none]) rfl ?_
                                            exact l_X6_readAct_b340  hq
                                          · rcases jw_if hq with ⟨c22, hq⟩ | ⟨c22, hq⟩
                                            · refine jw_tableIn (tgt := 352) (off := 308) dX6_readAct_44 (by rw [c22]; decide) (by rw [c22]; decide) (by rw [c22]; rfl) (by decide) ?_
                                              refine jw_forget [true, true, true, false] (L' := [some (.ref x0), some (va_rf x1), none, none]) rfl ?_
                                              exact l_X6_readAct_b352  hq
                                            · rcases jw_if hq with ⟨c23, hq⟩ | ⟨c23, hq⟩
                                              · refine jw_tableIn (tgt := 565) (off := 521) dX6_readAct_44 (by rw [c23]; decide) (by rw [c23]; decide) (by rw [c23]; rfl) (by decide) ?_
                                                refine jw_iconst dX6_readAct_565 (v := (0 : Int32)) (by decide) ?_
                                                cases hq
                                                exact jw_iret (ty := .boolean) dX6_readAct_566 rfl rfl
                                              · rcases jw_if hq with ⟨c24, hq⟩ | ⟨c24, hq⟩
                                                · refine jw_tableIn (tgt := 565) (off := 521) dX6_readAct_44 (by rw [c24]; decide) (by rw [c24]; decide) (by rw [c24]; rfl) (by decide) ?_
                                                  refine jw_iconst dX6_readAct_565 (v := (0 : Int32)) (by decide) ?_
                                                  cases hq
                                                  exact jw_iret (ty := .boolean) dX6_readAct_566 rfl rfl
                                                · rcases jw_if hq with ⟨c25, hq⟩ | ⟨c25, hq⟩
                                                  · refine jw_tableIn (tgt := 565) (off := 521) dX6_readAct_44 (by rw [c25]; decide) (by rw [c25]; decide) (by rw [c25]; rfl) (by decide) ?_
                                                    refine jw_iconst dX6_readAct_565 (v := (0 : Int32)) (by decide) ?_
                                                    cases hq
                                                    exact jw_iret (ty := .boolean) dX6_readAct_566 rfl rfl
                                                  · rcases jw_if hq with ⟨c26, hq⟩ | ⟨c26, hq⟩
                                                    · refine jw_tableIn (tgt := 565) (off := 521) dX6_readAct_44 (by rw [c26]; decide) (by rw [c26]; decide) (by rw [c26]; rfl) (by decide) ?_
                                                      refine jw_iconst dX6_readAct_565 (v := (0 : Int32)) (by decide) ?_
                                                      cases hq
                                                      exact jw_iret (ty := .boolean) dX6_readAct_566 rfl rfl
                                                    · rcases jw_if hq with ⟨c27, hq⟩ | ⟨c27, hq⟩
                                                      · refine jw_tableIn (tgt := 475) (off := 431) dX6_readAct_44 (by rw [c27]; decide) (by rw [c27]; decide) (by rw [c27]; rfl) (by decide) ?_
                                                        exact l_X6_readAct_b475  hq
                                                      · rcases jw_if hq with ⟨c28, hq⟩ | ⟨c28, hq⟩
                                                        · refine jw_tableIn (tgt := 565) (off := 521) dX6_readAct_44 (by rw [c28]; decide) (by rw [c28]; decide) (by rw [c28]; rfl) (by decide) ?_
                                                          refine jw_iconst dX6_readAct_565 (v := (0 : Int32)) (by decide) ?_
                                                          cases hq
                                                          exact jw_iret (ty := .boolean) dX6_readAct_566 rfl rfl
                                                        · rcases jw_if hq with ⟨c29, hq⟩ | ⟨c29, hq⟩
                                                          · refine jw_tableIn (tgt := 565) (off := 521) dX6_readAct_44 (by rw [c29]; decide) (by rw [c29]; decide) (by rw [c29]; rfl) (by decide) ?_
                                                            refine jw_iconst dX6_readAct_565 (v := (0 : Int32)) (by decide) ?_
                                                            cases hq
                                                            exact jw_iret (ty := .boolean) dX6_readAct_566 rfl rfl
                                                          · rcases jw_if hq with ⟨c30, hq⟩ | ⟨c30, hq⟩
                                                            · refine jw_tableIn (tgt := 565) (off := 521) dX6_readAct_44 (by rw [c30]; decide) (by rw [c30]; decide) (by rw [c30]; rfl) (by decide) ?_
                                                              refine jw_iconst dX6_readAct_565 (v := (0 : Int32)) (by decide) ?_
                                                              cases hq
                                                              exact jw_iret (ty := .boolean) dX6_readAct_566 rfl rfl
                                                            · rcases jw_if hq with ⟨c31, hq⟩ | ⟨c31, hq⟩
                                                              · refine jw_tableIn (tgt := 565) (off := 521) dX6_readAct_44 (by rw [c31]; decide) (by rw [c31]; decide) (by rw [c31]; rfl) (by decide) ?_
                                                                refine jw_iconst dX6_readAct_565 (v := (0 : Int32)) (by decide) ?_
                                                                cases hq
                                                                exact jw_iret (ty := .boolean) dX6_readAct_566 rfl rfl
                                                              · rcases jw_if hq with ⟨c32, hq⟩ | ⟨c32, hq⟩
                                                                · refine jw_tableIn (tgt := 565) (off := 521) dX6_readAct_44 (by rw [c32]; decide) (by rw [c32]; decide) (by rw [c32]; rfl) (by decide) ?_
                                                                  refine jw_iconst dX6_readAct_565 (v := (0 : Int32)) (by decide) ?_
                                                                  cases hq
                                                                  exact jw_iret (ty := .boolean) dX6_readAct_566 rfl rfl
                                                                · rcases jw_if hq with ⟨c33, hq⟩ | ⟨c33, hq⟩
                                                                  · refine jw_tableIn (tgt := 565) (off := 521) dX6_readAct_44 (by rw [c33]; decide) (by rw [c33]; decide) (by rw [c33]; rfl) (by decide) ?_
                                                                    refine jw_iconst dX6_readAct_565 (v := (0 : Int32)) (by decide) ?_
                                                                    cases hq
                                                                    exact jw_iret (ty := .boolean) dX6_readAct_566 rfl rfl
                                                                  · rcases jw_if hq with ⟨c34, hq⟩ | ⟨c34, hq⟩
                                                                    · refine jw_tableIn (tgt := 565) (off := 521) dX6_readAct_44 (by rw [c34]; decide) (by rw [c34]; decide) (by rw [c34]; rfl) (by decide) ?_
                                                                      refine jw_iconst dX6_readAct_565 (v := (0 : Int32)) (by decide) ?_
                                                                      cases hq
                                                                      exact jw_iret (ty := .boolean) dX6_readAct_566 rfl rfl
                                                                    · rcases jw_if hq with ⟨c35, hq⟩ | ⟨c35, hq⟩
                                                                      · refine jw_tableIn (tgt := 565) (off := 521) dX6_readAct_44 (by rw [c35]; decide) (by rw [c35]; decide) (by rw [c35]; rfl) (by decide) ?_
                                                                        refine jw_iconst dX6_readAct_565 (v := (0 : Int32)) (by decide) ?_
                                                                        cases hq
                                                                        exact jw_iret (ty := .boolean) dX6_readAct_566 rfl rfl
                                                                      · rcases jw_if hq with ⟨c36, hq⟩ | ⟨c36, hq⟩
                                                                        · refine jw_tableIn (tgt := 565) (off := 521) dX6_readAct_44 (by rw [c36]; decide) (by rw [c36]; decide) (by rw [c36]; rfl) (by decide) ?_
                                                                          refine jw_iconst dX6_readAct_565 (v := (0 : Int32)) (by decide) ?_
                                                                          cases hq
                                                                          exact jw_iret (ty := .boolean) dX6_readAct_566 rfl rfl
                                                                        · rcases jw_if hq with ⟨c37, hq⟩ | ⟨c37, hq⟩
                                                                          · refine jw_tableIn (tgt := 565) (off := 521) dX6_readAct_44 (by rw [c37]; decide) (by rw [c37]; decide) (by rw [c37]; rfl) (by decide) ?_
                                                                            refine jw_iconst dX6_readAct_565 (v := (0 : Int32)) (by decide) ?_
                                                                            cases hq
                                                                            exact jw_iret (ty := .boolean) dX6_readAct_566 rfl rfl
                                                                          · rcases jw_if hq with ⟨c38, hq⟩ | ⟨c38, hq⟩
                                                                            · refine jw_tableIn (tgt := 565) (off := 521) dX6_readAct_44 (by rw [c38]; decide) (by rw [c38]; decide) (by rw [c38]; rfl) (by decide) ?_
                                                                              refine jw_iconst dX6_readAct_565 (v := (0 : Int32)) (by decide) ?_
                                                                              cases hq
                                                                              exact jw_iret (ty := .boolean) dX6_readAct_566 rfl rfl
                                                                            · rcases jw_if hq with ⟨c39, hq⟩ | ⟨c39, hq⟩
                                                                              · refine jw_tableIn (tgt := 565) (off := 521) dX6_readAct_44 (by rw [c39]; decide) (by rw [c39]; decide) (by rw [c39]; rfl) (by decide) ?_
                                                                                refine jw_iconst dX6_readAct_565 (v := (0 : Int32)) (by decide) ?_
                                                                                cases hq
                                                                                exact jw_iret (ty := .boolean) dX6_readAct_566 rfl rfl
                                                                              · rcases jw_if hq with ⟨c40, hq⟩ | ⟨c40, hq⟩
                                                                                · refine jw_tableIn (tgt := 324) (off := 280) dX6_readAct_44 (by rw [c40]; decide) (by rw [c40]; decide) (by rw [c40]; rfl) (by decide) ?_
                                                                                  refine jw_forget [true, true, true, false] (L' := [some (.ref x0), some (va_rf x1), none, none]) rfl ?_
                                                                                  exact l_X6_readAct_b324  hq
                                                                                · rcases jw_if hq with ⟨c41, hq⟩ | ⟨c41, hq⟩
                                                                                  · refine jw_tableIn (tgt := 475) (off := 431) dX6_readAct_44 (by rw [c41]; decide) (by rw [c41]; decide) (by rw [c41]; rfl) (by decide) ?_
                                                                                    exact l_X6_readAct_b475  hq
                                                                                  · rcases jw_if hq with ⟨c42, hq⟩ | ⟨c42, hq⟩
                                                                                    · refine jw_tableIn (tgt := 324) (off := 280) dX6_readAct_44 (by rw [c42]; decide) (by rw [c42]; decide) (by rw [c42]; rfl) (by decide) ?_
                                                                                      refine jw_forget [true, true, true, false] (L' := [some (.ref x0), some (va_rf x1), none, none]) rfl ?_
                                                                                      exact l_X6_readAct_b324  hq
                                                                                    · rcases jw_if hq with ⟨c43, hq⟩ | ⟨c43, hq⟩
                                                                                      · refine jw_tableIn (tgt := 340) (off := 296) dX6_readAct_44 (by rw [c43]; decide) (by rw [c43]; decide) (by rw [c43]; rfl) (by decide) ?_
                                                                                        refine jw_forget [true, false, true, false] (L' := [some (.ref x0), none, none, none]) rfl ?_
                                                                                        exact l_X6_readAct_b340  hq
                                                                                      · rcases jw_if hq with ⟨c44, hq⟩ | ⟨c44, hq⟩
                                                                                        · refine jw_tableIn (tgt := 340) (off := 296) dX6_readAct_44 (by rw [c44]; decide) (by rw [c44]; decide) (by rw [c44]; rfl) (by decide) ?_
                                                                                          refine jw_forget [true, false, true, false] (L' := [some (.ref x0), none, none, none]) rfl ?_
                                                                                          exact l_X6_readAct_b340  hq
                                                                                        · rcases jw_if hq with ⟨c45, hq⟩ | ⟨c45, hq⟩
                                                                                          · refine jw_tableIn (tgt := 565) (off := 521) dX6_readAct_44 (by rw [c45]; decide) (by rw [c45]; decide) (by rw [c45]; rfl) (by decide) ?_
                                                                                            refine jw_iconst dX6_readAct_565 (v := (0 : Int32)) (by decide) ?_
                                                                                            cases hq
                                                                                            exact jw_iret (ty := .boolean) dX6_readAct_566 rfl rfl
                                                                                          · rcases jw_if hq with ⟨c46, hq⟩ | ⟨c46, hq⟩
                                                                                            · refine jw_tableIn (tgt := 549) (off := 505) dX6_readAct_44 (by rw [c46]; decide) (by rw [c46]; decide) (by rw [c46]; rfl) (by decide) ?_
                                                                                              refine jw_forget [true, true, true, false] (L' := [some (.ref x0), some (va_rf x1), none, none]) rfl ?_
                                                                                              exact l_X6_readAct_b549  hq
                                                                                            · rcases jw_if hq with ⟨c47, hq⟩ | ⟨c47, hq⟩
                                                                                              · refine jw_tableIn (tgt := 340) (off := 296) dX6_readAct_44 (by rw [c47]; decide) (by rw [c47]; decide) (by rw [c47]; rfl) (by decide) ?_
                                                                                                refine jw_forget [true, false, true, false] (L' := [some (.ref x0), none, none, none]) rfl ?_
                                                                                                exact l_X6_readAct_b340  hq
                                                                                              · rcases jw_if hq with ⟨c48, hq⟩ | ⟨c48, hq⟩
                                                                                                · refine jw_tableIn (tgt := 324) (off := 280) dX6_readAct_44 (by rw [c48]; decide) (by rw [c48]; decide) (by rw [c48]; rfl) (by decide) ?_
                                                                                                  refine jw_forget [true, true, true, false] (L' := [some (.ref x0), some (va_rf x1), none, none]) rfl ?_
                                                                                                  exact l_X6_readAct_b324  hq
                                                                                                · rcases jw_if hq with ⟨c49, hq⟩ | ⟨c49, hq⟩
                                                                                                  · refine jw_tableIn (tgt := 340) (off := 296) dX6_readAct_44 (by rw [c49]; decide) (by rw [c49]; decide) (by rw [c49]; rfl) (by decide) ?_
                                                                                                    refine jw_forget [true, false, true, false] (L' := [some (.ref x0), none, none, none]) rfl ?_
                                                                                                    exact l_X6_readAct_b340  hq
                                                                                                  · rcases jw_if hq with ⟨c50, hq⟩ | ⟨c50, hq⟩
                                                                                                    · refine jw_tableIn (tgt := 403) (off := 359) dX6_readAct_44 (by rw [c50]; decide) (by rw [c50]; decide) (by rw [c50]; rfl) (by decide) ?_
                                                                                                      refine jw_aload_n dX6_readAct_403 (o := (some x0)) rfl ?_
                                                                                                      refine jw_dup dX6_readAct_404 rfl ?_
                                                                                                      obtain ⟨v51, ev51, hq⟩ := Option.bind_eq_some_iff.mp hq
                                                                                                      refine jw_getI (o := (some x0)) dX6_readAct_405 ev51 fl_X6_43 rfl ?_
                                                                                                      refine jw_iconst dX6_readAct_408 (v := (1 : Int32)) (by decide) ?_
                                                                                                      refine jw_iadd dX6_readAct_409 ?_
                                                                                                      obtain ⟨h52, eh52, hq⟩ := Option.bind_eq_some_iff.mp hq
                                                                                                      refine jw_putI (o := (some x0)) dX6_readAct_410 eh52 fl_X6_43 rfl rfl ?_
                                                                                                      refine jw_aload_n dX6_readAct_413 (o := x1) rfl ?_
                                                                                                      refine jw_aload_n dX6_readAct_414 (o := (some x0)) rfl ?_
                                                                                                      refine jw_bipush dX6_readAct_415 (v := (97 : Int32)) (by decide) ?_
                                                                                                      refine jw_bipush dX6_readAct_417 (v := (101 : Int32)) (by decide) ?_
                                                                                                      obtain ⟨a53, ea53, hq⟩ := Option.bind_eq_some_iff.mp hq
                                                                                                      obtain ⟨eoa53, eta53⟩ := jw_rc_spec ea53
                                                                                                      obtain ⟨w55, h54, ew55, hq⟩ := jw_b2_spec hq
                                                                                                      refine jw_callV (As := [.int (97 : Int32), .int (101 : Int32)]) (S := [va_rf x1]) (a := a53) (v := some (.int w55)) dX6_readAct_419 mt_X6_readFrom in_X6_readFrom se_X6_readFrom lk_X6_121 (c_X6_readFrom ew55) eta53 (by decide) rfl rfl (by decide) (by simp only [List.map_cons, List.map_nil, List.sum_cons, List.sum_nil, jw_cat_rf, jw_cat_i, jw_cat_l, jw_cat_a, jw_cat_s] <;> decide) (by cases eoa53; rfl) ?_
                                                                                                      obtain ⟨h56, eh56, hq⟩ := Option.bind_eq_some_iff.mp hq
                                                                                                      refine jw_putI (o := x1) dX6_readAct_422 eh56 fl_X6_140 rfl rfl ?_
                                                                                                      refine jw_aload_n dX6_readAct_425 (o := x1) rfl ?_
                                                                                                      obtain ⟨v57, ev57, hq⟩ := Option.bind_eq_some_iff.mp hq
                                                                                                      refine jw_getI (o := x1) dX6_readAct_426 ev57 fl_X6_140 rfl ?_
                                                                                                      refine jw_iconst dX6_readAct_429 (v := (-1 : Int32)) (by decide) ?_
                                                                                                      rcases jw_if hq with ⟨c58, hq⟩ | ⟨c58, hq⟩
                                                                                                      · refine jw_icmp_eq_t (tgt := 437) dX6_readAct_430 (by decide) c58 ?_
                                                                                                        refine jw_iconst dX6_readAct_437 (v := (0 : Int32)) (by decide) ?_
                                                                                                        refine jw_forget [false, false, true, false] (L' := [none, none, none, none]) rfl ?_
                                                                                                        exact l_X6_readAct_b438  hq
                                                                                                      · refine jw_icmp_eq_f (tgt := 437) dX6_readAct_430 (by decide) c58 ?_
                                                                                                        refine jw_iconst dX6_readAct_433 (v := (1 : Int32)) (by decide) ?_
                                                                                                        refine jw_goto (tgt := 438) dX6_readAct_434 (by decide) ?_
                                                                                                        refine jw_forget [false, false, true, false] (L' := [none, none, none, none]) rfl ?_
                                                                                                        exact l_X6_readAct_b438  hq
                                                                                                    · rcases jw_if hq with ⟨c59, hq⟩ | ⟨c59, hq⟩
                                                                                                      · refine jw_tableIn (tgt := 340) (off := 296) dX6_readAct_44 (by rw [c59]; decide) (by rw [c59]; decide) (by rw [c59]; rfl) (by decide) ?_
                                                                                                        refine jw_forget [true, false, true, false] (L' := [some (.ref x0), none, none, none]) rfl ?_
                                                                                                        exact l_X6_readAct_b340  hq
                                                                                                      · rcases jw_if hq with ⟨c60, hq⟩ | ⟨c60, hq⟩
                                                                                                        · refine jw_tableIn (tgt := 384) (off := 340) dX6_readAct_44 (by rw [c60]; decide) (by rw [c60]; decide) (by rw [c60]; rfl) (by decide) ?_
                                                                                                          refine jw_forget [true, true, true, false] (L' := [some (.ref x0), some (va_rf x1), none, none]) rfl ?_
                                                                                                          exact l_X6_readAct_b384  hq
                                                                                                        · rcases jw_if hq with ⟨c61, hq⟩ | ⟨c61, hq⟩
                                                                                                          · refine jw_tableIn (tgt := 340) (off := 296) dX6_readAct_44 (by rw [c61]; decide) (by rw [c61]; decide) (by rw [c61]; rfl) (by decide) ?_
                                                                                                            refine jw_forget [true, false, true, false] (L' := [some (.ref x0), none, none, none]) rfl ?_
                                                                                                            exact l_X6_readAct_b340  hq
                                                                                                          · rcases jw_if hq with ⟨c62, hq⟩ | ⟨c62, hq⟩
                                                                                                            · refine jw_tableIn (tgt := 352) (off := 308) dX6_readAct_44 (by rw [c62]; decide) (by rw [c62]; decide) (by rw [c62]; rfl) (by decide) ?_
                                                                                                              refine jw_forget [true, true, true, false] (L' := [some (.ref x0), some (va_rf x1), none, none]) rfl ?_
                                                                                                              exact l_X6_readAct_b352  hq
                                                                                                            · rcases jw_if hq with ⟨c63, hq⟩ | ⟨c63, hq⟩
                                                                                                              · refine jw_tableIn (tgt := 340) (off := 296) dX6_readAct_44 (by rw [c63]; decide) (by rw [c63]; decide) (by rw [c63]; rfl) (by decide) ?_
                                                                                                                refine jw_forget [true, false, true, false] (L' := [some (.ref x0), none, none, none]) rfl ?_
                                                                                                                exact l_X6_readAct_b340  hq
                                                                                                              · rcases jw_if hq with ⟨c64, hq⟩ | ⟨c64, hq⟩
                                                                                                                · refine jw_tableIn (tgt := 340) (off := 296) dX6_readAct_44 (by rw [c64]; decide) (by rw [c64]; decide) (by rw [c64]; rfl) (by decide) ?_
                                                                                                                  refine jw_forget [true, false, true, false] (L' := [some (.ref x0), none, none, none]) rfl ?_
                                                                                                                  exact l_X6_readAct_b340  hq
                                                                                                                · rcases jw_if hq with ⟨c65, hq⟩ | ⟨c65, hq⟩
                                                                                                                  · refine jw_tableIn (tgt := 439) (off := 395) dX6_readAct_44 (by rw [c65]; decide) (by rw [c65]; decide) (by rw [c65]; rfl) (by decide) ?_
                                                                                                                    refine jw_forget [true, true, true, false] (L' := [some (.ref x0), some (va_rf x1), none, none]) rfl ?_
                                                                                                                    exact l_X6_readAct_b439  hq
                                                                                                                  · rcases jw_if hq with ⟨c66, hq⟩ | ⟨c66, hq⟩
                                                                                                                    · refine jw_tableIn (tgt := 517) (off := 473) dX6_readAct_44 (by rw [c66]; decide) (by rw [c66]; decide) (by rw [c66]; rfl) (by decide) ?_
                                                                                                                      refine jw_aload_n dX6_readAct_517 (o := (some x0)) rfl ?_
                                                                                                                      refine jw_dup dX6_readAct_518 rfl ?_
                                                                                                                      obtain ⟨v67, ev67, hq⟩ := Option.bind_eq_some_iff.mp hq
                                                                                                                      refine jw_getI (o := (some x0)) dX6_readAct_519 ev67 fl_X6_43 rfl ?_
                                                                                                                      refine jw_iconst dX6_readAct_522 (v := (1 : Int32)) (by decide) ?_
                                                                                                                      refine jw_iadd dX6_readAct_523 ?_
                                                                                                                      obtain ⟨h68, eh68, hq⟩ := Option.bind_eq_some_iff.mp hq
                                                                                                                      refine jw_putI (o := (some x0)) dX6_readAct_524 eh68 fl_X6_43 rfl rfl ?_
                                                                                                                      refine jw_aload_n dX6_readAct_527 (o := (some x0)) rfl ?_
                                                                                                                      refine jw_aload_n dX6_readAct_528 (o := x1) rfl ?_
                                                                                                                      obtain ⟨a69, ea69, hq⟩ := Option.bind_eq_some_iff.mp hq
                                                                                                                      obtain ⟨eoa69, eta69⟩ := jw_rc_spec ea69
                                                                                                                      obtain ⟨w71, h70, ew71, hq⟩ := jw_b2_spec hq
                                                                                                                      refine jw_callV (As := [va_rf x1]) (S := []) (a := a69) (v := some (.int w71)) dX6_readAct_529 mt_X6_readReplace in_X6_readReplace se_X6_readReplace lk_X6_146 (c_X6_readReplace ew71) eta69 (by decide) rfl rfl (by decide) (Nat.le_of_ble_eq_true rfl) (by cases eoa69; rfl) ?_
                                                                                                                      obtain ⟨v72, ev72, hq⟩ := Option.bind_eq_some_iff.mp hq
                                                                                                                      cases hq
                                                                                                                      exact jw_iret (ty := .boolean) dX6_readAct_532 rfl (jw_rb_spec ev72)
                                                                                                                    · rcases jw_if hq with ⟨c73, hq⟩ | ⟨c73, hq⟩
                                                                                                                      · refine jw_tableIn (tgt := 384) (off := 340) dX6_readAct_44 (by rw [c73]; decide) (by rw [c73]; decide) (by rw [c73]; rfl) (by decide) ?_
                                                                                                                        refine jw_forget [true, true, true, false] (L' := [some (.ref x0), some (va_rf x1), none, none]) rfl ?_
                                                                                                                        exact l_X6_readAct_b384  hq
                                                                                                                      · rcases jw_if hq with ⟨c74, hq⟩ | ⟨c74, hq⟩
                                                                                                                        · refine jw_tableIn (tgt := 340) (off := 296) dX6_readAct_44 (by rw [c74]; decide) (by rw [c74]; decide) (by rw [c74]; rfl) (by decide) ?_
                                                                                                                          refine jw_forget [true, false, true, false] (L' := [some (.ref x0), none, none, none]) rfl ?_
                                                                                                                          exact l_X6_readAct_b340  hq
                                                                                                                        · rcases jw_if hq with ⟨c75, hq⟩ | ⟨c75, hq⟩
                                                                                                                          · refine jw_tableIn (tgt := 352) (off := 308) dX6_readAct_44 (by rw [c75]; decide) (by rw [c75]; decide) (by rw [c75]; rfl) (by decide) ?_
                                                                                                                            refine jw_forget [true, true, true, false] (L' := [some (.ref x0), some (va_rf x1), none, none]) rfl ?_
                                                                                                                            exact l_X6_readAct_b352  hq
                                                                                                                          · rcases jw_if hq with ⟨c76, hq⟩ | ⟨c76, hq⟩
                                                                                                                            · refine jw_tableIn (tgt := 439) (off := 395) dX6_readAct_44 (by rw [c76]; decide) (by rw [c76]; decide) (by rw [c76]; rfl) (by decide) ?_
                                                                                                                              refine jw_forget [true, true, true, false] (L' := [some (.ref x0), some (va_rf x1), none, none]) rfl ?_
                                                                                                                              exact l_X6_readAct_b439  hq
                                                                                                                            · rcases jw_if hq with ⟨c77, hq⟩ | ⟨c77, hq⟩
                                                                                                                              · refine jw_tableIn (tgt := 565) (off := 521) dX6_readAct_44 (by rw [c77]; decide) (by rw [c77]; decide) (by rw [c77]; rfl) (by decide) ?_
                                                                                                                                refine jw_iconst dX6_readAct_565 (v := (0 : Int32)) (by decide) ?_
                                                                                                                                cases hq
                                                                                                                                exact jw_iret (ty := .boolean) dX6_readAct_566 rfl rfl
                                                                                                                              · rcases jw_if hq with ⟨c78, hq⟩ | ⟨c78, hq⟩
                                                                                                                                · refine jw_tableIn (tgt := 565) (off := 521) dX6_readAct_44 (by rw [c78]; decide) (by rw [c78]; decide) (by rw [c78]; rfl) (by decide) ?_
                                                                                                                                  refine jw_iconst dX6_readAct_565 (v := (0 : Int32)) (by decide) ?_
                                                                                                                                  cases hq
                                                                                                                                  exact jw_iret (ty := .boolean) dX6_readAct_566 rfl rfl
                                                                                                                                · rcases jw_if hq with ⟨c79, hq⟩ | ⟨c79, hq⟩
                                                                                                                                  · refine jw_tableIn (tgt := 533) (off := 489) dX6_readAct_44 (by rw [c79]; decide) (by rw [c79]; decide) (by rw [c79]; rfl) (by decide) ?_
                                                                                                                                    refine jw_aload_n dX6_readAct_533 (o := (some x0)) rfl ?_
                                                                                                                                    refine jw_dup dX6_readAct_534 rfl ?_
                                                                                                                                    obtain ⟨v80, ev80, hq⟩ := Option.bind_eq_some_iff.mp hq
                                                                                                                                    refine jw_getI (o := (some x0)) dX6_readAct_535 ev80 fl_X6_43 rfl ?_
                                                                                                                                    refine jw_iconst dX6_readAct_538 (v := (1 : Int32)) (by decide) ?_
                                                                                                                                    refine jw_iadd dX6_readAct_539 ?_
                                                                                                                                    obtain ⟨h81, eh81, hq⟩ := Option.bind_eq_some_iff.mp hq
                                                                                                                                    refine jw_putI (o := (some x0)) dX6_readAct_540 eh81 fl_X6_43 rfl rfl ?_
                                                                                                                                    refine jw_aload_n dX6_readAct_543 (o := (some x0)) rfl ?_
                                                                                                                                    refine jw_aload_n dX6_readAct_544 (o := x1) rfl ?_
                                                                                                                                    obtain ⟨a82, ea82, hq⟩ := Option.bind_eq_some_iff.mp hq
                                                                                                                                    obtain ⟨eoa82, eta82⟩ := jw_rc_spec ea82
                                                                                                                                    obtain ⟨w84, h83, ew84, hq⟩ := jw_b2_spec hq
                                                                                                                                    refine jw_callV (As := [va_rf x1]) (S := []) (a := a82) (v := some (.int w84)) dX6_readAct_545 mt_X6_readTurn in_X6_readTurn se_X6_readTurn lk_X6_149 (c_X6_readTurn ew84) eta82 (by decide) rfl rfl (by decide) (Nat.le_of_ble_eq_true rfl) (by cases eoa82; rfl) ?_
                                                                                                                                    obtain ⟨v85, ev85, hq⟩ := Option.bind_eq_some_iff.mp hq
                                                                                                                                    cases hq
                                                                                                                                    exact jw_iret (ty := .boolean) dX6_readAct_548 rfl (jw_rb_spec ev85)
                                                                                                                                  · rcases jw_if hq with ⟨c86, hq⟩ | ⟨c86, hq⟩
                                                                                                                                    · refine jw_tableIn (tgt := 340) (off := 296) dX6_readAct_44 (by rw [c86]; decide) (by rw [c86]; decide) (by rw [c86]; rfl) (by decide) ?_
                                                                                                                                      refine jw_forget [true, false, true, false] (L' := [some (.ref x0), none, none, none]) rfl ?_
                                                                                                                                      exact l_X6_readAct_b340  hq
                                                                                                                                    · refine jw_tableOut (tgt := 565) dX6_readAct_44 (by have z0 : ¬ (x3).toInt = 58 := lv_neT c1 rfl; have z1 : ¬ (x3).toInt = 59 := lv_neT c2 rfl; have z2 : ¬ (x3).toInt = 60 := lv_neT c3 rfl; have z3 : ¬ (x3).toInt = 61 := lv_neT c4 rfl; have z4 : ¬ (x3).toInt = 62 := lv_neT c5 rfl; have z5 : ¬ (x3).toInt = 63 := lv_neT c6 rfl; have z6 : ¬ (x3).toInt = 64 := lv_neT c7 rfl; have z7 : ¬ (x3).toInt = 65 := lv_neT c8 rfl; have z8 : ¬ (x3).toInt = 66 := lv_neT c9 rfl; have z9 : ¬ (x3).toInt = 67 := lv_neT c10 rfl; have z10 : ¬ (x3).toInt = 68 := lv_neT c11 rfl; have z11 : ¬ (x3).toInt = 69 := lv_neT c12 rfl; have z12 : ¬ (x3).toInt = 70 := lv_neT c13 rfl; have z13 : ¬ (x3).toInt = 71 := lv_neT c14 rfl; have z14 : ¬ (x3).toInt = 72 := lv_neT c15 rfl; have z15 : ¬ (x3).toInt = 73 := lv_neT c16 rfl; have z16 : ¬ (x3).toInt = 74 := lv_neT c17 rfl; have z17 : ¬ (x3).toInt = 75 := lv_neT c18 rfl; have z18 : ¬ (x3).toInt = 76 := lv_neT c19 rfl; have z19 : ¬ (x3).toInt = 77 := lv_neT c20 rfl; have z20 : ¬ (x3).toInt = 78 := lv_neT c21 rfl; have z21 : ¬ (x3).toInt = 79 := lv_neT c22 rfl; have z22 : ¬ (x3).toInt = 80 := lv_neT c23 rfl; have z23 : ¬ (x3).toInt = 81 := lv_neT c24 rfl; have z24 : ¬ (x3).toInt = 82 := lv_neT c25 rfl; have z25 : ¬ (x3).toInt = 83 := lv_neT c26 rfl; have z26 : ¬ (x3).toInt = 84 := lv_neT c27 rfl; have z27 : ¬ (x3).toInt = 85 := lv_neT c28 rfl; have z28 : ¬ (x3).toInt = 86 := lv_neT c29 rfl; have z29 : ¬ (x3).toInt = 87 := lv_neT c30 rfl; have z30 : ¬ (x3).toInt = 88 := lv_neT c31 rfl; have z31 : ¬ (x3).toInt = 89 := lv_neT c32 rfl; have z32 : ¬ (x3).toInt = 90 := lv_neT c33 rfl; have z33 : ¬ (x3).toInt = 91 := lv_neT c34 rfl; have z34 : ¬ (x3).toInt = 92 := lv_neT c35 rfl; have z35 : ¬ (x3).toInt = 93 := lv_neT c36 rfl; have z36 : ¬ (x3).toInt = 94 := lv_neT c37 rfl; have z37 : ¬ (x3).toInt = 95 := lv_neT c38 rfl; have z38 : ¬ (x3).toInt = 96 := lv_neT c39 rfl; have z39 : ¬ (x3).toInt = 97 := lv_neT c40 rfl; have z40 : ¬ (x3).toInt = 98 := lv_neT c41 rfl; have z41 : ¬ (x3).toInt = 99 := lv_neT c42 rfl; have z42 : ¬ (x3).toInt = 100 := lv_neT c43 rfl; have z43 : ¬ (x3).toInt = 101 := lv_neT c44 rfl; have z44 : ¬ (x3).toInt = 102 := lv_neT c45 rfl; have z45 : ¬ (x3).toInt = 103 := lv_neT c46 rfl; have z46 : ¬ (x3).toInt = 104 := lv_neT c47 rfl; have z47 : ¬ (x3).toInt = 105 := lv_neT c48 rfl; have z48 : ¬ (x3).toInt = 106 := lv_neT c49 rfl; have z49 : ¬ (x3).toInt = 107 := lv_neT c50 rfl; have z50 : ¬ (x3).toInt = 108 := lv_neT c59 rfl; have z51 : ¬ (x3).toInt = 109 := lv_neT c60 rfl; have z52 : ¬ (x3).toInt = 110 := lv_neT c61 rfl; have z53 : ¬ (x3).toInt = 111 := lv_neT c62 rfl; have z54 : ¬ (x3).toInt = 112 := lv_neT c63 rfl; have z55 : ¬ (x3).toInt = 113 := lv_neT c64 rfl; have z56 : ¬ (x3).toInt = 114 := lv_neT c65 rfl; have z57 : ¬ (x3).toInt = 115 := lv_neT c66 rfl; have z58 : ¬ (x3).toInt = 116 := lv_neT c73 rfl; have z59 : ¬ (x3).toInt = 117 := lv_neT c74 rfl; have z60 : ¬ (x3).toInt = 118 := lv_neT c75 rfl; have z61 : ¬ (x3).toInt = 119 := lv_neT c76 rfl; have z62 : ¬ (x3).toInt = 120 := lv_neT c77 rfl; have z63 : ¬ (x3).toInt = 121 := lv_neT c78 rfl; have z64 : ¬ (x3).toInt = 122 := lv_neT c79 rfl; have z65 : ¬ (x3).toInt = 123 := lv_neT c86 rfl; omega) (by decide) ?_
                                                                                                                                      refine jw_iconst dX6_readAct_565 (v := (0 : Int32)) (by decide) ?_
                                                                                                                                      cases hq
                                                                                                                                      exact jw_iret (ty := .boolean) dX6_readAct_566 rfl rfl

set_option maxRecDepth 100000 in
set_option maxHeartbeats 4000000 in
theorem l_X6_readAct_b28 {hi : jw_H} {h : jw_H} {x0 : Nat} {x1 : Option Nat} {x3 : Int32} {r : Int32} {h' : jw_H} (hq : g_X6_readAct_b28  h x0 x1 x3 = some (r, h')) : jw_E 4 uX6_readAct hi 28 [some (.ref x0), some (va_rf x1), none, some (.int x3)] [] h (.inl (some (.int r))) h' := by
  unfold g_X6_readAct_b28 at hq
  refine jw_iload_n dX6_readAct_28 rfl ?_
  refine jw_bipush dX6_readAct_29 (v := (58 : Int32)) (by decide) ?_
  rcases jw_if hq with ⟨c1, hq⟩ | ⟨c1, hq⟩
  · refine jw_icmp_ne_f (tgt := 43) dX6_readAct_31 (by decide) c1 ?_
    refine jw_aload_n dX6_readAct_34 (o := x1) rfl ?_
    obtain ⟨v2, ev2, hq⟩ := Option.bind_eq_some_iff.mp hq
    refine jw_getI (o := x1) dX6_readAct_35 ev2 fl_X6_90 rfl ?_
    rcases jw_if hq with ⟨c3, hq⟩ | ⟨c3, hq⟩
    · refine jw_if_eq_t (tgt := 43) dX6_readAct_38 (by decide) c3 ?_
      exact l_X6_readAct_b43  hq
    · refine jw_if_eq_f (tgt := 43) dX6_readAct_38 (by decide) c3 ?_
      refine jw_iconst dX6_readAct_41 (v := (0 : Int32)) (by decide) ?_
      cases hq
      exact jw_iret (ty := .boolean) dX6_readAct_42 rfl rfl
  · refine jw_icmp_ne_t (tgt := 43) dX6_readAct_31 (by decide) c1 ?_
    exact l_X6_readAct_b43  hq

set_option maxRecDepth 100000 in
set_option maxHeartbeats 4000000 in
theorem l_X6_readAct {hi : jw_H} {h : jw_H} {x0 : Nat} {x1 : Option Nat} {x2 : Int32} {r : Int32} {h' : jw_H} (hq : f_X6_readAct  h x0 x1 x2 = some (r, h')) : jw_E 4 uX6_readAct hi 0 [some (.ref x0), some (va_rf x1), some (.int x2), none] [] h (.inl (some (.int r))) h' := by
  unfold f_X6_readAct at hq
  refine jw_aload_n dX6_readAct_0 (o := (some x0)) rfl ?_
  obtain ⟨a1, ea1, hq⟩ := Option.bind_eq_some_iff.mp hq
  obtain ⟨eoa1, eta1⟩ := jw_rc_spec ea1
  obtain ⟨w3, h2, ew3, hq⟩ := jw_b2_spec hq
  refine jw_callV (As := []) (S := []) (a := a1) (v := some (.int w3)) dX6_readAct_1 mt_X6_peek in_X6_peek se_X6_peek lk_X6_93 (c_X6_peek ew3) eta1 (by decide) rfl rfl (by decide) (Nat.le_of_ble_eq_true rfl) (by cases eoa1; rfl) ?_
  refine jw_istore_n (L' := [some (.ref x0), some (va_rf x1), some (.int x2), some (.int w3)]) dX6_readAct_4 (Nat.le_of_ble_eq_true rfl) rfl ?_
  refine jw_aload_n dX6_readAct_5 (o := x1) rfl ?_
  refine jw_iload_n dX6_readAct_6 rfl ?_
  obtain ⟨h4, eh4, hq⟩ := Option.bind_eq_some_iff.mp hq
  refine jw_putI (o := x1) dX6_readAct_7 eh4 fl_X6_69 rfl rfl ?_
  refine jw_iload_n dX6_readAct_10 rfl ?_
  rcases jw_if hq with ⟨c5, hq⟩ | ⟨c5, hq⟩
  · refine jw_if_eq_t (tgt := 28) dX6_readAct_11 (by decide) c5 ?_
    refine jw_forget [true, true, false, true] (L' := [some (.ref x0), some (va_rf x1), none, some (.int w3)]) rfl ?_
    exact l_X6_readAct_b28  hq
  · refine jw_if_eq_f (tgt := 28) dX6_readAct_11 (by decide) c5 ?_
    refine jw_aload_n dX6_readAct_14 (o := x1) rfl ?_
    obtain ⟨a6, ea6, hq⟩ := Option.bind_eq_some_iff.mp hq
    obtain ⟨eoa6, eta6⟩ := jw_rc_spec ea6
    obtain ⟨w8, h7, ew8, hq⟩ := jw_b2_spec hq
    refine jw_callV (As := []) (S := []) (a := a6) (v := some (.int w8)) dX6_readAct_15 mt_X5_holdsOthers in_X5_holdsOthers se_X5_holdsOthers lk_X6_65 (c_X5_holdsOthers ew8) eta6 (by decide) rfl rfl (by decide) (Nat.le_of_ble_eq_true rfl) (by cases eoa6; rfl) ?_
    rcases jw_if hq with ⟨c9, hq⟩ | ⟨c9, hq⟩
    · refine jw_if_ne_f (tgt := 41) dX6_readAct_18 (by decide) c9 ?_
      refine jw_aload_n dX6_readAct_21 (o := x1) rfl ?_
      obtain ⟨a10, ea10, hq⟩ := Option.bind_eq_some_iff.mp hq
      obtain ⟨eoa10, eta10⟩ := jw_rc_spec ea10
      obtain ⟨w12, h11, ew12, hq⟩ := jw_b2_spec hq
      refine jw_callV (As := []) (S := []) (a := a10) (v := some (.int w12)) dX6_readAct_22 mt_X5_steers in_X5_steers se_X5_steers lk_X6_134 (c_X5_steers ew12) eta10 (by decide) rfl rfl (by decide) (Nat.le_of_ble_eq_true rfl) (by cases eoa10; rfl) ?_
      rcases jw_if hq with ⟨c13, hq⟩ | ⟨c13, hq⟩
      · refine jw_if_ne_f (tgt := 41) dX6_readAct_25 (by decide) c13 ?_
        refine jw_forget [true, true, false, true] (L' := [some (.ref x0), some (va_rf x1), none, some (.int w3)]) rfl ?_
        exact l_X6_readAct_b28  hq
      · refine jw_if_ne_t (tgt := 41) dX6_readAct_25 (by decide) c13 ?_
        refine jw_iconst dX6_readAct_41 (v := (0 : Int32)) (by decide) ?_
        cases hq
        exact jw_iret (ty := .boolean) dX6_readAct_42 rfl rfl
    · refine jw_if_ne_t (tgt := 41) dX6_readAct_18 (by decide) c9 ?_
      refine jw_iconst dX6_readAct_41 (v := (0 : Int32)) (by decide) ?_
      cases hq
      exact jw_iret (ty := .boolean) dX6_readAct_42 rfl rfl

theorem c_X6_readAct {h : jw_H} {x0 : Nat} {x1 : Option Nat} {x2 : Int32} {r : Int32} {h' : jw_H} (hq : f_X6_readAct h x0 x1 x2 = some (r, h')) : jw_Con (Cond.code yX6_readAct cX6_readAct 4 (some .boolean)) yX6_readAct 4 [.ref x0, va_rf x1, .int x2] h (.inl (some (.int r))) h' :=
  jw_con false (plainFor_of_name (by decide +kernel)) (fun z => nomatch z) (by simp [jw_ent, jw_sl0_nil, jw_sl0_int, jw_sl0_long, jw_sl0_ref, jw_sl0_rf, jw_sl0_scr, List.replicate]) (by simp [jw_sl0_nil, jw_sl0_int, jw_sl0_long, jw_sl0_ref, jw_sl0_rf, jw_sl0_scr]) (l_X6_readAct hq)


/-! X6_readOrder -/
noncomputable def f_X6_readOrder (h : jw_H) (x0 : Nat) (x1 : Int32) : Option (Int32 × jw_H) :=
 (jw_gI h 6 (some x0) 6).bind fun v1 =>
 if v1 < 0 then (some ((0 : Int32), h))
 else ((jw_gI h 6 (some x0) 6).bind fun v3 =>
 (jw_gR h 6 (some x0) 0).bind fun v4 =>
 (jw_ln h v4).bind fun v5 =>
 if v5 ≤ v3 then (some ((0 : Int32), h))
 else ((jw_gR h 6 (some x0) 0).bind fun v7 =>
 (jw_gI h 6 (some x0) 6).bind fun v8 =>
 (jw_ar h 35 v7 v8).bind fun v9 =>
 if v9 = none then (some ((0 : Int32), h))
 else ((jw_gR h 6 (some x0) 0).bind fun v11 =>
 (jw_gI h 6 (some x0) 6).bind fun v12 =>
 (jw_ar h 35 v11 v12).bind fun v13 =>
 (jw_rc h 5 v13).bind fun a14 =>
 jw_b2 (f_X5_clear h a14) fun w16 h15 =>
 (jw_rc h15 6 (some x0)).bind fun a17 =>
 jw_b2 (f_X6_readWhere h15 a17 v13) fun w19 h18 =>
 if w19 = 0 then (some ((0 : Int32), h18))
 else ((jw_rc h18 6 (some x0)).bind fun a21 =>
 jw_b2 (f_X6_readAct h18 a21 v13 x1) fun w23 h22 =>
 if w23 = 0 then (some ((0 : Int32), h22))
 else ((jw_gI h22 6 (some x0) 6).bind fun v25 =>
 (jw_pI h22 6 (some x0) 6 (v25 + (1 : Int32))).bind fun h26 =>
 (jw_gI h26 6 (some x0) 6).bind fun v27 =>
 (jw_pI h26 5 v13 9 v27).bind fun h28 =>
 some ((1 : Int32), h28))))))

set_option maxRecDepth 100000 in
set_option maxHeartbeats 4000000 in
theorem l_X6_readOrder {hi : jw_H} {h : jw_H} {x0 : Nat} {x1 : Int32} {r : Int32} {h' : jw_H} (hq : f_X6_readOrder  h x0 x1 = some (r, h')) : jw_E 5 uX6_readOrder hi 0 [some (.ref x0), some (.int x1), none] [] h (.inl (some (.int r))) h' := by
  unfold f_X6_readOrder at hq
  refine jw_aload_n dX6_readOrder_0 (o := (some x0)) rfl ?_
  obtain ⟨v1, ev1, hq⟩ := Option.bind_eq_some_iff.mp hq
  refine jw_getI (o := (some x0)) dX6_readOrder_1 ev1 fl_X6_30 rfl ?_
  rcases jw_if hq with ⟨c2, hq⟩ | ⟨c2, hq⟩
  · refine jw_if_lt_t (tgt := 31) dX6_readOrder_4 (by decide) c2 ?_
    refine jw_iconst dX6_readOrder_31 (v := (0 : Int32)) (by decide) ?_
    cases hq
    exact jw_iret (ty := .boolean) dX6_readOrder_32 rfl rfl
  · refine jw_if_lt_f (tgt := 31) dX6_readOrder_4 (by decide) c2 ?_
    refine jw_aload_n dX6_readOrder_7 (o := (some x0)) rfl ?_
    obtain ⟨v3, ev3, hq⟩ := Option.bind_eq_some_iff.mp hq
    refine jw_getI (o := (some x0)) dX6_readOrder_8 ev3 fl_X6_30 rfl ?_
    refine jw_aload_n dX6_readOrder_11 (o := (some x0)) rfl ?_
    obtain ⟨v4, ev4, hq⟩ := Option.bind_eq_some_iff.mp hq
    refine jw_getR (o := (some x0)) dX6_readOrder_12 ev4 fl_X6_11 rfl ?_
    obtain ⟨v5, ev5, hq⟩ := Option.bind_eq_some_iff.mp hq
    refine jw_alen (o := v4) dX6_readOrder_15 ev5 ?_
    rcases jw_if hq with ⟨c6, hq⟩ | ⟨c6, hq⟩
    · refine jw_icmp_ge_t (tgt := 31) dX6_readOrder_16 (by decide) c6 ?_
      refine jw_iconst dX6_readOrder_31 (v := (0 : Int32)) (by decide) ?_
      cases hq
      exact jw_iret (ty := .boolean) dX6_readOrder_32 rfl rfl
    · refine jw_icmp_ge_f (tgt := 31) dX6_readOrder_16 (by decide) c6 ?_
      refine jw_aload_n dX6_readOrder_19 (o := (some x0)) rfl ?_
      obtain ⟨v7, ev7, hq⟩ := Option.bind_eq_some_iff.mp hq
      refine jw_getR (o := (some x0)) dX6_readOrder_20 ev7 fl_X6_11 rfl ?_
      refine jw_aload_n dX6_readOrder_23 (o := (some x0)) rfl ?_
      obtain ⟨v8, ev8, hq⟩ := Option.bind_eq_some_iff.mp hq
      refine jw_getI (o := (some x0)) dX6_readOrder_24 ev8 fl_X6_30 rfl ?_
      obtain ⟨v9, ev9, hq⟩ := Option.bind_eq_some_iff.mp hq
      refine jw_aald (t := 35) (Nat.le_of_ble_eq_true rfl) (o := v7) dX6_readOrder_27 ev9 ?_
      rcases jw_if hq with ⟨c10, hq⟩ | ⟨c10, hq⟩
      · refine jw_ifnonnull_f (o := v9) dX6_readOrder_28 c10 ?_
        refine jw_iconst dX6_readOrder_31 (v := (0 : Int32)) (by decide) ?_
        cases hq
        exact jw_iret (ty := .boolean) dX6_readOrder_32 rfl rfl
      · refine jw_ifnonnull_t (o := v9) (tgt := 33) dX6_readOrder_28 (by decide) c10 ?_
        refine jw_aload_n dX6_readOrder_33 (o := (some x0)) rfl ?_
        obtain ⟨v11, ev11, hq⟩ := Option.bind_eq_some_iff.mp hq
        refine jw_getR (o := (some x0)) dX6_readOrder_34 ev11 fl_X6_11 rfl ?_
        refine jw_aload_n dX6_readOrder_37 (o := (some x0)) rfl ?_
        obtain ⟨v12, ev12, hq⟩ := Option.bind_eq_some_iff.mp hq
        refine jw_getI (o := (some x0)) dX6_readOrder_38 ev12 fl_X6_30 rfl ?_
        obtain ⟨v13, ev13, hq⟩ := Option.bind_eq_some_iff.mp hq
        refine jw_aald (t := 35) (Nat.le_of_ble_eq_true rfl) (o := v11) dX6_readOrder_41 ev13 ?_
        refine jw_astore_n (o := v13) (L' := [some (.ref x0), some (.int x1), some (va_rf v13)]) dX6_readOrder_42 (Nat.le_of_ble_eq_true rfl) rfl ?_
        refine jw_aload_n dX6_readOrder_43 (o := v13) rfl ?_
        obtain ⟨a14, ea14, hq⟩ := Option.bind_eq_some_iff.mp hq
        obtain ⟨eoa14, eta14⟩ := jw_rc_spec ea14
        obtain ⟨w16, h15, ew16, hq⟩ := jw_b2_spec hq
        refine jw_callV (As := []) (S := []) (a := a14) (v := none) dX6_readOrder_44 mt_X5_clear in_X5_clear se_X5_clear lk_X6_79 (c_X5_clear ew16) eta14 (by decide) rfl rfl (by decide) (Nat.le_of_ble_eq_true rfl) (by cases eoa14; rfl) ?_
        refine jw_aload_n dX6_readOrder_47 (o := (some x0)) rfl ?_
        refine jw_aload_n dX6_readOrder_48 (o := v13) rfl ?_
        obtain ⟨a17, ea17, hq⟩ := Option.bind_eq_some_iff.mp hq
        obtain ⟨eoa17, eta17⟩ := jw_rc_spec ea17
        obtain ⟨w19, h18, ew19, hq⟩ := jw_b2_spec hq
        refine jw_callV (As := [va_rf v13]) (S := []) (a := a17) (v := some (.int w19)) dX6_readOrder_49 mt_X6_readWhere in_X6_readWhere se_X6_readWhere lk_X6_82 (c_X6_readWhere ew19) eta17 (by decide) rfl rfl (by decide) (Nat.le_of_ble_eq_true rfl) (by cases eoa17; rfl) ?_
        rcases jw_if hq with ⟨c20, hq⟩ | ⟨c20, hq⟩
        · refine jw_if_eq_t (tgt := 64) dX6_readOrder_52 (by decide) c20 ?_
          refine jw_iconst dX6_readOrder_64 (v := (0 : Int32)) (by decide) ?_
          cases hq
          exact jw_iret (ty := .boolean) dX6_readOrder_65 rfl rfl
        · refine jw_if_eq_f (tgt := 64) dX6_readOrder_52 (by decide) c20 ?_
          refine jw_aload_n dX6_readOrder_55 (o := (some x0)) rfl ?_
          refine jw_aload_n dX6_readOrder_56 (o := v13) rfl ?_
          refine jw_iload_n dX6_readOrder_57 rfl ?_
          obtain ⟨a21, ea21, hq⟩ := Option.bind_eq_some_iff.mp hq
          obtain ⟨eoa21, eta21⟩ := jw_rc_spec ea21
          obtain ⟨w23, h22, ew23, hq⟩ := jw_b2_spec hq
          refine jw_callV (As := [va_rf v13, .int x1]) (S := []) (a := a21) (v := some (.int w23)) dX6_readOrder_58 mt_X6_readAct in_X6_readAct se_X6_readAct lk_X6_86 (c_X6_readAct ew23) eta21 (by decide) rfl rfl (by decide) (Nat.le_of_ble_eq_true rfl) (by cases eoa21; rfl) ?_
          rcases jw_if hq with ⟨c24, hq⟩ | ⟨c24, hq⟩
          · refine jw_if_ne_f (tgt := 66) dX6_readOrder_61 (by decide) c24 ?_
            refine jw_iconst dX6_readOrder_64 (v := (0 : Int32)) (by decide) ?_
            cases hq
            exact jw_iret (ty := .boolean) dX6_readOrder_65 rfl rfl
          · refine jw_if_ne_t (tgt := 66) dX6_readOrder_61 (by decide) c24 ?_
            refine jw_aload_n dX6_readOrder_66 (o := (some x0)) rfl ?_
            refine jw_dup dX6_readOrder_67 rfl ?_
            obtain ⟨v25, ev25, hq⟩ := Option.bind_eq_some_iff.mp hq
            refine jw_getI (o := (some x0)) dX6_readOrder_68 ev25 fl_X6_30 rfl ?_
            refine jw_iconst dX6_readOrder_71 (v := (1 : Int32)) (by decide) ?_
            refine jw_iadd dX6_readOrder_72 ?_
            obtain ⟨h26, eh26, hq⟩ := Option.bind_eq_some_iff.mp hq
            refine jw_putI (o := (some x0)) dX6_readOrder_73 eh26 fl_X6_30 rfl rfl ?_
            refine jw_aload_n dX6_readOrder_76 (o := v13) rfl ?_
            refine jw_aload_n dX6_readOrder_77 (o := (some x0)) rfl ?_
            obtain ⟨v27, ev27, hq⟩ := Option.bind_eq_some_iff.mp hq
            refine jw_getI (o := (some x0)) dX6_readOrder_78 ev27 fl_X6_30 rfl ?_
            obtain ⟨h28, eh28, hq⟩ := Option.bind_eq_some_iff.mp hq
            refine jw_putI (o := v13) dX6_readOrder_81 eh28 fl_X6_76 rfl rfl ?_
            refine jw_iconst dX6_readOrder_84 (v := (1 : Int32)) (by decide) ?_
            cases hq
            exact jw_iret (ty := .boolean) dX6_readOrder_85 rfl rfl

theorem c_X6_readOrder {h : jw_H} {x0 : Nat} {x1 : Int32} {r : Int32} {h' : jw_H} (hq : f_X6_readOrder h x0 x1 = some (r, h')) : jw_Con (Cond.code yX6_readOrder cX6_readOrder 3 (some .boolean)) yX6_readOrder 5 [.ref x0, .int x1] h (.inl (some (.int r))) h' :=
  jw_con false (plainFor_of_name (by decide +kernel)) (fun z => nomatch z) (by simp [jw_ent, jw_sl0_nil, jw_sl0_int, jw_sl0_long, jw_sl0_ref, jw_sl0_rf, jw_sl0_scr, List.replicate]) (by simp [jw_sl0_nil, jw_sl0_int, jw_sl0_long, jw_sl0_ref, jw_sl0_rf, jw_sl0_scr]) (l_X6_readOrder hq)


/-! X6_readOrders -/
noncomputable def g_X6_readOrders_b167 (k14 : jw_H → Nat → Option Nat → Int32 → Int32 → Option (Int32 × jw_H)) (h : jw_H) (x0 : Nat) (x3 : Option Nat) (x4 : Int32) (x5 : Int32) : Option (Int32 × jw_H) :=
 k14 h x0 x3 x4 (x5 + (1 : Int32))

noncomputable def g_X6_readOrders_b96 (k14 : jw_H → Nat → Option Nat → Int32 → Int32 → Option (Int32 × jw_H)) (h : jw_H) (x0 : Nat) (x3 : Option Nat) (x5 : Int32) (t0 : Int32) : Option (Int32 × jw_H) :=
 g_X6_readOrders_b167 k14 h x0 x3 t0 x5

noncomputable def g_X6_readOrders_b95 (k14 : jw_H → Nat → Option Nat → Int32 → Int32 → Option (Int32 × jw_H)) (h : jw_H) (x0 : Nat) (x3 : Option Nat) (x5 : Int32) : Option (Int32 × jw_H) :=
 g_X6_readOrders_b96 k14 h x0 x3 x5 (0 : Int32)

noncomputable def g_X6_readOrders_b152 (h : jw_H) (t0 : Int32) : Option (Int32 × jw_H) :=
 some (t0, h)

noncomputable def g_X6_readOrders_b129 (k14 : jw_H → Nat → Option Nat → Int32 → Int32 → Option (Int32 × jw_H)) (h : jw_H) (x0 : Nat) (x3 : Option Nat) (x4 : Int32) (x5 : Int32) : Option (Int32 × jw_H) :=
 (jw_gI h 6 (some x0) 5).bind fun v1 =>
 (jw_gI h 6 (some x0) 4).bind fun v2 =>
 if v1 < v2 then ((jw_rc h 6 (some x0)).bind fun a4 =>
 jw_b2 (f_X6_pass h a4 (59 : Int32)) fun w6 h5 =>
 if w6 = 0 then ((jw_gI h5 6 (some x0) 5).bind fun v8 =>
 some (v8, h5))
 else (g_X6_readOrders_b167 k14 h5 x0 x3 x4 x5))
 else (if x3 = none then (g_X6_readOrders_b152  h (-1 : Int32))
 else ((jw_gI h 6 (some x0) 4).bind fun v10 =>
 g_X6_readOrders_b152  h v10))

noncomputable def g_X6_readOrders_b119 (k14 : jw_H → Nat → Option Nat → Int32 → Int32 → Option (Int32 × jw_H)) (h : jw_H) (x0 : Nat) (x3 : Option Nat) (x4 : Int32) (x5 : Int32) : Option (Int32 × jw_H) :=
 (jw_gI h 6 (some x0) 6).bind fun v1 =>
 (jw_pI h 5 x3 9 v1).bind fun h2 =>
 g_X6_readOrders_b129 k14 h2 x0 none x4 x5

noncomputable def g_X6_readOrders_b101 (k14 : jw_H → Nat → Option Nat → Int32 → Int32 → Option (Int32 × jw_H)) (h : jw_H) (x0 : Nat) (x3 : Option Nat) (x4 : Int32) (x5 : Int32) : Option (Int32 × jw_H) :=
 if x3 = none then (g_X6_readOrders_b129 k14 h x0 x3 x4 x5)
 else (if x4 = 0 then ((jw_rc h 6 (some x0)).bind fun a3 =>
 jw_b2 (f_X6_pass h a3 (125 : Int32)) fun w5 h4 =>
 if w5 = 0 then (g_X6_readOrders_b129 k14 h4 x0 x3 x4 x5)
 else (g_X6_readOrders_b119 k14 h4 x0 x3 x4 x5))
 else (g_X6_readOrders_b119 k14 h x0 x3 x4 x5))

noncomputable def g_X6_readOrders_b37 (k14 : jw_H → Nat → Option Nat → Int32 → Int32 → Option (Int32 × jw_H)) (h : jw_H) (x0 : Nat) (x3 : Option Nat) (x4 : Int32) (x5 : Int32) (x6 : Int32) (t0 : Nat) (t1 : Int32) : Option (Int32 × jw_H) :=
 (jw_rc h 6 (some t0)).bind fun a1 =>
 jw_b2 (f_X6_readOrder h a1 t1) fun w3 h2 =>
 if w3 = 0 then ((jw_gI h2 6 (some x0) 5).bind fun v19 =>
 some (v19, h2))
 else ((jw_rc h2 6 (some x0)).bind fun a5 =>
 jw_b2 (f_X6_orderAt h2 a5 x6) fun w7 h6 =>
 if w7 = none then (g_X6_readOrders_b101 k14 h6 x0 x3 x4 x5)
 else ((jw_rc h6 5 w7).bind fun a9 =>
 jw_b2 (f_X5_holdsOthers h6 a9) fun w11 h10 =>
 if w11 = 0 then (g_X6_readOrders_b101 k14 h10 x0 x3 x4 x5)
 else ((jw_gI h10 5 w7 3).bind fun v13 =>
 if v13 = (123 : Int32) then (g_X6_readOrders_b95 k14 h10 x0 w7 x5)
 else ((jw_rc h10 6 (some x0)).bind fun a15 =>
 jw_b2 (f_X6_pass h10 a15 (123 : Int32)) fun w17 h16 =>
 if w17 = 0 then (g_X6_readOrders_b96 k14 h16 x0 w7 x5 (1 : Int32))
 else (g_X6_readOrders_b95 k14 h16 x0 w7 x5)))))

noncomputable def g_X6_readOrders_b14 (k14 : jw_H → Nat → Option Nat → Int32 → Int32 → Option (Int32 × jw_H)) (h : jw_H) (x0 : Nat) (x3 : Option Nat) (x4 : Int32) (x5 : Int32) : Option (Int32 × jw_H) :=
 if (60 : Int32) < x5 then ((jw_gI h 6 (some x0) 5).bind fun v2 =>
 some (v2, h))
 else ((jw_gI h 6 (some x0) 6).bind fun v3 =>
 if x3 = none then (g_X6_readOrders_b37 k14 h x0 x3 x4 x5 v3 x0 (0 : Int32))
 else (g_X6_readOrders_b37 k14 h x0 x3 x4 x5 v3 x0 (1 : Int32)))

noncomputable def f_X6_readOrders_b14 (n : Nat) : jw_H → Nat → Option Nat → Int32 → Int32 → Option (Int32 × jw_H) :=
 Nat.rec (fun _ _ _ _ _ => none) (fun _ k14 => g_X6_readOrders_b14 k14) n

noncomputable def f_X6_readOrders (h : jw_H) (x0 : Nat) (x1 : Option Nat) (x2 : Int32) : Option (Int32 × jw_H) :=
 (jw_rc h 6 (some x0)).bind fun a1 =>
 jw_b2 (f_X6_begin h a1 x1 x2) fun w3 h2 =>
 f_X6_readOrders_b14  jw_FU h2 x0 none (0 : Int32) (0 : Int32)

set_option maxRecDepth 100000 in
set_option maxHeartbeats 4000000 in
theorem l_X6_readOrders_b167 {hi : jw_H} {k14 : jw_H → Nat → Option Nat → Int32 → Int32 → Option (Int32 × jw_H)} (hk14 : ∀ (h : jw_H) (x0 : Nat) (x3 : Option Nat) (x4 : Int32) (x5 : Int32) (r : Int32) (h' : jw_H), k14 h x0 x3 x4 x5 = some (r, h') → jw_E 6 uX6_readOrders hi 14 [some (.ref x0), none, none, some (va_rf x3), some (.int x4), some (.int x5), none, none] [] h (.inl (some (.int r))) h') {h : jw_H} {x0 : Nat} {x3 : Option Nat} {x4 : Int32} {x5 : Int32} {r : Int32} {h' : jw_H} (hq : g_X6_readOrders_b167 k14 h x0 x3 x4 x5 = some (r, h')) : jw_E 6 uX6_readOrders hi 167 [some (.ref x0), none, none, some (va_rf x3), some (.int x4), some (.int x5), none, none] [] h (.inl (some (.int r))) h' := by
  unfold g_X6_readOrders_b167 at hq
  refine jw_iinc (L' := [some (.ref x0), none, none, some (va_rf x3), some (.int x4), some (.int (x5 + (1 : Int32))), none, none]) dX6_readOrders_167 rfl (v := (1 : Int32)) (by decide) (Nat.le_of_ble_eq_true rfl) rfl ?_
  refine jw_goto (tgt := 14) dX6_readOrders_170 (by decide) ?_
  exact hk14 _ _ _ _ _ _ _ hq

set_option maxRecDepth 100000 in
set_option maxHeartbeats 4000000 in
theorem l_X6_readOrders_b96 {hi : jw_H} {k14 : jw_H → Nat → Option Nat → Int32 → Int32 → Option (Int32 × jw_H)} (hk14 : ∀ (h : jw_H) (x0 : Nat) (x3 : Option Nat) (x4 : Int32) (x5 : Int32) (r : Int32) (h' : jw_H), k14 h x0 x3 x4 x5 = some (r, h') → jw_E 6 uX6_readOrders hi 14 [some (.ref x0), none, none, some (va_rf x3), some (.int x4), some (.int x5), none, none] [] h (.inl (some (.int r))) h') {h : jw_H} {x0 : Nat} {x3 : Option Nat} {x5 : Int32} {t0 : Int32} {r : Int32} {h' : jw_H} (hq : g_X6_readOrders_b96 k14 h x0 x3 x5 t0 = some (r, h')) : jw_E 6 uX6_readOrders hi 96 [some (.ref x0), none, none, some (va_rf x3), none, some (.int x5), none, none] [.int t0] h (.inl (some (.int r))) h' := by
  unfold g_X6_readOrders_b96 at hq
  refine jw_istore (L' := [some (.ref x0), none, none, some (va_rf x3), some (.int t0), some (.int x5), none, none]) dX6_readOrders_96 (Nat.le_of_ble_eq_true rfl) ((jw_st1_of (j := 3) jw_long_rf).trans rfl) ?_
  refine jw_goto (tgt := 167) dX6_readOrders_98 (by decide) ?_
  exact l_X6_readOrders_b167 hk14 hq

set_option maxRecDepth 100000 in
set_option maxHeartbeats 4000000 in
theorem l_X6_readOrders_b95 {hi : jw_H} {k14 : jw_H → Nat → Option Nat → Int32 → Int32 → Option (Int32 × jw_H)} (hk14 : ∀ (h : jw_H) (x0 : Nat) (x3 : Option Nat) (x4 : Int32) (x5 : Int32) (r : Int32) (h' : jw_H), k14 h x0 x3 x4 x5 = some (r, h') → jw_E 6 uX6_readOrders hi 14 [some (.ref x0), none, none, some (va_rf x3), some (.int x4), some (.int x5), none, none] [] h (.inl (some (.int r))) h') {h : jw_H} {x0 : Nat} {x3 : Option Nat} {x5 : Int32} {r : Int32} {h' : jw_H} (hq : g_X6_readOrders_b95 k14 h x0 x3 x5 = some (r, h')) : jw_E 6 uX6_readOrders hi 95 [some (.ref x0), none, none, some (va_rf x3), none, some (.int x5), none, none] [] h (.inl (some (.int r))) h' := by
  unfold g_X6_readOrders_b95 at hq
  refine jw_iconst dX6_readOrders_95 (v := (0 : Int32)) (by decide) ?_
  exact l_X6_readOrders_b96 hk14 hq

set_option maxRecDepth 100000 in
set_option maxHeartbeats 4000000 in
theorem l_X6_readOrders_b152 {hi : jw_H} {h : jw_H} {t0 : Int32} {r : Int32} {h' : jw_H} (hq : g_X6_readOrders_b152  h t0 = some (r, h')) : jw_E 6 uX6_readOrders hi 152 [none, none, none, none, none, none, none, none] [.int t0] h (.inl (some (.int r))) h' := by
  unfold g_X6_readOrders_b152 at hq
  cases hq
  exact jw_iret (ty := .int) dX6_readOrders_152 rfl rfl

set_option maxRecDepth 100000 in
set_option maxHeartbeats 4000000 in
theorem l_X6_readOrders_b129 {hi : jw_H} {k14 : jw_H → Nat → Option Nat → Int32 → Int32 → Option (Int32 × jw_H)} (hk14 : ∀ (h : jw_H) (x0 : Nat) (x3 : Option Nat) (x4 : Int32) (x5 : Int32) (r : Int32) (h' : jw_H), k14 h x0 x3 x4 x5 = some (r, h') → jw_E 6 uX6_readOrders hi 14 [some (.ref x0), none, none, some (va_rf x3), some (.int x4), some (.int x5), none, none] [] h (.inl (some (.int r))) h') {h : jw_H} {x0 : Nat} {x3 : Option Nat} {x4 : Int32} {x5 : Int32} {r : Int32} {h' : jw_H} (hq : g_X6_readOrders_b129 k14 h x0 x3 x4 x5 = some (r, h')) : jw_E 6 uX6_readOrders hi 129 [some (.ref x0), none, none, some (va_rf x3), some (.int x4), some (.int x5), none, none] [] h (.inl (some (.int r))) h' := by
  unfold g_X6_readOrders_b129 at hq
  refine jw_aload_n dX6_readOrders_129 (o := (some x0)) rfl ?_
  obtain ⟨v1, ev1, hq⟩ := Option.bind_eq_some_iff.mp hq
  refine jw_getI (o := (some x0)) dX6_readOrders_130 ev1 fl_X6_43 rfl ?_
  refine jw_aload_n dX6_readOrders_133 (o := (some x0)) rfl ?_
  obtain ⟨v2, ev2, hq⟩ := Option.bind_eq_some_iff.mp hq
  refine jw_getI (o := (some x0)) dX6_readOrders_134 ev2 fl_X6_34 rfl ?_
  rcases jw_if hq with ⟨c3, hq⟩ | ⟨c3, hq⟩
  · refine jw_icmp_lt_t (tgt := 153) dX6_readOrders_137 (by decide) c3 ?_
    refine jw_aload_n dX6_readOrders_153 (o := (some x0)) rfl ?_
    refine jw_bipush dX6_readOrders_154 (v := (59 : Int32)) (by decide) ?_
    obtain ⟨a4, ea4, hq⟩ := Option.bind_eq_some_iff.mp hq
    obtain ⟨eoa4, eta4⟩ := jw_rc_spec ea4
    obtain ⟨w6, h5, ew6, hq⟩ := jw_b2_spec hq
    refine jw_callV (As := [.int (59 : Int32)]) (S := []) (a := a4) (v := some (.int w6)) dX6_readOrders_156 mt_X6_pass in_X6_pass se_X6_pass lk_X6_72 (c_X6_pass ew6) eta4 (by decide) rfl rfl (by decide) (Nat.le_of_ble_eq_true rfl) (by cases eoa4; rfl) ?_
    rcases jw_if hq with ⟨c7, hq⟩ | ⟨c7, hq⟩
    · refine jw_if_ne_f (tgt := 167) dX6_readOrders_159 (by decide) c7 ?_
      refine jw_aload_n dX6_readOrders_162 (o := (some x0)) rfl ?_
      obtain ⟨v8, ev8, hq⟩ := Option.bind_eq_some_iff.mp hq
      refine jw_getI (o := (some x0)) dX6_readOrders_163 ev8 fl_X6_43 rfl ?_
      cases hq
      exact jw_iret (ty := .int) dX6_readOrders_166 rfl rfl
    · refine jw_if_ne_t (tgt := 167) dX6_readOrders_159 (by decide) c7 ?_
      exact l_X6_readOrders_b167 hk14 hq
  · refine jw_icmp_lt_f (tgt := 153) dX6_readOrders_137 (by decide) c3 ?_
    refine jw_aload_n dX6_readOrders_140 (o := x3) rfl ?_
    rcases jw_if hq with ⟨c9, hq⟩ | ⟨c9, hq⟩
    · refine jw_ifnonnull_f (o := x3) dX6_readOrders_141 c9 ?_
      refine jw_iconst dX6_readOrders_144 (v := (-1 : Int32)) (by decide) ?_
      refine jw_goto (tgt := 152) dX6_readOrders_145 (by decide) ?_
      refine jw_forget [false, true, true, false, false, false, true, true] (L' := [none, none, none, none, none, none, none, none]) rfl ?_
      exact l_X6_readOrders_b152  hq
    · refine jw_ifnonnull_t (o := x3) (tgt := 148) dX6_readOrders_141 (by decide) c9 ?_
      refine jw_aload_n dX6_readOrders_148 (o := (some x0)) rfl ?_
      obtain ⟨v10, ev10, hq⟩ := Option.bind_eq_some_iff.mp hq
      refine jw_getI (o := (some x0)) dX6_readOrders_149 ev10 fl_X6_34 rfl ?_
      refine jw_forget [false, true, true, false, false, false, true, true] (L' := [none, none, none, none, none, none, none, none]) rfl ?_
      exact l_X6_readOrders_b152  hq

set_option maxRecDepth 100000 in
set_option maxHeartbeats 4000000 in
theorem l_X6_readOrders_b119 {hi : jw_H} {k14 : jw_H → Nat → Option Nat → Int32 → Int32 → Option (Int32 × jw_H)} (hk14 : ∀ (h : jw_H) (x0 : Nat) (x3 : Option Nat) (x4 : Int32) (x5 : Int32) (r : Int32) (h' : jw_H), k14 h x0 x3 x4 x5 = some (r, h') → jw_E 6 uX6_readOrders hi 14 [some (.ref x0), none, none, some (va_rf x3), some (.int x4), some (.int x5), none, none] [] h (.inl (some (.int r))) h') {h : jw_H} {x0 : Nat} {x3 : Option Nat} {x4 : Int32} {x5 : Int32} {r : Int32} {h' : jw_H} (hq : g_X6_readOrders_b119 k14 h x0 x3 x4 x5 = some (r, h')) : jw_E 6 uX6_readOrders hi 119 [some (.ref x0), none, none, some (va_rf x3), some (.int x4), some (.int x5), none, none] [] h (.inl (some (.int r))) h' := by
  unfold g_X6_readOrders_b119 at hq
  refine jw_aload_n dX6_readOrders_119 (o := x3) rfl ?_
  refine jw_aload_n dX6_readOrders_120 (o := (some x0)) rfl ?_
  obtain ⟨v1, ev1, hq⟩ := Option.bind_eq_some_iff.mp hq
  refine jw_getI (o := (some x0)) dX6_readOrders_121 ev1 fl_X6_30 rfl ?_
  obtain ⟨h2, eh2, hq⟩ := Option.bind_eq_some_iff.mp hq
  refine jw_putI (o := x3) dX6_readOrders_124 eh2 fl_X6_76 rfl rfl ?_
  refine jw_null dX6_readOrders_127 ?_
  refine jw_astore_n (o := none) (L' := [some (.ref x0), none, none, some (va_rf none), some (.int x4), some (.int x5), none, none]) dX6_readOrders_128 (Nat.le_of_ble_eq_true rfl) rfl ?_
  exact l_X6_readOrders_b129 hk14 hq

set_option maxRecDepth 100000 in
set_option maxHeartbeats 4000000 in
theorem l_X6_readOrders_b101 {hi : jw_H} {k14 : jw_H → Nat → Option Nat → Int32 → Int32 → Option (Int32 × jw_H)} (hk14 : ∀ (h : jw_H) (x0 : Nat) (x3 : Option Nat) (x4 : Int32) (x5 : Int32) (r : Int32) (h' : jw_H), k14 h x0 x3 x4 x5 = some (r, h') → jw_E 6 uX6_readOrders hi 14 [some (.ref x0), none, none, some (va_rf x3), some (.int x4), some (.int x5), none, none] [] h (.inl (some (.int r))) h') {h : jw_H} {x0 : Nat} {x3 : Option Nat} {x4 : Int32} {x5 : Int32} {r : Int32} {h' : jw_H} (hq : g_X6_readOrders_b101 k14 h x0 x3 x4 x5 = some (r, h')) : jw_E 6 uX6_readOrders hi 101 [some (.ref x0), none, none, some (va_rf x3), some (.int x4), some (.int x5), none, none] [] h (.inl (some (.int r))) h' := by
  unfold g_X6_readOrders_b101 at hq
  refine jw_aload_n dX6_readOrders_101 (o := x3) rfl ?_
  rcases jw_if hq with ⟨c1, hq⟩ | ⟨c1, hq⟩
  · refine jw_ifnull_t (o := x3) (tgt := 129) dX6_readOrders_102 (by decide) c1 ?_
    exact l_X6_readOrders_b129 hk14 hq
  · refine jw_ifnull_f (o := x3) dX6_readOrders_102 c1 ?_
    refine jw_iload dX6_readOrders_105 rfl ?_
    rcases jw_if hq with ⟨c2, hq⟩ | ⟨c2, hq⟩
    · refine jw_if_ne_f (tgt := 119) dX6_readOrders_107 (by decide) c2 ?_
      refine jw_aload_n dX6_readOrders_110 (o := (some x0)) rfl ?_
      refine jw_bipush dX6_readOrders_111 (v := (125 : Int32)) (by decide) ?_
      obtain ⟨a3, ea3, hq⟩ := Option.bind_eq_some_iff.mp hq
      obtain ⟨eoa3, eta3⟩ := jw_rc_spec ea3
      obtain ⟨w5, h4, ew5, hq⟩ := jw_b2_spec hq
      refine jw_callV (As := [.int (125 : Int32)]) (S := []) (a := a3) (v := some (.int w5)) dX6_readOrders_113 mt_X6_pass in_X6_pass se_X6_pass lk_X6_72 (c_X6_pass ew5) eta3 (by decide) rfl rfl (by decide) (Nat.le_of_ble_eq_true rfl) (by cases eoa3; rfl) ?_
      rcases jw_if hq with ⟨c6, hq⟩ | ⟨c6, hq⟩
      · refine jw_if_eq_t (tgt := 129) dX6_readOrders_116 (by decide) c6 ?_
        exact l_X6_readOrders_b129 hk14 hq
      · refine jw_if_eq_f (tgt := 129) dX6_readOrders_116 (by decide) c6 ?_
        exact l_X6_readOrders_b119 hk14 hq
    · refine jw_if_ne_t (tgt := 119) dX6_readOrders_107 (by decide) c2 ?_
      exact l_X6_readOrders_b119 hk14 hq

set_option maxRecDepth 100000 in
set_option maxHeartbeats 4000000 in
theorem l_X6_readOrders_b37 {hi : jw_H} {k14 : jw_H → Nat → Option Nat → Int32 → Int32 → Option (Int32 × jw_H)} (hk14 : ∀ (h : jw_H) (x0 : Nat) (x3 : Option Nat) (x4 : Int32) (x5 : Int32) (r : Int32) (h' : jw_H), k14 h x0 x3 x4 x5 = some (r, h') → jw_E 6 uX6_readOrders hi 14 [some (.ref x0), none, none, some (va_rf x3), some (.int x4), some (.int x5), none, none] [] h (.inl (some (.int r))) h') {h : jw_H} {x0 : Nat} {x3 : Option Nat} {x4 : Int32} {x5 : Int32} {x6 : Int32} {t0 : Nat} {t1 : Int32} {r : Int32} {h' : jw_H} (hq : g_X6_readOrders_b37 k14 h x0 x3 x4 x5 x6 t0 t1 = some (r, h')) : jw_E 6 uX6_readOrders hi 37 [some (.ref x0), none, none, some (va_rf x3), some (.int x4), some (.int x5), some (.int x6), none] [.int t1, .ref t0] h (.inl (some (.int r))) h' := by
  unfold g_X6_readOrders_b37 at hq
  obtain ⟨a1, ea1, hq⟩ := Option.bind_eq_some_iff.mp hq
  obtain ⟨eoa1, eta1⟩ := jw_rc_spec ea1
  obtain ⟨w3, h2, ew3, hq⟩ := jw_b2_spec hq
  refine jw_callV (As := [.int t1]) (S := []) (a := a1) (v := some (.int w3)) dX6_readOrders_37 mt_X6_readOrder in_X6_readOrder se_X6_readOrder lk_X6_57 (c_X6_readOrder ew3) eta1 (by decide) rfl rfl (by decide) (Nat.le_of_ble_eq_true rfl) (by cases eoa1; rfl) ?_
  rcases jw_if hq with ⟨c4, hq⟩ | ⟨c4, hq⟩
  · refine jw_if_ne_f (tgt := 48) dX6_readOrders_40 (by decide) c4 ?_
    refine jw_aload_n dX6_readOrders_43 (o := (some x0)) rfl ?_
    obtain ⟨v19, ev19, hq⟩ := Option.bind_eq_some_iff.mp hq
    refine jw_getI (o := (some x0)) dX6_readOrders_44 ev19 fl_X6_43 rfl ?_
    cases hq
    exact jw_iret (ty := .int) dX6_readOrders_47 rfl rfl
  · refine jw_if_ne_t (tgt := 48) dX6_readOrders_40 (by decide) c4 ?_
    refine jw_aload_n dX6_readOrders_48 (o := (some x0)) rfl ?_
    refine jw_iload dX6_readOrders_49 rfl ?_
    obtain ⟨a5, ea5, hq⟩ := Option.bind_eq_some_iff.mp hq
    obtain ⟨eoa5, eta5⟩ := jw_rc_spec ea5
    obtain ⟨w7, h6, ew7, hq⟩ := jw_b2_spec hq
    refine jw_callV (As := [.int x6]) (S := []) (a := a5) (v := some (va_rf w7)) dX6_readOrders_51 mt_X6_orderAt in_X6_orderAt se_X6_orderAt lk_X6_61 (c_X6_orderAt ew7) eta5 (by decide) rfl rfl (by decide) (Nat.le_of_ble_eq_true rfl) (by cases eoa5; rfl) ?_
    refine jw_astore (o := w7) (L' := [some (.ref x0), none, none, some (va_rf x3), some (.int x4), some (.int x5), some (.int x6), some (va_rf w7)]) dX6_readOrders_54 (Nat.le_of_ble_eq_true rfl) rfl ?_
    refine jw_aload dX6_readOrders_56 (o := w7) rfl ?_
    rcases jw_if hq with ⟨c8, hq⟩ | ⟨c8, hq⟩
    · refine jw_ifnull_t (o := w7) (tgt := 101) dX6_readOrders_58 (by decide) c8 ?_
      refine jw_forget [true, true, true, true, true, true, false, false] (L' := [some (.ref x0), none, none, some (va_rf x3), some (.int x4), some (.int x5), none, none]) rfl ?_
      exact l_X6_readOrders_b101 hk14 hq
    · refine jw_ifnull_f (o := w7) dX6_readOrders_58 c8 ?_
      refine jw_aload dX6_readOrders_61 (o := w7) rfl ?_
      obtain ⟨a9, ea9, hq⟩ := Option.bind_eq_some_iff.mp hq
      obtain ⟨eoa9, eta9⟩ := jw_rc_spec ea9
      obtain ⟨w11, h10, ew11, hq⟩ := jw_b2_spec hq
      refine jw_callV (As := []) (S := []) (a := a9) (v := some (.int w11)) dX6_readOrders_63 mt_X5_holdsOthers in_X5_holdsOthers se_X5_holdsOthers lk_X6_65 (c_X5_holdsOthers ew11) eta9 (by decide) rfl rfl (by decide) (Nat.le_of_ble_eq_true rfl) (by cases eoa9; rfl) ?_
      rcases jw_if hq with ⟨c12, hq⟩ | ⟨c12, hq⟩
      · refine jw_if_eq_t (tgt := 101) dX6_readOrders_66 (by decide) c12 ?_
        refine jw_forget [true, true, true, true, true, true, false, false] (L' := [some (.ref x0), none, none, some (va_rf x3), some (.int x4), some (.int x5), none, none]) rfl ?_
        exact l_X6_readOrders_b101 hk14 hq
      · refine jw_if_eq_f (tgt := 101) dX6_readOrders_66 (by decide) c12 ?_
        refine jw_aload dX6_readOrders_69 (o := w7) rfl ?_
        refine jw_astore_n (o := w7) (L' := [some (.ref x0), none, none, some (va_rf w7), some (.int x4), some (.int x5), some (.int x6), some (va_rf w7)]) dX6_readOrders_71 (Nat.le_of_ble_eq_true rfl) rfl ?_
        refine jw_aload dX6_readOrders_72 (o := w7) rfl ?_
        obtain ⟨v13, ev13, hq⟩ := Option.bind_eq_some_iff.mp hq
        refine jw_getI (o := w7) dX6_readOrders_74 ev13 fl_X6_69 rfl ?_
        refine jw_bipush dX6_readOrders_77 (v := (123 : Int32)) (by decide) ?_
        rcases jw_if hq with ⟨c14, hq⟩ | ⟨c14, hq⟩
        · refine jw_icmp_eq_t (tgt := 95) dX6_readOrders_79 (by decide) c14 ?_
          refine jw_forget [true, true, true, true, false, true, false, false] (L' := [some (.ref x0), none, none, some (va_rf w7), none, some (.int x5), none, none]) rfl ?_
          exact l_X6_readOrders_b95 hk14 hq
        · refine jw_icmp_eq_f (tgt := 95) dX6_readOrders_79 (by decide) c14 ?_
          refine jw_aload_n dX6_readOrders_82 (o := (some x0)) rfl ?_
          refine jw_bipush dX6_readOrders_83 (v := (123 : Int32)) (by decide) ?_
          obtain ⟨a15, ea15, hq⟩ := Option.bind_eq_some_iff.mp hq
          obtain ⟨eoa15, eta15⟩ := jw_rc_spec ea15
          obtain ⟨w17, h16, ew17, hq⟩ := jw_b2_spec hq
          refine jw_callV (As := [.int (123 : Int32)]) (S := []) (a := a15) (v := some (.int w17)) dX6_readOrders_85 mt_X6_pass in_X6_pass se_X6_pass lk_X6_72 (c_X6_pass ew17) eta15 (by decide) rfl rfl (by decide) (Nat.le_of_ble_eq_true rfl) (by cases eoa15; rfl) ?_
          rcases jw_if hq with ⟨c18, hq⟩ | ⟨c18, hq⟩
          · refine jw_if_ne_f (tgt := 95) dX6_readOrders_88 (by decide) c18 ?_
            refine jw_iconst dX6_readOrders_91 (v := (1 : Int32)) (by decide) ?_
            refine jw_goto (tgt := 96) dX6_readOrders_92 (by decide) ?_
            refine jw_forget [true, true, true, true, false, true, false, false] (L' := [some (.ref x0), none, none, some (va_rf w7), none, some (.int x5), none, none]) rfl ?_
            exact l_X6_readOrders_b96 hk14 hq
          · refine jw_if_ne_t (tgt := 95) dX6_readOrders_88 (by decide) c18 ?_
            refine jw_forget [true, true, true, true, false, true, false, false] (L' := [some (.ref x0), none, none, some (va_rf w7), none, some (.int x5), none, none]) rfl ?_
            exact l_X6_readOrders_b95 hk14 hq

set_option maxRecDepth 100000 in
set_option maxHeartbeats 4000000 in
theorem l_X6_readOrders_b14g {hi : jw_H} {k14 : jw_H → Nat → Option Nat → Int32 → Int32 → Option (Int32 × jw_H)} (hk14 : ∀ (h : jw_H) (x0 : Nat) (x3 : Option Nat) (x4 : Int32) (x5 : Int32) (r : Int32) (h' : jw_H), k14 h x0 x3 x4 x5 = some (r, h') → jw_E 6 uX6_readOrders hi 14 [some (.ref x0), none, none, some (va_rf x3), some (.int x4), some (.int x5), none, none] [] h (.inl (some (.int r))) h') {h : jw_H} {x0 : Nat} {x3 : Option Nat} {x4 : Int32} {x5 : Int32} {r : Int32} {h' : jw_H} (hq : g_X6_readOrders_b14 k14 h x0 x3 x4 x5 = some (r, h')) : jw_E 6 uX6_readOrders hi 14 [some (.ref x0), none, none, some (va_rf x3), some (.int x4), some (.int x5), none, none] [] h (.inl (some (.int r))) h' := by
  unfold g_X6_readOrders_b14 at hq
  refine jw_iload dX6_readOrders_14 rfl ?_
  refine jw_bipush dX6_readOrders_16 (v := (60 : Int32)) (by decide) ?_
  rcases jw_if hq with ⟨c1, hq⟩ | ⟨c1, hq⟩
  · refine jw_icmp_gt_t (tgt := 173) dX6_readOrders_18 (by decide) c1 ?_
    refine jw_aload_n dX6_readOrders_173 (o := (some x0)) rfl ?_
    obtain ⟨v2, ev2, hq⟩ := Option.bind_eq_some_iff.mp hq
    refine jw_getI (o := (some x0)) dX6_readOrders_174 ev2 fl_X6_43 rfl ?_
    cases hq
    exact jw_iret (ty := .int) dX6_readOrders_177 rfl rfl
  · refine jw_icmp_gt_f (tgt := 173) dX6_readOrders_18 (by decide) c1 ?_
    refine jw_aload_n dX6_readOrders_21 (o := (some x0)) rfl ?_
    obtain ⟨v3, ev3, hq⟩ := Option.bind_eq_some_iff.mp hq
    refine jw_getI (o := (some x0)) dX6_readOrders_22 ev3 fl_X6_30 rfl ?_
    refine jw_istore (L' := [some (.ref x0), none, none, some (va_rf x3), some (.int x4), some (.int x5), some (.int v3), none]) dX6_readOrders_25 (Nat.le_of_ble_eq_true rfl) rfl ?_
    refine jw_aload_n dX6_readOrders_27 (o := (some x0)) rfl ?_
    refine jw_aload_n dX6_readOrders_28 (o := x3) rfl ?_
    rcases jw_if hq with ⟨c4, hq⟩ | ⟨c4, hq⟩
    · refine jw_ifnull_t (o := x3) (tgt := 36) dX6_readOrders_29 (by decide) c4 ?_
      refine jw_iconst dX6_readOrders_36 (v := (0 : Int32)) (by decide) ?_
      exact l_X6_readOrders_b37 hk14 hq
    · refine jw_ifnull_f (o := x3) dX6_readOrders_29 c4 ?_
      refine jw_iconst dX6_readOrders_32 (v := (1 : Int32)) (by decide) ?_
      refine jw_goto (tgt := 37) dX6_readOrders_33 (by decide) ?_
      exact l_X6_readOrders_b37 hk14 hq

theorem l_X6_readOrders_b14 {hi : jw_H} : ∀ (n : Nat) (h : jw_H) (x0 : Nat) (x3 : Option Nat) (x4 : Int32) (x5 : Int32) (r : Int32) (h' : jw_H), f_X6_readOrders_b14  n h x0 x3 x4 x5 = some (r, h') → jw_E 6 uX6_readOrders hi 14 [some (.ref x0), none, none, some (va_rf x3), some (.int x4), some (.int x5), none, none] [] h (.inl (some (.int r))) h' := by
  intro n
  induction n with
  | zero => intro h x0 x3 x4 x5 r h' hq; exact nomatch hq
  | succ n ih => intro h x0 x3 x4 x5 r h' hq; exact l_X6_readOrders_b14g ih hq

set_option maxRecDepth 100000 in
set_option maxHeartbeats 4000000 in
theorem l_X6_readOrders {hi : jw_H} {h : jw_H} {x0 : Nat} {x1 : Option Nat} {x2 : Int32} {r : Int32} {h' : jw_H} (hq : f_X6_readOrders  h x0 x1 x2 = some (r, h')) : jw_E 6 uX6_readOrders hi 0 [some (.ref x0), some (va_rf x1), some (.int x2), none, none, none, none, none] [] h (.inl (some (.int r))) h' := by
  unfold f_X6_readOrders at hq
  refine jw_aload_n dX6_readOrders_0 (o := (some x0)) rfl ?_
  refine jw_aload_n dX6_readOrders_1 (o := x1) rfl ?_
  refine jw_iload_n dX6_readOrders_2 rfl ?_
  obtain ⟨a1, ea1, hq⟩ := Option.bind_eq_some_iff.mp hq
  obtain ⟨eoa1, eta1⟩ := jw_rc_spec ea1
  obtain ⟨w3, h2, ew3, hq⟩ := jw_b2_spec hq
  refine jw_callV (As := [va_rf x1, .int x2]) (S := []) (a := a1) (v := none) dX6_readOrders_3 mt_X6_begin in_X6_begin se_X6_begin lk_X6_49 (c_X6_begin ew3) eta1 (by decide) rfl rfl (by decide) (Nat.le_of_ble_eq_true rfl) (by cases eoa1; rfl) ?_
  refine jw_null dX6_readOrders_6 ?_
  refine jw_astore_n (o := none) (L' := [some (.ref x0), some (va_rf x1), some (.int x2), some (va_rf none), none, none, none, none]) dX6_readOrders_7 (Nat.le_of_ble_eq_true rfl) rfl ?_
  refine jw_iconst dX6_readOrders_8 (v := (0 : Int32)) (by decide) ?_
  refine jw_istore (L' := [some (.ref x0), some (va_rf x1), some (.int x2), some (va_rf none), some (.int (0 : Int32)), none, none, none]) dX6_readOrders_9 (Nat.le_of_ble_eq_true rfl) rfl ?_
  refine jw_iconst dX6_readOrders_11 (v := (0 : Int32)) (by decide) ?_
  refine jw_istore (L' := [some (.ref x0), some (va_rf x1), some (.int x2), some (va_rf none), some (.int (0 : Int32)), some (.int (0 : Int32)), none, none]) dX6_readOrders_12 (Nat.le_of_ble_eq_true rfl) rfl ?_
  refine jw_forget [true, false, false, true, true, true, true, true] (L' := [some (.ref x0), none, none, some (va_rf none), some (.int (0 : Int32)), some (.int (0 : Int32)), none, none]) rfl ?_
  exact l_X6_readOrders_b14  jw_FU _ _ _ _ _ _ _ hq

theorem c_X6_readOrders {h : jw_H} {x0 : Nat} {x1 : Option Nat} {x2 : Int32} {r : Int32} {h' : jw_H} (hq : f_X6_readOrders h x0 x1 x2 = some (r, h')) : jw_Con (Cond.code yX6_readOrders cX6_readOrders 8 (some .int)) yX6_readOrders 6 [.ref x0, va_rf x1, .int x2] h (.inl (some (.int r))) h' :=
  jw_con false (plainFor_of_name (by decide +kernel)) (fun z => nomatch z) (by simp [jw_ent, jw_sl0_nil, jw_sl0_int, jw_sl0_long, jw_sl0_ref, jw_sl0_rf, jw_sl0_scr, List.replicate]) (by simp [jw_sl0_nil, jw_sl0_int, jw_sl0_long, jw_sl0_ref, jw_sl0_rf, jw_sl0_scr]) (l_X6_readOrders hq)


/-! X7_close -/
noncomputable def f_X7_close (h : jw_H) (x0 : Nat) (x1 : Int32) (x2 : Int32) : Option (Unit × jw_H) :=
 if x1 < (1 : Int32) then (some ((), h))
 else (if x2 < 0 then (some ((), h))
 else ((jw_gI h 7 (some x0) 2).bind fun v3 =>
 if ((v3 - x1) + (1 : Int32)) < x2 then (some ((), h))
 else ((jw_gI h 7 (some x0) 2).bind fun v5 =>
 (jw_gR h 7 (some x0) 0).bind fun v6 =>
 (jw_ln h v6).bind fun v7 =>
 if v5 ≤ v7 then ((jw_gI h 7 (some x0) 2).bind fun v9 =>
 (jw_gR h 7 (some x0) 0).bind fun v10 =>
 (jw_gR h 7 (some x0) 0).bind fun v11 =>
 (jw_cp h 20 v10 ((x1 - (1 : Int32)) + x2) v11 (x1 - (1 : Int32)) (((v9 - x1) + (1 : Int32)) - x2)).bind fun h12 =>
 (jw_gR h12 7 (some x0) 1).bind fun v13 =>
 (jw_gR h12 7 (some x0) 1).bind fun v14 =>
 (jw_cp h12 21 v13 (((x1 - (1 : Int32)) + x2) * (30 : Int32)) v14 ((x1 - (1 : Int32)) * (30 : Int32)) ((((v9 - x1) + (1 : Int32)) - x2) * (30 : Int32))).bind fun h15 =>
 (jw_gI h15 7 (some x0) 2).bind fun v16 =>
 (jw_pI h15 7 (some x0) 2 (v16 - x2)).bind fun h17 =>
 some ((), h17))
 else (some ((), h)))))

set_option maxRecDepth 100000 in
set_option maxHeartbeats 4000000 in
theorem l_X7_close {hi : jw_H} {h : jw_H} {x0 : Nat} {x1 : Int32} {x2 : Int32} {r : Unit} {h' : jw_H} (hq : f_X7_close  h x0 x1 x2 = some (r, h')) : jw_E 1 uX7_close hi 0 [some (.ref x0), some (.int x1), some (.int x2), none] [] h (.inl none) h' := by
  unfold f_X7_close at hq
  refine jw_iload_n dX7_close_0 rfl ?_
  refine jw_iconst dX7_close_1 (v := (1 : Int32)) (by decide) ?_
  rcases jw_if hq with ⟨c1, hq⟩ | ⟨c1, hq⟩
  · refine jw_icmp_lt_t (tgt := 33) dX7_close_2 (by decide) c1 ?_
    cases hq
    exact jw_vret dX7_close_33 rfl
  · refine jw_icmp_lt_f (tgt := 33) dX7_close_2 (by decide) c1 ?_
    refine jw_iload_n dX7_close_5 rfl ?_
    rcases jw_if hq with ⟨c2, hq⟩ | ⟨c2, hq⟩
    · refine jw_if_lt_t (tgt := 33) dX7_close_6 (by decide) c2 ?_
      cases hq
      exact jw_vret dX7_close_33 rfl
    · refine jw_if_lt_f (tgt := 33) dX7_close_6 (by decide) c2 ?_
      refine jw_iload_n dX7_close_9 rfl ?_
      refine jw_aload_n dX7_close_10 (o := (some x0)) rfl ?_
      obtain ⟨v3, ev3, hq⟩ := Option.bind_eq_some_iff.mp hq
      refine jw_getI (o := (some x0)) dX7_close_11 ev3 fl_X7_25 rfl ?_
      refine jw_iload_n dX7_close_14 rfl ?_
      refine jw_isub dX7_close_15 ?_
      refine jw_iconst dX7_close_16 (v := (1 : Int32)) (by decide) ?_
      refine jw_iadd dX7_close_17 ?_
      rcases jw_if hq with ⟨c4, hq⟩ | ⟨c4, hq⟩
      · refine jw_icmp_gt_t (tgt := 33) dX7_close_18 (by decide) c4 ?_
        cases hq
        exact jw_vret dX7_close_33 rfl
      · refine jw_icmp_gt_f (tgt := 33) dX7_close_18 (by decide) c4 ?_
        refine jw_aload_n dX7_close_21 (o := (some x0)) rfl ?_
        obtain ⟨v5, ev5, hq⟩ := Option.bind_eq_some_iff.mp hq
        refine jw_getI (o := (some x0)) dX7_close_22 ev5 fl_X7_25 rfl ?_
        refine jw_aload_n dX7_close_25 (o := (some x0)) rfl ?_
        obtain ⟨v6, ev6, hq⟩ := Option.bind_eq_some_iff.mp hq
        refine jw_getR (o := (some x0)) dX7_close_26 ev6 fl_X7_15 rfl ?_
        obtain ⟨v7, ev7, hq⟩ := Option.bind_eq_some_iff.mp hq
        refine jw_alen (o := v6) dX7_close_29 ev7 ?_
        rcases jw_if hq with ⟨c8, hq⟩ | ⟨c8, hq⟩
        · refine jw_icmp_le_t (tgt := 34) dX7_close_30 (by decide) c8 ?_
          refine jw_aload_n dX7_close_34 (o := (some x0)) rfl ?_
          obtain ⟨v9, ev9, hq⟩ := Option.bind_eq_some_iff.mp hq
          refine jw_getI (o := (some x0)) dX7_close_35 ev9 fl_X7_25 rfl ?_
          refine jw_iload_n dX7_close_38 rfl ?_
          refine jw_isub dX7_close_39 ?_
          refine jw_iconst dX7_close_40 (v := (1 : Int32)) (by decide) ?_
          refine jw_iadd dX7_close_41 ?_
          refine jw_iload_n dX7_close_42 rfl ?_
          refine jw_isub dX7_close_43 ?_
          refine jw_istore_n (L' := [some (.ref x0), some (.int x1), some (.int x2), some (.int (((v9 - x1) + (1 : Int32)) - x2))]) dX7_close_44 (Nat.le_of_ble_eq_true rfl) rfl ?_
          refine jw_aload_n dX7_close_45 (o := (some x0)) rfl ?_
          obtain ⟨v10, ev10, hq⟩ := Option.bind_eq_some_iff.mp hq
          refine jw_getR (o := (some x0)) dX7_close_46 ev10 fl_X7_15 rfl ?_
          refine jw_iload_n dX7_close_49 rfl ?_
          refine jw_iconst dX7_close_50 (v := (1 : Int32)) (by decide) ?_
          refine jw_isub dX7_close_51 ?_
          refine jw_iload_n dX7_close_52 rfl ?_
          refine jw_iadd dX7_close_53 ?_
          refine jw_aload_n dX7_close_54 (o := (some x0)) rfl ?_
          obtain ⟨v11, ev11, hq⟩ := Option.bind_eq_some_iff.mp hq
          refine jw_getR (o := (some x0)) dX7_close_55 ev11 fl_X7_15 rfl ?_
          refine jw_iload_n dX7_close_58 rfl ?_
          refine jw_iconst dX7_close_59 (v := (1 : Int32)) (by decide) ?_
          refine jw_isub dX7_close_60 ?_
          refine jw_iload_n dX7_close_61 rfl ?_
          obtain ⟨h12, eh12, hq⟩ := Option.bind_eq_some_iff.mp hq
          refine jw_acp (o1 := v10) (o2 := v11) (t := 20) dX7_close_62 (by decide) al_X7_32 an_0 as_0 ai_0 (by decide) (Nat.le_of_ble_eq_true rfl) eh12 ?_
          refine jw_aload_n dX7_close_65 (o := (some x0)) rfl ?_
          obtain ⟨v13, ev13, hq⟩ := Option.bind_eq_some_iff.mp hq
          refine jw_getR (o := (some x0)) dX7_close_66 ev13 fl_X7_21 rfl ?_
          refine jw_iload_n dX7_close_69 rfl ?_
          refine jw_iconst dX7_close_70 (v := (1 : Int32)) (by decide) ?_
          refine jw_isub dX7_close_71 ?_
          refine jw_iload_n dX7_close_72 rfl ?_
          refine jw_iadd dX7_close_73 ?_
          refine jw_bipush dX7_close_74 (v := (30 : Int32)) (by decide) ?_
          refine jw_imul dX7_close_76 ?_
          refine jw_aload_n dX7_close_77 (o := (some x0)) rfl ?_
          obtain ⟨v14, ev14, hq⟩ := Option.bind_eq_some_iff.mp hq
          refine jw_getR (o := (some x0)) dX7_close_78 ev14 fl_X7_21 rfl ?_
          refine jw_iload_n dX7_close_81 rfl ?_
          refine jw_iconst dX7_close_82 (v := (1 : Int32)) (by decide) ?_
          refine jw_isub dX7_close_83 ?_
          refine jw_bipush dX7_close_84 (v := (30 : Int32)) (by decide) ?_
          refine jw_imul dX7_close_86 ?_
          refine jw_iload_n dX7_close_87 rfl ?_
          refine jw_bipush dX7_close_88 (v := (30 : Int32)) (by decide) ?_
          refine jw_imul dX7_close_90 ?_
          obtain ⟨h15, eh15, hq⟩ := Option.bind_eq_some_iff.mp hq
          refine jw_acp (o1 := v13) (o2 := v14) (t := 21) dX7_close_91 (by decide) al_X7_32 an_0 as_0 ai_0 (by decide) (Nat.le_of_ble_eq_true rfl) eh15 ?_
          refine jw_aload_n dX7_close_94 (o := (some x0)) rfl ?_
          refine jw_dup dX7_close_95 rfl ?_
          obtain ⟨v16, ev16, hq⟩ := Option.bind_eq_some_iff.mp hq
          refine jw_getI (o := (some x0)) dX7_close_96 ev16 fl_X7_25 rfl ?_
          refine jw_iload_n dX7_close_99 rfl ?_
          refine jw_isub dX7_close_100 ?_
          obtain ⟨h17, eh17, hq⟩ := Option.bind_eq_some_iff.mp hq
          refine jw_putI (o := (some x0)) dX7_close_101 eh17 fl_X7_25 rfl rfl ?_
          cases hq
          exact jw_vret dX7_close_104 rfl
        · refine jw_icmp_le_f (tgt := 34) dX7_close_30 (by decide) c8 ?_
          cases hq
          exact jw_vret dX7_close_33 rfl

theorem c_X7_close {h : jw_H} {x0 : Nat} {x1 : Int32} {x2 : Int32} {r : Unit} {h' : jw_H} (hq : f_X7_close h x0 x1 x2 = some (r, h')) : jw_Con (Cond.code yX7_close cX7_close 4 none) yX7_close 1 [.ref x0, .int x1, .int x2] h (.inl none) h' :=
  jw_con false (plainFor_of_name (by decide +kernel)) (fun z => nomatch z) (by simp [jw_ent, jw_sl0_nil, jw_sl0_int, jw_sl0_long, jw_sl0_ref, jw_sl0_rf, jw_sl0_scr, List.replicate]) (by simp [jw_sl0_nil, jw_sl0_int, jw_sl0_long, jw_sl0_ref, jw_sl0_rf, jw_sl0_scr]) (l_X7_close hq)


/-! X7_same -/
noncomputable def g_X7_same_b22 (k22 : jw_H → Nat → Int32 → Option Nat → Int32 → Int32 → Int32 → Option (Int32 × jw_H)) (h : jw_H) (x0 : Nat) (x1 : Int32) (x2 : Option Nat) (x3 : Int32) (x4 : Int32) (x5 : Int32) : Option (Int32 × jw_H) :=
 if x4 ≤ x5 then (some ((1 : Int32), h))
 else ((jw_rc h 7 (some x0)).bind fun a2 =>
 jw_b2 (f_X7_signAt h a2 x1 x5) fun w4 h3 =>
 (jw_rc h3 7 x2).bind fun a5 =>
 jw_b2 (f_X7_signAt h3 a5 x3 x5) fun w7 h6 =>
 if w4 = w7 then (k22 h6 x0 x1 x2 x3 x4 (x5 + (1 : Int32)))
 else (some ((0 : Int32), h6)))

noncomputable def f_X7_same_b22 (n : Nat) : jw_H → Nat → Int32 → Option Nat → Int32 → Int32 → Int32 → Option (Int32 × jw_H) :=
 Nat.rec (fun _ _ _ _ _ _ _ => none) (fun _ k22 => g_X7_same_b22 k22) n

noncomputable def f_X7_same (h : jw_H) (x0 : Nat) (x1 : Int32) (x2 : Option Nat) (x3 : Int32) : Option (Int32 × jw_H) :=
 (jw_rc h 7 (some x0)).bind fun a1 =>
 jw_b2 (f_X7_lengthOf h a1 x1) fun w3 h2 =>
 (jw_rc h2 7 x2).bind fun a4 =>
 jw_b2 (f_X7_lengthOf h2 a4 x3) fun w6 h5 =>
 if w3 = w6 then (f_X7_same_b22  jw_FU h5 x0 x1 x2 x3 w3 (0 : Int32))
 else (some ((0 : Int32), h5))

set_option maxRecDepth 100000 in
set_option maxHeartbeats 4000000 in
theorem l_X7_same_b22g {hi : jw_H} {k22 : jw_H → Nat → Int32 → Option Nat → Int32 → Int32 → Int32 → Option (Int32 × jw_H)} (hk22 : ∀ (h : jw_H) (x0 : Nat) (x1 : Int32) (x2 : Option Nat) (x3 : Int32) (x4 : Int32) (x5 : Int32) (r : Int32) (h' : jw_H), k22 h x0 x1 x2 x3 x4 x5 = some (r, h') → jw_E 1 uX7_same hi 22 [some (.ref x0), some (.int x1), some (va_rf x2), some (.int x3), some (.int x4), some (.int x5)] [] h (.inl (some (.int r))) h') {h : jw_H} {x0 : Nat} {x1 : Int32} {x2 : Option Nat} {x3 : Int32} {x4 : Int32} {x5 : Int32} {r : Int32} {h' : jw_H} (hq : g_X7_same_b22 k22 h x0 x1 x2 x3 x4 x5 = some (r, h')) : jw_E 1 uX7_same hi 22 [some (.ref x0), some (.int x1), some (va_rf x2), some (.int x3), some (.int x4), some (.int x5)] [] h (.inl (some (.int r))) h' := by
  unfold g_X7_same_b22 at hq
  refine jw_iload dX7_same_22 rfl ?_
  refine jw_iload dX7_same_24 rfl ?_
  rcases jw_if hq with ⟨c1, hq⟩ | ⟨c1, hq⟩
  · refine jw_icmp_ge_t (tgt := 54) dX7_same_26 (by decide) c1 ?_
    refine jw_iconst dX7_same_54 (v := (1 : Int32)) (by decide) ?_
    cases hq
    exact jw_iret (ty := .boolean) dX7_same_55 rfl rfl
  · refine jw_icmp_ge_f (tgt := 54) dX7_same_26 (by decide) c1 ?_
    refine jw_aload_n dX7_same_29 (o := (some x0)) rfl ?_
    refine jw_iload_n dX7_same_30 rfl ?_
    refine jw_iload dX7_same_31 rfl ?_
    obtain ⟨a2, ea2, hq⟩ := Option.bind_eq_some_iff.mp hq
    obtain ⟨eoa2, eta2⟩ := jw_rc_spec ea2
    obtain ⟨w4, h3, ew4, hq⟩ := jw_b2_spec hq
    refine jw_callV (As := [.int x1, .int x5]) (S := []) (a := a2) (v := some (.int w4)) dX7_same_33 mt_X7_signAt in_X7_signAt se_X7_signAt lk_X7_54 (c_X7_signAt ew4) eta2 (by decide) rfl rfl (by decide) (Nat.le_of_ble_eq_true rfl) (by cases eoa2; rfl) ?_
    refine jw_aload_n dX7_same_36 (o := x2) rfl ?_
    refine jw_iload_n dX7_same_37 rfl ?_
    refine jw_iload dX7_same_38 rfl ?_
    obtain ⟨a5, ea5, hq⟩ := Option.bind_eq_some_iff.mp hq
    obtain ⟨eoa5, eta5⟩ := jw_rc_spec ea5
    obtain ⟨w7, h6, ew7, hq⟩ := jw_b2_spec hq
    refine jw_callV (As := [.int x3, .int x5]) (S := [.int w4]) (a := a5) (v := some (.int w7)) dX7_same_40 mt_X7_signAt in_X7_signAt se_X7_signAt lk_X7_54 (c_X7_signAt ew7) eta5 (by decide) rfl rfl (by decide) (Nat.le_of_ble_eq_true rfl) (by cases eoa5; rfl) ?_
    rcases jw_if hq with ⟨c8, hq⟩ | ⟨c8, hq⟩
    · refine jw_icmp_eq_t (tgt := 48) dX7_same_43 (by decide) c8 ?_
      refine jw_iinc (L' := [some (.ref x0), some (.int x1), some (va_rf x2), some (.int x3), some (.int x4), some (.int (x5 + (1 : Int32)))]) dX7_same_48 rfl (v := (1 : Int32)) (by decide) (Nat.le_of_ble_eq_true rfl) rfl ?_
      refine jw_goto (tgt := 22) dX7_same_51 (by decide) ?_
      exact hk22 _ _ _ _ _ _ _ _ _ hq
    · refine jw_icmp_eq_f (tgt := 48) dX7_same_43 (by decide) c8 ?_
      refine jw_iconst dX7_same_46 (v := (0 : Int32)) (by decide) ?_
      cases hq
      exact jw_iret (ty := .boolean) dX7_same_47 rfl rfl

theorem l_X7_same_b22 {hi : jw_H} : ∀ (n : Nat) (h : jw_H) (x0 : Nat) (x1 : Int32) (x2 : Option Nat) (x3 : Int32) (x4 : Int32) (x5 : Int32) (r : Int32) (h' : jw_H), f_X7_same_b22  n h x0 x1 x2 x3 x4 x5 = some (r, h') → jw_E 1 uX7_same hi 22 [some (.ref x0), some (.int x1), some (va_rf x2), some (.int x3), some (.int x4), some (.int x5)] [] h (.inl (some (.int r))) h' := by
  intro n
  induction n with
  | zero => intro h x0 x1 x2 x3 x4 x5 r h' hq; exact nomatch hq
  | succ n ih => intro h x0 x1 x2 x3 x4 x5 r h' hq; exact l_X7_same_b22g ih hq

set_option maxRecDepth 100000 in
set_option maxHeartbeats 4000000 in
theorem l_X7_same {hi : jw_H} {h : jw_H} {x0 : Nat} {x1 : Int32} {x2 : Option Nat} {x3 : Int32} {r : Int32} {h' : jw_H} (hq : f_X7_same  h x0 x1 x2 x3 = some (r, h')) : jw_E 1 uX7_same hi 0 [some (.ref x0), some (.int x1), some (va_rf x2), some (.int x3), none, none] [] h (.inl (some (.int r))) h' := by
  unfold f_X7_same at hq
  refine jw_aload_n dX7_same_0 (o := (some x0)) rfl ?_
  refine jw_iload_n dX7_same_1 rfl ?_
  obtain ⟨a1, ea1, hq⟩ := Option.bind_eq_some_iff.mp hq
  obtain ⟨eoa1, eta1⟩ := jw_rc_spec ea1
  obtain ⟨w3, h2, ew3, hq⟩ := jw_b2_spec hq
  refine jw_callV (As := [.int x1]) (S := []) (a := a1) (v := some (.int w3)) dX7_same_2 mt_X7_lengthOf in_X7_lengthOf se_X7_lengthOf lk_X7_42 (c_X7_lengthOf ew3) eta1 (by decide) rfl rfl (by decide) (Nat.le_of_ble_eq_true rfl) (by cases eoa1; rfl) ?_
  refine jw_istore (L' := [some (.ref x0), some (.int x1), some (va_rf x2), some (.int x3), some (.int w3), none]) dX7_same_5 (Nat.le_of_ble_eq_true rfl) rfl ?_
  refine jw_iload dX7_same_7 rfl ?_
  refine jw_aload_n dX7_same_9 (o := x2) rfl ?_
  refine jw_iload_n dX7_same_10 rfl ?_
  obtain ⟨a4, ea4, hq⟩ := Option.bind_eq_some_iff.mp hq
  obtain ⟨eoa4, eta4⟩ := jw_rc_spec ea4
  obtain ⟨w6, h5, ew6, hq⟩ := jw_b2_spec hq
  refine jw_callV (As := [.int x3]) (S := [.int w3]) (a := a4) (v := some (.int w6)) dX7_same_11 mt_X7_lengthOf in_X7_lengthOf se_X7_lengthOf lk_X7_42 (c_X7_lengthOf ew6) eta4 (by decide) rfl rfl (by decide) (Nat.le_of_ble_eq_true rfl) (by cases eoa4; rfl) ?_
  rcases jw_if hq with ⟨c7, hq⟩ | ⟨c7, hq⟩
  · refine jw_icmp_eq_t (tgt := 19) dX7_same_14 (by decide) c7 ?_
    refine jw_iconst dX7_same_19 (v := (0 : Int32)) (by decide) ?_
    refine jw_istore (L' := [some (.ref x0), some (.int x1), some (va_rf x2), some (.int x3), some (.int w3), some (.int (0 : Int32))]) dX7_same_20 (Nat.le_of_ble_eq_true rfl) rfl ?_
    exact l_X7_same_b22  jw_FU _ _ _ _ _ _ _ _ _ hq
  · refine jw_icmp_eq_f (tgt := 19) dX7_same_14 (by decide) c7 ?_
    refine jw_iconst dX7_same_17 (v := (0 : Int32)) (by decide) ?_
    cases hq
    exact jw_iret (ty := .boolean) dX7_same_18 rfl rfl

theorem c_X7_same {h : jw_H} {x0 : Nat} {x1 : Int32} {x2 : Option Nat} {x3 : Int32} {r : Int32} {h' : jw_H} (hq : f_X7_same h x0 x1 x2 x3 = some (r, h')) : jw_Con (Cond.code yX7_same cX7_same 6 (some .boolean)) yX7_same 1 [.ref x0, .int x1, va_rf x2, .int x3] h (.inl (some (.int r))) h' :=
  jw_con false (plainFor_of_name (by decide +kernel)) (fun z => nomatch z) (by simp [jw_ent, jw_sl0_nil, jw_sl0_int, jw_sl0_long, jw_sl0_ref, jw_sl0_rf, jw_sl0_scr, List.replicate]) (by simp [jw_sl0_nil, jw_sl0_int, jw_sl0_long, jw_sl0_ref, jw_sl0_rf, jw_sl0_scr]) (l_X7_same hq)


/-! J6_compare_7cf53 -/
noncomputable def g_J6_compare_7cf53_b19 (h : jw_H) (t0 : Int32) : Option (Int32 × jw_H) :=
 some (t0, h)

noncomputable def f_J6_compare_7cf53 (h : jw_H) (x0 : Int32) (x1 : Int32) : Option (Int32 × jw_H) :=
 if x1 ≤ x0 then (if x0 = x1 then (g_J6_compare_7cf53_b19  h (0 : Int32))
 else (g_J6_compare_7cf53_b19  h (1 : Int32)))
 else (g_J6_compare_7cf53_b19  h (-1 : Int32))

set_option maxRecDepth 100000 in
set_option maxHeartbeats 4000000 in
theorem l_J6_compare_7cf53_b19 {hi : jw_H} {h : jw_H} {t0 : Int32} {r : Int32} {h' : jw_H} (hq : g_J6_compare_7cf53_b19  h t0 = some (r, h')) : jw_E 0 uJ6_compare_7cf53 hi 19 [none, none] [.int t0] h (.inl (some (.int r))) h' := by
  unfold g_J6_compare_7cf53_b19 at hq
  cases hq
  exact jw_iret (ty := .int) dJ6_compare_7cf53_19 rfl rfl

set_option maxRecDepth 100000 in
set_option maxHeartbeats 4000000 in
theorem l_J6_compare_7cf53 {hi : jw_H} {h : jw_H} {x0 : Int32} {x1 : Int32} {r : Int32} {h' : jw_H} (hq : f_J6_compare_7cf53  h x0 x1 = some (r, h')) : jw_E 0 uJ6_compare_7cf53 hi 0 [some (.int x0), some (.int x1)] [] h (.inl (some (.int r))) h' := by
  unfold f_J6_compare_7cf53 at hq
  refine jw_iload_n dJ6_compare_7cf53_0 rfl ?_
  refine jw_iload_n dJ6_compare_7cf53_1 rfl ?_
  rcases jw_if hq with ⟨c1, hq⟩ | ⟨c1, hq⟩
  · refine jw_icmp_ge_t (tgt := 9) dJ6_compare_7cf53_2 (by decide) c1 ?_
    refine jw_iload_n dJ6_compare_7cf53_9 rfl ?_
    refine jw_iload_n dJ6_compare_7cf53_10 rfl ?_
    rcases jw_if hq with ⟨c2, hq⟩ | ⟨c2, hq⟩
    · refine jw_icmp_ne_f (tgt := 18) dJ6_compare_7cf53_11 (by decide) c2 ?_
      refine jw_iconst dJ6_compare_7cf53_14 (v := (0 : Int32)) (by decide) ?_
      refine jw_goto (tgt := 19) dJ6_compare_7cf53_15 (by decide) ?_
      refine jw_forget [false, false] (L' := [none, none]) rfl ?_
      exact l_J6_compare_7cf53_b19  hq
    · refine jw_icmp_ne_t (tgt := 18) dJ6_compare_7cf53_11 (by decide) c2 ?_
      refine jw_iconst dJ6_compare_7cf53_18 (v := (1 : Int32)) (by decide) ?_
      refine jw_forget [false, false] (L' := [none, none]) rfl ?_
      exact l_J6_compare_7cf53_b19  hq
  · refine jw_icmp_ge_f (tgt := 9) dJ6_compare_7cf53_2 (by decide) c1 ?_
    refine jw_iconst dJ6_compare_7cf53_5 (v := (-1 : Int32)) (by decide) ?_
    refine jw_goto (tgt := 19) dJ6_compare_7cf53_6 (by decide) ?_
    refine jw_forget [false, false] (L' := [none, none]) rfl ?_
    exact l_J6_compare_7cf53_b19  hq

theorem c_J6_compare_7cf53 {h : jw_H} {x0 : Int32} {x1 : Int32} {r : Int32} {h' : jw_H} (hq : f_J6_compare_7cf53 h x0 x1 = some (r, h')) : jw_Con (Cond.code yJ6_compare_7cf53 cJ6_compare_7cf53 2 (some .int)) yJ6_compare_7cf53 0 [.int x0, .int x1] h (.inl (some (.int r))) h' :=
  jw_con false (plainFor_of_name (by decide +kernel)) (fun z => nomatch z) (by simp [jw_ent, jw_sl0_nil, jw_sl0_int, jw_sl0_long, jw_sl0_ref, jw_sl0_rf, jw_sl0_scr, List.replicate]) (by simp [jw_sl0_nil, jw_sl0_int, jw_sl0_long, jw_sl0_ref, jw_sl0_rf, jw_sl0_scr]) (l_J6_compare_7cf53 hq)


/-! X7_compareFrom -/
noncomputable def g_X7_compareFrom_b3 (k3 : jw_H → Nat → Int32 → Int32 → Int32 → Option (Int32 × jw_H)) (h : jw_H) (x0 : Nat) (x2 : Int32) (x3 : Int32) (x4 : Int32) : Option (Int32 × jw_H) :=
 if (30 : Int32) ≤ x4 then (some ((0 : Int32), h))
 else ((jw_rc h 7 (some x0)).bind fun a2 =>
 jw_b2 (f_X7_signAt h a2 x2 x4) fun w4 h3 =>
 (jw_rc h3 7 (some x0)).bind fun a5 =>
 jw_b2 (f_X7_signAt h3 a5 x3 x4) fun w7 h6 =>
 if w4 = w7 then (k3 h6 x0 x2 x3 (x4 + (1 : Int32)))
 else (jw_b2 (f_J6_compare_7cf53 h6 w4 w7) fun w10 h9 =>
 some (w10, h9)))

noncomputable def f_X7_compareFrom_b3 (n : Nat) : jw_H → Nat → Int32 → Int32 → Int32 → Option (Int32 × jw_H) :=
 Nat.rec (fun _ _ _ _ _ => none) (fun _ k3 => g_X7_compareFrom_b3 k3) n

noncomputable def f_X7_compareFrom (h : jw_H) (x0 : Nat) (x1 : Int32) (x2 : Int32) (x3 : Int32) : Option (Int32 × jw_H) :=
 f_X7_compareFrom_b3  jw_FU h x0 x2 x3 x1

set_option maxRecDepth 100000 in
set_option maxHeartbeats 4000000 in
theorem l_X7_compareFrom_b3g {hi : jw_H} {k3 : jw_H → Nat → Int32 → Int32 → Int32 → Option (Int32 × jw_H)} (hk3 : ∀ (h : jw_H) (x0 : Nat) (x2 : Int32) (x3 : Int32) (x4 : Int32) (r : Int32) (h' : jw_H), k3 h x0 x2 x3 x4 = some (r, h') → jw_E 1 uX7_compareFrom hi 3 [some (.ref x0), none, some (.int x2), some (.int x3), some (.int x4), none, none] [] h (.inl (some (.int r))) h') {h : jw_H} {x0 : Nat} {x2 : Int32} {x3 : Int32} {x4 : Int32} {r : Int32} {h' : jw_H} (hq : g_X7_compareFrom_b3 k3 h x0 x2 x3 x4 = some (r, h')) : jw_E 1 uX7_compareFrom hi 3 [some (.ref x0), none, some (.int x2), some (.int x3), some (.int x4), none, none] [] h (.inl (some (.int r))) h' := by
  unfold g_X7_compareFrom_b3 at hq
  refine jw_iload dX7_compareFrom_3 rfl ?_
  refine jw_bipush dX7_compareFrom_5 (v := (30 : Int32)) (by decide) ?_
  rcases jw_if hq with ⟨c1, hq⟩ | ⟨c1, hq⟩
  · refine jw_icmp_ge_t (tgt := 49) dX7_compareFrom_7 (by decide) c1 ?_
    refine jw_iconst dX7_compareFrom_49 (v := (0 : Int32)) (by decide) ?_
    cases hq
    exact jw_iret (ty := .int) dX7_compareFrom_50 rfl rfl
  · refine jw_icmp_ge_f (tgt := 49) dX7_compareFrom_7 (by decide) c1 ?_
    refine jw_aload_n dX7_compareFrom_10 (o := (some x0)) rfl ?_
    refine jw_iload_n dX7_compareFrom_11 rfl ?_
    refine jw_iload dX7_compareFrom_12 rfl ?_
    obtain ⟨a2, ea2, hq⟩ := Option.bind_eq_some_iff.mp hq
    obtain ⟨eoa2, eta2⟩ := jw_rc_spec ea2
    obtain ⟨w4, h3, ew4, hq⟩ := jw_b2_spec hq
    refine jw_callV (As := [.int x2, .int x4]) (S := []) (a := a2) (v := some (.int w4)) dX7_compareFrom_14 mt_X7_signAt in_X7_signAt se_X7_signAt lk_X7_54 (c_X7_signAt ew4) eta2 (by decide) rfl rfl (by decide) (Nat.le_of_ble_eq_true rfl) (by cases eoa2; rfl) ?_
    refine jw_istore (L' := [some (.ref x0), none, some (.int x2), some (.int x3), some (.int x4), some (.int w4), none]) dX7_compareFrom_17 (Nat.le_of_ble_eq_true rfl) rfl ?_
    refine jw_aload_n dX7_compareFrom_19 (o := (some x0)) rfl ?_
    refine jw_iload_n dX7_compareFrom_20 rfl ?_
    refine jw_iload dX7_compareFrom_21 rfl ?_
    obtain ⟨a5, ea5, hq⟩ := Option.bind_eq_some_iff.mp hq
    obtain ⟨eoa5, eta5⟩ := jw_rc_spec ea5
    obtain ⟨w7, h6, ew7, hq⟩ := jw_b2_spec hq
    refine jw_callV (As := [.int x3, .int x4]) (S := []) (a := a5) (v := some (.int w7)) dX7_compareFrom_23 mt_X7_signAt in_X7_signAt se_X7_signAt lk_X7_54 (c_X7_signAt ew7) eta5 (by decide) rfl rfl (by decide) (Nat.le_of_ble_eq_true rfl) (by cases eoa5; rfl) ?_
    refine jw_istore (L' := [some (.ref x0), none, some (.int x2), some (.int x3), some (.int x4), some (.int w4), some (.int w7)]) dX7_compareFrom_26 (Nat.le_of_ble_eq_true rfl) rfl ?_
    refine jw_iload dX7_compareFrom_28 rfl ?_
    refine jw_iload dX7_compareFrom_30 rfl ?_
    rcases jw_if hq with ⟨c8, hq⟩ | ⟨c8, hq⟩
    · refine jw_icmp_eq_t (tgt := 43) dX7_compareFrom_32 (by decide) c8 ?_
      refine jw_iinc (L' := [some (.ref x0), none, some (.int x2), some (.int x3), some (.int (x4 + (1 : Int32))), some (.int w4), some (.int w7)]) dX7_compareFrom_43 rfl (v := (1 : Int32)) (by decide) (Nat.le_of_ble_eq_true rfl) rfl ?_
      refine jw_goto (tgt := 3) dX7_compareFrom_46 (by decide) ?_
      refine jw_forget [true, true, true, true, true, false, false] (L' := [some (.ref x0), none, some (.int x2), some (.int x3), some (.int (x4 + (1 : Int32))), none, none]) rfl ?_
      exact hk3 _ _ _ _ _ _ _ hq
    · refine jw_icmp_eq_f (tgt := 43) dX7_compareFrom_32 (by decide) c8 ?_
      refine jw_iload dX7_compareFrom_35 rfl ?_
      refine jw_iload dX7_compareFrom_37 rfl ?_
      obtain ⟨w10, h9, ew10, hq⟩ := jw_b2_spec hq
      refine jw_callS (As := [.int w4, .int w7]) (S := []) (v := some (.int w10)) dX7_compareFrom_39 mt_J6_compare_7cf53 st_J6_compare_7cf53 lk_X7_57 (c_J6_compare_7cf53 ew10) rfl (by decide) (Nat.le_of_ble_eq_true rfl) rfl ?_
      cases hq
      exact jw_iret (ty := .int) dX7_compareFrom_42 rfl rfl

theorem l_X7_compareFrom_b3 {hi : jw_H} : ∀ (n : Nat) (h : jw_H) (x0 : Nat) (x2 : Int32) (x3 : Int32) (x4 : Int32) (r : Int32) (h' : jw_H), f_X7_compareFrom_b3  n h x0 x2 x3 x4 = some (r, h') → jw_E 1 uX7_compareFrom hi 3 [some (.ref x0), none, some (.int x2), some (.int x3), some (.int x4), none, none] [] h (.inl (some (.int r))) h' := by
  intro n
  induction n with
  | zero => intro h x0 x2 x3 x4 r h' hq; exact nomatch hq
  | succ n ih => intro h x0 x2 x3 x4 r h' hq; exact l_X7_compareFrom_b3g ih hq

set_option maxRecDepth 100000 in
set_option maxHeartbeats 4000000 in
theorem l_X7_compareFrom {hi : jw_H} {h : jw_H} {x0 : Nat} {x1 : Int32} {x2 : Int32} {x3 : Int32} {r : Int32} {h' : jw_H} (hq : f_X7_compareFrom  h x0 x1 x2 x3 = some (r, h')) : jw_E 1 uX7_compareFrom hi 0 [some (.ref x0), some (.int x1), some (.int x2), some (.int x3), none, none, none] [] h (.inl (some (.int r))) h' := by
  unfold f_X7_compareFrom at hq
  refine jw_iload_n dX7_compareFrom_0 rfl ?_
  refine jw_istore (L' := [some (.ref x0), some (.int x1), some (.int x2), some (.int x3), some (.int x1), none, none]) dX7_compareFrom_1 (Nat.le_of_ble_eq_true rfl) rfl ?_
  refine jw_forget [true, false, true, true, true, true, true] (L' := [some (.ref x0), none, some (.int x2), some (.int x3), some (.int x1), none, none]) rfl ?_
  exact l_X7_compareFrom_b3  jw_FU _ _ _ _ _ _ _ hq

theorem c_X7_compareFrom {h : jw_H} {x0 : Nat} {x1 : Int32} {x2 : Int32} {x3 : Int32} {r : Int32} {h' : jw_H} (hq : f_X7_compareFrom h x0 x1 x2 x3 = some (r, h')) : jw_Con (Cond.code yX7_compareFrom cX7_compareFrom 7 (some .int)) yX7_compareFrom 1 [.ref x0, .int x1, .int x2, .int x3] h (.inl (some (.int r))) h' :=
  jw_con false (plainFor_of_name (by decide +kernel)) (fun z => nomatch z) (by simp [jw_ent, jw_sl0_nil, jw_sl0_int, jw_sl0_long, jw_sl0_ref, jw_sl0_rf, jw_sl0_scr, List.replicate]) (by simp [jw_sl0_nil, jw_sl0_int, jw_sl0_long, jw_sl0_ref, jw_sl0_rf, jw_sl0_scr]) (l_X7_compareFrom hq)


/-! X8_init -/
noncomputable def g_X8_init_b40 (k40 : jw_H → Nat → Int32 → Option (Unit × jw_H)) (h : jw_H) (x0 : Nat) (x1 : Int32) : Option (Unit × jw_H) :=
 if (4 : Int32) ≤ x1 then ((jw_mka h 21 (30 : Int32)).bind fun h2 =>
 (jw_pR h2 8 (some x0) 3 (some (jw_n h))).bind fun h4 =>
 some ((), h4))
 else ((jw_gR h 8 (some x0) 2).bind fun v5 =>
 (some (jw_new h (7, 0) (jw_nf 7))).bind fun h6 =>
 jw_b2 (f_X7_init h6 (jw_n h) (40 : Int32)) fun w8 h7 =>
 (jw_sr h7 37 v5 x1 (some (jw_n h))).bind fun h9 =>
 k40 h9 x0 (x1 + (1 : Int32)))

noncomputable def f_X8_init_b40 (n : Nat) : jw_H → Nat → Int32 → Option (Unit × jw_H) :=
 Nat.rec (fun _ _ _ => none) (fun _ k40 => g_X8_init_b40 k40) n

noncomputable def f_X8_init (h : jw_H) (x0 : Nat) : Option (Unit × jw_H) :=
 (some (jw_new h (7, 0) (jw_nf 7))).bind fun h1 =>
 jw_b2 (f_X7_init h1 (jw_n h) (40 : Int32)) fun w3 h2 =>
 (jw_pR h2 8 (some x0) 0 (some (jw_n h))).bind fun h4 =>
 (some (jw_new h4 (7, 0) (jw_nf 7))).bind fun h5 =>
 jw_b2 (f_X7_init h5 (jw_n h4) (100 : Int32)) fun w7 h6 =>
 (jw_pR h6 8 (some x0) 1 (some (jw_n h4))).bind fun h8 =>
 (jw_mka h8 37 (4 : Int32)).bind fun h9 =>
 (jw_pR h9 8 (some x0) 2 (some (jw_n h8))).bind fun h11 =>
 f_X8_init_b40  jw_FU h11 x0 (0 : Int32)

set_option maxRecDepth 100000 in
set_option maxHeartbeats 4000000 in
theorem l_X8_init_b40g {hi : jw_H} {k40 : jw_H → Nat → Int32 → Option (Unit × jw_H)} (hk40 : ∀ (h : jw_H) (x0 : Nat) (x1 : Int32) (r : Unit) (h' : jw_H), k40 h x0 x1 = some (r, h') → jw_E 2 uX8_init hi 40 [some (.ref x0), some (.int x1)] [] h (.inl none) h') {h : jw_H} {x0 : Nat} {x1 : Int32} {r : Unit} {h' : jw_H} (hq : g_X8_init_b40 k40 h x0 x1 = some (r, h')) : jw_E 2 uX8_init hi 40 [some (.ref x0), some (.int x1)] [] h (.inl none) h' := by
  unfold g_X8_init_b40 at hq
  refine jw_iload_n dX8_init_40 rfl ?_
  refine jw_iconst dX8_init_41 (v := (4 : Int32)) (by decide) ?_
  rcases jw_if hq with ⟨c1, hq⟩ | ⟨c1, hq⟩
  · refine jw_icmp_ge_t (tgt := 66) dX8_init_42 (by decide) c1 ?_
    refine jw_aload_n dX8_init_66 (o := (some x0)) rfl ?_
    refine jw_bipush dX8_init_67 (v := (30 : Int32)) (by decide) ?_
    obtain ⟨h2, eh2, hq⟩ := Option.bind_eq_some_iff.mp hq
    obtain ⟨ew3, eh2⟩ := jw_mka_spec eh2
    refine jw_mkB dX8_init_69 ac_byte ew3.1 ew3.2 ?_
    rw [eh2]
    obtain ⟨h4, eh4, hq⟩ := Option.bind_eq_some_iff.mp hq
    refine jw_putF (o := (some x0)) (x := (some (jw_n h))) dX8_init_71 eh4 fl_X8_27 fk_X8_27 rfl rfl rfl rfl ?_
    cases hq
    exact jw_vret dX8_init_74 rfl
  · refine jw_icmp_ge_f (tgt := 66) dX8_init_42 (by decide) c1 ?_
    refine jw_aload_n dX8_init_45 (o := (some x0)) rfl ?_
    obtain ⟨v5, ev5, hq⟩ := Option.bind_eq_some_iff.mp hq
    refine jw_getR (o := (some x0)) dX8_init_46 ev5 fl_X8_23 rfl ?_
    refine jw_iload_n dX8_init_49 rfl ?_
    obtain ⟨h6, eh6, hq⟩ := Option.bind_eq_some_iff.mp hq
    have eh6 := Option.some.inj eh6
    refine jw_mk (c := 7) dX8_init_50 (by decide) cl_X8_9 inst_7 ini_7 ?_
    rw [eh6]
    refine jw_dup dX8_init_53 rfl ?_
    refine jw_bipush dX8_init_54 (v := (40 : Int32)) (by decide) ?_
    obtain ⟨w8, h7, ew8, hq⟩ := jw_b2_spec hq
    refine jw_callI (As := [.int (40 : Int32)]) (S := [.ref (jw_n h), .int x1, va_rf v5]) (a := (jw_n h)) (v := none) dX8_init_56 mt_X7_init in_X7_init rfl lk_X8_11 (c_X7_init ew8) rfl (by decide) (by simp only [List.map_cons, List.map_nil, List.sum_cons, List.sum_nil, jw_cat_rf, jw_cat_i, jw_cat_l, jw_cat_a, jw_cat_s] <;> decide) rfl ?_
    obtain ⟨h9, eh9, hq⟩ := Option.bind_eq_some_iff.mp hq
    refine jw_aast (t := 37) (Nat.le_of_ble_eq_true rfl) (Nat.le_of_ble_eq_true rfl) (o := v5) (v := (some (jw_n h))) dX8_init_59 eh9 ?_
    refine jw_iinc (L' := [some (.ref x0), some (.int (x1 + (1 : Int32)))]) dX8_init_60 rfl (v := (1 : Int32)) (by decide) (Nat.le_of_ble_eq_true rfl) rfl ?_
    refine jw_goto (tgt := 40) dX8_init_63 (by decide) ?_
    exact hk40 _ _ _ _ _ hq

theorem l_X8_init_b40 {hi : jw_H} : ∀ (n : Nat) (h : jw_H) (x0 : Nat) (x1 : Int32) (r : Unit) (h' : jw_H), f_X8_init_b40  n h x0 x1 = some (r, h') → jw_E 2 uX8_init hi 40 [some (.ref x0), some (.int x1)] [] h (.inl none) h' := by
  intro n
  induction n with
  | zero => intro h x0 x1 r h' hq; exact nomatch hq
  | succ n ih => intro h x0 x1 r h' hq; exact l_X8_init_b40g ih hq

set_option maxRecDepth 100000 in
set_option maxHeartbeats 4000000 in
theorem l_X8_init {hi : jw_H} {h : jw_H} {x0 : Nat} {r : Unit} {h' : jw_H} (hq : f_X8_init  h x0 = some (r, h')) : jw_E 2 uX8_init hi 0 [some (.ref x0), none] [] h (.inl none) h' := by
  unfold f_X8_init at hq
  refine jw_aload_n dX8_init_0 (o := (some x0)) rfl ?_
  refine jw_obj dX8_init_1 ol_X8_3 oi_0 oc_0 (by decide) (Nat.le_of_ble_eq_true rfl) ?_
  refine jw_aload_n dX8_init_4 (o := (some x0)) rfl ?_
  obtain ⟨h1, eh1, hq⟩ := Option.bind_eq_some_iff.mp hq
  have eh1 := Option.some.inj eh1
  refine jw_mk (c := 7) dX8_init_5 (by decide) cl_X8_9 inst_7 ini_7 ?_
  rw [eh1]
  refine jw_dup dX8_init_8 rfl ?_
  refine jw_bipush dX8_init_9 (v := (40 : Int32)) (by decide) ?_
  obtain ⟨w3, h2, ew3, hq⟩ := jw_b2_spec hq
  refine jw_callI (As := [.int (40 : Int32)]) (S := [.ref (jw_n h), .ref x0]) (a := (jw_n h)) (v := none) dX8_init_11 mt_X7_init in_X7_init rfl lk_X8_11 (c_X7_init ew3) rfl (by decide) (Nat.le_of_ble_eq_true rfl) rfl ?_
  obtain ⟨h4, eh4, hq⟩ := Option.bind_eq_some_iff.mp hq
  refine jw_putF (o := (some x0)) (x := (some (jw_n h))) dX8_init_14 eh4 fl_X8_14 fk_X8_14 rfl rfl rfl rfl ?_
  refine jw_aload_n dX8_init_17 (o := (some x0)) rfl ?_
  obtain ⟨h5, eh5, hq⟩ := Option.bind_eq_some_iff.mp hq
  have eh5 := Option.some.inj eh5
  refine jw_mk (c := 7) dX8_init_18 (by decide) cl_X8_9 inst_7 ini_7 ?_
  rw [eh5]
  refine jw_dup dX8_init_21 rfl ?_
  refine jw_bipush dX8_init_22 (v := (100 : Int32)) (by decide) ?_
  obtain ⟨w7, h6, ew7, hq⟩ := jw_b2_spec hq
  refine jw_callI (As := [.int (100 : Int32)]) (S := [.ref (jw_n h4), .ref x0]) (a := (jw_n h4)) (v := none) dX8_init_24 mt_X7_init in_X7_init rfl lk_X8_11 (c_X7_init ew7) rfl (by decide) (Nat.le_of_ble_eq_true rfl) rfl ?_
  obtain ⟨h8, eh8, hq⟩ := Option.bind_eq_some_iff.mp hq
  refine jw_putF (o := (some x0)) (x := (some (jw_n h4))) dX8_init_27 eh8 fl_X8_20 fk_X8_20 rfl rfl rfl rfl ?_
  refine jw_aload_n dX8_init_30 (o := (some x0)) rfl ?_
  refine jw_iconst dX8_init_31 (v := (4 : Int32)) (by decide) ?_
  obtain ⟨h9, eh9, hq⟩ := Option.bind_eq_some_iff.mp hq
  obtain ⟨ew10, eh9⟩ := jw_mka_spec eh9
  refine jw_mkq (c := 7) dX8_init_32 (by decide) cl_X8_9 ew10.1 ew10.2 ?_
  rw [eh9]
  obtain ⟨h11, eh11, hq⟩ := Option.bind_eq_some_iff.mp hq
  refine jw_putF (o := (some x0)) (x := (some (jw_n h8))) dX8_init_35 eh11 fl_X8_23 fk_X8_23 rfl rfl rfl rfl ?_
  refine jw_iconst dX8_init_38 (v := (0 : Int32)) (by decide) ?_
  refine jw_istore_n (L' := [some (.ref x0), some (.int (0 : Int32))]) dX8_init_39 (Nat.le_of_ble_eq_true rfl) rfl ?_
  exact l_X8_init_b40  jw_FU _ _ _ _ _ hq

theorem c_X8_init {h : jw_H} {x0 : Nat} {r : Unit} {h' : jw_H} (hq : f_X8_init h x0 = some (r, h')) : jw_Con (Cond.code yX8_init cX8_init 2 none) yX8_init 2 [.ref x0] h (.inl none) h' :=
  jw_con true (plainFor_of_name (by decide +kernel)) (fun _ => rfl) (by simp [jw_ent, jw_sl0_nil, jw_sl0_int, jw_sl0_long, jw_sl0_ref, jw_sl0_rf, jw_sl0_scr, List.replicate]) (by simp [jw_sl0_nil, jw_sl0_int, jw_sl0_long, jw_sl0_ref, jw_sl0_rf, jw_sl0_scr]) (l_X8_init hq)


/-! X8_isWell -/
noncomputable def g_X8_isWell_b28 (k28 : jw_H → Nat → Int32 → Option (Int32 × jw_H)) (h : jw_H) (x0 : Nat) (x1 : Int32) : Option (Int32 × jw_H) :=
 if (4 : Int32) ≤ x1 then (some ((1 : Int32), h))
 else ((jw_rc h 8 (some x0)).bind fun a2 =>
 jw_b2 (f_X8_file h a2 x1) fun w4 h3 =>
 if w4 = none then (some ((0 : Int32), h3))
 else ((jw_gI h3 7 w4 2).bind fun v6 =>
 if v6 ≤ (40 : Int32) then (k28 h3 x0 (x1 + (1 : Int32)))
 else (some ((0 : Int32), h3))))

noncomputable def f_X8_isWell_b28 (n : Nat) : jw_H → Nat → Int32 → Option (Int32 × jw_H) :=
 Nat.rec (fun _ _ _ => none) (fun _ k28 => g_X8_isWell_b28 k28) n

noncomputable def f_X8_isWell (h : jw_H) (x0 : Nat) : Option (Int32 × jw_H) :=
 (jw_gR h 8 (some x0) 0).bind fun v1 =>
 (jw_gI h 7 v1 2).bind fun v2 =>
 if (40 : Int32) < v2 then (some ((0 : Int32), h))
 else ((jw_gR h 8 (some x0) 1).bind fun v4 =>
 (jw_gI h 7 v4 2).bind fun v5 =>
 if v5 ≤ (100 : Int32) then (f_X8_isWell_b28  jw_FU h x0 (0 : Int32))
 else (some ((0 : Int32), h)))

set_option maxRecDepth 100000 in
set_option maxHeartbeats 4000000 in
theorem l_X8_isWell_b28g {hi : jw_H} {k28 : jw_H → Nat → Int32 → Option (Int32 × jw_H)} (hk28 : ∀ (h : jw_H) (x0 : Nat) (x1 : Int32) (r : Int32) (h' : jw_H), k28 h x0 x1 = some (r, h') → jw_E 1 uX8_isWell hi 28 [some (.ref x0), some (.int x1), none] [] h (.inl (some (.int r))) h') {h : jw_H} {x0 : Nat} {x1 : Int32} {r : Int32} {h' : jw_H} (hq : g_X8_isWell_b28 k28 h x0 x1 = some (r, h')) : jw_E 1 uX8_isWell hi 28 [some (.ref x0), some (.int x1), none] [] h (.inl (some (.int r))) h' := by
  unfold g_X8_isWell_b28 at hq
  refine jw_iload_n dX8_isWell_28 rfl ?_
  refine jw_iconst dX8_isWell_29 (v := (4 : Int32)) (by decide) ?_
  rcases jw_if hq with ⟨c1, hq⟩ | ⟨c1, hq⟩
  · refine jw_icmp_ge_t (tgt := 60) dX8_isWell_30 (by decide) c1 ?_
    refine jw_iconst dX8_isWell_60 (v := (1 : Int32)) (by decide) ?_
    cases hq
    exact jw_iret (ty := .boolean) dX8_isWell_61 rfl rfl
  · refine jw_icmp_ge_f (tgt := 60) dX8_isWell_30 (by decide) c1 ?_
    refine jw_aload_n dX8_isWell_33 (o := (some x0)) rfl ?_
    refine jw_iload_n dX8_isWell_34 rfl ?_
    obtain ⟨a2, ea2, hq⟩ := Option.bind_eq_some_iff.mp hq
    obtain ⟨eoa2, eta2⟩ := jw_rc_spec ea2
    obtain ⟨w4, h3, ew4, hq⟩ := jw_b2_spec hq
    refine jw_callV (As := [.int x1]) (S := []) (a := a2) (v := some (va_rf w4)) dX8_isWell_35 mt_X8_file in_X8_file se_X8_file lk_X8_35 (c_X8_file ew4) eta2 (by decide) rfl rfl (by decide) (Nat.le_of_ble_eq_true rfl) (by cases eoa2; rfl) ?_
    refine jw_astore_n (o := w4) (L' := [some (.ref x0), some (.int x1), some (va_rf w4)]) dX8_isWell_38 (Nat.le_of_ble_eq_true rfl) rfl ?_
    refine jw_aload_n dX8_isWell_39 (o := w4) rfl ?_
    rcases jw_if hq with ⟨c5, hq⟩ | ⟨c5, hq⟩
    · refine jw_ifnull_t (o := w4) (tgt := 52) dX8_isWell_40 (by decide) c5 ?_
      refine jw_iconst dX8_isWell_52 (v := (0 : Int32)) (by decide) ?_
      cases hq
      exact jw_iret (ty := .boolean) dX8_isWell_53 rfl rfl
    · refine jw_ifnull_f (o := w4) dX8_isWell_40 c5 ?_
      refine jw_aload_n dX8_isWell_43 (o := w4) rfl ?_
      obtain ⟨v6, ev6, hq⟩ := Option.bind_eq_some_iff.mp hq
      refine jw_getI (o := w4) dX8_isWell_44 ev6 fl_X8_39 rfl ?_
      refine jw_bipush dX8_isWell_47 (v := (40 : Int32)) (by decide) ?_
      rcases jw_if hq with ⟨c7, hq⟩ | ⟨c7, hq⟩
      · refine jw_icmp_le_t (tgt := 54) dX8_isWell_49 (by decide) c7 ?_
        refine jw_iinc (L' := [some (.ref x0), some (.int (x1 + (1 : Int32))), some (va_rf w4)]) dX8_isWell_54 rfl (v := (1 : Int32)) (by decide) (Nat.le_of_ble_eq_true rfl) rfl ?_
        refine jw_goto (tgt := 28) dX8_isWell_57 (by decide) ?_
        refine jw_forget [true, true, false] (L' := [some (.ref x0), some (.int (x1 + (1 : Int32))), none]) rfl ?_
        exact hk28 _ _ _ _ _ hq
      · refine jw_icmp_le_f (tgt := 54) dX8_isWell_49 (by decide) c7 ?_
        refine jw_iconst dX8_isWell_52 (v := (0 : Int32)) (by decide) ?_
        cases hq
        exact jw_iret (ty := .boolean) dX8_isWell_53 rfl rfl

theorem l_X8_isWell_b28 {hi : jw_H} : ∀ (n : Nat) (h : jw_H) (x0 : Nat) (x1 : Int32) (r : Int32) (h' : jw_H), f_X8_isWell_b28  n h x0 x1 = some (r, h') → jw_E 1 uX8_isWell hi 28 [some (.ref x0), some (.int x1), none] [] h (.inl (some (.int r))) h' := by
  intro n
  induction n with
  | zero => intro h x0 x1 r h' hq; exact nomatch hq
  | succ n ih => intro h x0 x1 r h' hq; exact l_X8_isWell_b28g ih hq

set_option maxRecDepth 100000 in
set_option maxHeartbeats 4000000 in
theorem l_X8_isWell {hi : jw_H} {h : jw_H} {x0 : Nat} {r : Int32} {h' : jw_H} (hq : f_X8_isWell  h x0 = some (r, h')) : jw_E 1 uX8_isWell hi 0 [some (.ref x0), none, none] [] h (.inl (some (.int r))) h' := by
  unfold f_X8_isWell at hq
  refine jw_aload_n dX8_isWell_0 (o := (some x0)) rfl ?_
  obtain ⟨v1, ev1, hq⟩ := Option.bind_eq_some_iff.mp hq
  refine jw_getR (o := (some x0)) dX8_isWell_1 ev1 fl_X8_14 rfl ?_
  obtain ⟨v2, ev2, hq⟩ := Option.bind_eq_some_iff.mp hq
  refine jw_getI (o := v1) dX8_isWell_4 ev2 fl_X8_39 rfl ?_
  refine jw_bipush dX8_isWell_7 (v := (40 : Int32)) (by decide) ?_
  rcases jw_if hq with ⟨c3, hq⟩ | ⟨c3, hq⟩
  · refine jw_icmp_gt_t (tgt := 24) dX8_isWell_9 (by decide) c3 ?_
    refine jw_iconst dX8_isWell_24 (v := (0 : Int32)) (by decide) ?_
    cases hq
    exact jw_iret (ty := .boolean) dX8_isWell_25 rfl rfl
  · refine jw_icmp_gt_f (tgt := 24) dX8_isWell_9 (by decide) c3 ?_
    refine jw_aload_n dX8_isWell_12 (o := (some x0)) rfl ?_
    obtain ⟨v4, ev4, hq⟩ := Option.bind_eq_some_iff.mp hq
    refine jw_getR (o := (some x0)) dX8_isWell_13 ev4 fl_X8_20 rfl ?_
    obtain ⟨v5, ev5, hq⟩ := Option.bind_eq_some_iff.mp hq
    refine jw_getI (o := v4) dX8_isWell_16 ev5 fl_X8_39 rfl ?_
    refine jw_bipush dX8_isWell_19 (v := (100 : Int32)) (by decide) ?_
    rcases jw_if hq with ⟨c6, hq⟩ | ⟨c6, hq⟩
    · refine jw_icmp_le_t (tgt := 26) dX8_isWell_21 (by decide) c6 ?_
      refine jw_iconst dX8_isWell_26 (v := (0 : Int32)) (by decide) ?_
      refine jw_istore_n (L' := [some (.ref x0), some (.int (0 : Int32)), none]) dX8_isWell_27 (Nat.le_of_ble_eq_true rfl) rfl ?_
      exact l_X8_isWell_b28  jw_FU _ _ _ _ _ hq
    · refine jw_icmp_le_f (tgt := 26) dX8_isWell_21 (by decide) c6 ?_
      refine jw_iconst dX8_isWell_24 (v := (0 : Int32)) (by decide) ?_
      cases hq
      exact jw_iret (ty := .boolean) dX8_isWell_25 rfl rfl

theorem c_X8_isWell {h : jw_H} {x0 : Nat} {r : Int32} {h' : jw_H} (hq : f_X8_isWell h x0 = some (r, h')) : jw_Con (Cond.code yX8_isWell cX8_isWell 3 (some .boolean)) yX8_isWell 1 [.ref x0] h (.inl (some (.int r))) h' :=
  jw_con false (plainFor_of_name (by decide +kernel)) (fun z => nomatch z) (by simp [jw_ent, jw_sl0_nil, jw_sl0_int, jw_sl0_long, jw_sl0_ref, jw_sl0_rf, jw_sl0_scr, List.replicate]) (by simp [jw_sl0_nil, jw_sl0_int, jw_sl0_long, jw_sl0_ref, jw_sl0_rf, jw_sl0_scr]) (l_X8_isWell hq)


/-! X9_numberOf -/
noncomputable def g_X9_numberOf_b2 (k2 : jw_H → Nat → Int32 → Int32 → Option (Int32 × jw_H)) (h : jw_H) (x0 : Nat) (x1 : Int32) (x2 : Int32) : Option (Int32 × jw_H) :=
 (jw_gR h 9 (some x0) 0).bind fun v1 =>
 (jw_gI h 7 v1 2).bind fun v2 =>
 if v2 < x2 then (some ((-1 : Int32), h))
 else ((jw_gR h 9 (some x0) 1).bind fun v4 =>
 (jw_ln h v4).bind fun v5 =>
 if v5 < x2 then (some ((-1 : Int32), h))
 else ((jw_gR h 9 (some x0) 1).bind fun v7 =>
 (jw_ai h 20 v7 (x2 - (1 : Int32))).bind fun v8 =>
 if v8 = x1 then (some (x2, h))
 else (k2 h x0 x1 (x2 + (1 : Int32)))))

noncomputable def f_X9_numberOf_b2 (n : Nat) : jw_H → Nat → Int32 → Int32 → Option (Int32 × jw_H) :=
 Nat.rec (fun _ _ _ _ => none) (fun _ k2 => g_X9_numberOf_b2 k2) n

noncomputable def f_X9_numberOf (h : jw_H) (x0 : Nat) (x1 : Int32) : Option (Int32 × jw_H) :=
 f_X9_numberOf_b2  jw_FU h x0 x1 (1 : Int32)

set_option maxRecDepth 100000 in
set_option maxHeartbeats 4000000 in
theorem l_X9_numberOf_b2g {hi : jw_H} {k2 : jw_H → Nat → Int32 → Int32 → Option (Int32 × jw_H)} (hk2 : ∀ (h : jw_H) (x0 : Nat) (x1 : Int32) (x2 : Int32) (r : Int32) (h' : jw_H), k2 h x0 x1 x2 = some (r, h') → jw_E 0 uX9_numberOf hi 2 [some (.ref x0), some (.int x1), some (.int x2)] [] h (.inl (some (.int r))) h') {h : jw_H} {x0 : Nat} {x1 : Int32} {x2 : Int32} {r : Int32} {h' : jw_H} (hq : g_X9_numberOf_b2 k2 h x0 x1 x2 = some (r, h')) : jw_E 0 uX9_numberOf hi 2 [some (.ref x0), some (.int x1), some (.int x2)] [] h (.inl (some (.int r))) h' := by
  unfold g_X9_numberOf_b2 at hq
  refine jw_iload_n dX9_numberOf_2 rfl ?_
  refine jw_aload_n dX9_numberOf_3 (o := (some x0)) rfl ?_
  obtain ⟨v1, ev1, hq⟩ := Option.bind_eq_some_iff.mp hq
  refine jw_getR (o := (some x0)) dX9_numberOf_4 ev1 fl_X9_14 rfl ?_
  obtain ⟨v2, ev2, hq⟩ := Option.bind_eq_some_iff.mp hq
  refine jw_getI (o := v1) dX9_numberOf_7 ev2 fl_X9_41 rfl ?_
  rcases jw_if hq with ⟨c3, hq⟩ | ⟨c3, hq⟩
  · refine jw_icmp_gt_t (tgt := 42) dX9_numberOf_10 (by decide) c3 ?_
    refine jw_iconst dX9_numberOf_42 (v := (-1 : Int32)) (by decide) ?_
    cases hq
    exact jw_iret (ty := .int) dX9_numberOf_43 rfl rfl
  · refine jw_icmp_gt_f (tgt := 42) dX9_numberOf_10 (by decide) c3 ?_
    refine jw_iload_n dX9_numberOf_13 rfl ?_
    refine jw_aload_n dX9_numberOf_14 (o := (some x0)) rfl ?_
    obtain ⟨v4, ev4, hq⟩ := Option.bind_eq_some_iff.mp hq
    refine jw_getR (o := (some x0)) dX9_numberOf_15 ev4 fl_X9_20 rfl ?_
    obtain ⟨v5, ev5, hq⟩ := Option.bind_eq_some_iff.mp hq
    refine jw_alen (o := v4) dX9_numberOf_18 ev5 ?_
    rcases jw_if hq with ⟨c6, hq⟩ | ⟨c6, hq⟩
    · refine jw_icmp_gt_t (tgt := 42) dX9_numberOf_19 (by decide) c6 ?_
      refine jw_iconst dX9_numberOf_42 (v := (-1 : Int32)) (by decide) ?_
      cases hq
      exact jw_iret (ty := .int) dX9_numberOf_43 rfl rfl
    · refine jw_icmp_gt_f (tgt := 42) dX9_numberOf_19 (by decide) c6 ?_
      refine jw_aload_n dX9_numberOf_22 (o := (some x0)) rfl ?_
      obtain ⟨v7, ev7, hq⟩ := Option.bind_eq_some_iff.mp hq
      refine jw_getR (o := (some x0)) dX9_numberOf_23 ev7 fl_X9_20 rfl ?_
      refine jw_iload_n dX9_numberOf_26 rfl ?_
      refine jw_iconst dX9_numberOf_27 (v := (1 : Int32)) (by decide) ?_
      refine jw_isub dX9_numberOf_28 ?_
      obtain ⟨v8, ev8, hq⟩ := Option.bind_eq_some_iff.mp hq
      refine jw_iald (o := v7) dX9_numberOf_29 ev8 ?_
      refine jw_iload_n dX9_numberOf_30 rfl ?_
      rcases jw_if hq with ⟨c9, hq⟩ | ⟨c9, hq⟩
      · refine jw_icmp_ne_f (tgt := 36) dX9_numberOf_31 (by decide) c9 ?_
        refine jw_iload_n dX9_numberOf_34 rfl ?_
        cases hq
        exact jw_iret (ty := .int) dX9_numberOf_35 rfl rfl
      · refine jw_icmp_ne_t (tgt := 36) dX9_numberOf_31 (by decide) c9 ?_
        refine jw_iinc (L' := [some (.ref x0), some (.int x1), some (.int (x2 + (1 : Int32)))]) dX9_numberOf_36 rfl (v := (1 : Int32)) (by decide) (Nat.le_of_ble_eq_true rfl) rfl ?_
        refine jw_goto (tgt := 2) dX9_numberOf_39 (by decide) ?_
        exact hk2 _ _ _ _ _ _ hq

theorem l_X9_numberOf_b2 {hi : jw_H} : ∀ (n : Nat) (h : jw_H) (x0 : Nat) (x1 : Int32) (x2 : Int32) (r : Int32) (h' : jw_H), f_X9_numberOf_b2  n h x0 x1 x2 = some (r, h') → jw_E 0 uX9_numberOf hi 2 [some (.ref x0), some (.int x1), some (.int x2)] [] h (.inl (some (.int r))) h' := by
  intro n
  induction n with
  | zero => intro h x0 x1 x2 r h' hq; exact nomatch hq
  | succ n ih => intro h x0 x1 x2 r h' hq; exact l_X9_numberOf_b2g ih hq

set_option maxRecDepth 100000 in
set_option maxHeartbeats 4000000 in
theorem l_X9_numberOf {hi : jw_H} {h : jw_H} {x0 : Nat} {x1 : Int32} {r : Int32} {h' : jw_H} (hq : f_X9_numberOf  h x0 x1 = some (r, h')) : jw_E 0 uX9_numberOf hi 0 [some (.ref x0), some (.int x1), none] [] h (.inl (some (.int r))) h' := by
  unfold f_X9_numberOf at hq
  refine jw_iconst dX9_numberOf_0 (v := (1 : Int32)) (by decide) ?_
  refine jw_istore_n (L' := [some (.ref x0), some (.int x1), some (.int (1 : Int32))]) dX9_numberOf_1 (Nat.le_of_ble_eq_true rfl) rfl ?_
  exact l_X9_numberOf_b2  jw_FU _ _ _ _ _ _ hq

theorem c_X9_numberOf {h : jw_H} {x0 : Nat} {x1 : Int32} {r : Int32} {h' : jw_H} (hq : f_X9_numberOf h x0 x1 = some (r, h')) : jw_Con (Cond.code yX9_numberOf cX9_numberOf 3 (some .int)) yX9_numberOf 0 [.ref x0, .int x1] h (.inl (some (.int r))) h' :=
  jw_con false (plainFor_of_name (by decide +kernel)) (fun z => nomatch z) (by simp [jw_ent, jw_sl0_nil, jw_sl0_int, jw_sl0_long, jw_sl0_ref, jw_sl0_rf, jw_sl0_scr, List.replicate]) (by simp [jw_sl0_nil, jw_sl0_int, jw_sl0_long, jw_sl0_ref, jw_sl0_rf, jw_sl0_scr]) (l_X9_numberOf hq)


/-! X9_markedLine -/
noncomputable def g_X9_markedLine_b20 (h : jw_H) (t0 : Int32) : Option (Int32 × jw_H) :=
 some (t0, h)

noncomputable def f_X9_markedLine (h : jw_H) (x0 : Nat) (x1 : Int32) : Option (Int32 × jw_H) :=
 (jw_rc h 9 (some x0)).bind fun a1 =>
 jw_b2 (f_X9_markedId h a1 x1) fun w3 h2 =>
 if w3 = (-1 : Int32) then (g_X9_markedLine_b20  h2 (-1 : Int32))
 else ((jw_rc h2 9 (some x0)).bind fun a5 =>
 jw_b2 (f_X9_numberOf h2 a5 w3) fun w7 h6 =>
 g_X9_markedLine_b20  h6 w7)

set_option maxRecDepth 100000 in
set_option maxHeartbeats 4000000 in
theorem l_X9_markedLine_b20 {hi : jw_H} {h : jw_H} {t0 : Int32} {r : Int32} {h' : jw_H} (hq : g_X9_markedLine_b20  h t0 = some (r, h')) : jw_E 1 uX9_markedLine hi 20 [none, none, none] [.int t0] h (.inl (some (.int r))) h' := by
  unfold g_X9_markedLine_b20 at hq
  cases hq
  exact jw_iret (ty := .int) dX9_markedLine_20 rfl rfl

set_option maxRecDepth 100000 in
set_option maxHeartbeats 4000000 in
theorem l_X9_markedLine {hi : jw_H} {h : jw_H} {x0 : Nat} {x1 : Int32} {r : Int32} {h' : jw_H} (hq : f_X9_markedLine  h x0 x1 = some (r, h')) : jw_E 1 uX9_markedLine hi 0 [some (.ref x0), some (.int x1), none] [] h (.inl (some (.int r))) h' := by
  unfold f_X9_markedLine at hq
  refine jw_aload_n dX9_markedLine_0 (o := (some x0)) rfl ?_
  refine jw_iload_n dX9_markedLine_1 rfl ?_
  obtain ⟨a1, ea1, hq⟩ := Option.bind_eq_some_iff.mp hq
  obtain ⟨eoa1, eta1⟩ := jw_rc_spec ea1
  obtain ⟨w3, h2, ew3, hq⟩ := jw_b2_spec hq
  refine jw_callV (As := [.int x1]) (S := []) (a := a1) (v := some (.int w3)) dX9_markedLine_2 mt_X9_markedId in_X9_markedId se_X9_markedId lk_X9_44 (c_X9_markedId ew3) eta1 (by decide) rfl rfl (by decide) (Nat.le_of_ble_eq_true rfl) (by cases eoa1; rfl) ?_
  refine jw_istore_n (L' := [some (.ref x0), some (.int x1), some (.int w3)]) dX9_markedLine_5 (Nat.le_of_ble_eq_true rfl) rfl ?_
  refine jw_iload_n dX9_markedLine_6 rfl ?_
  refine jw_iconst dX9_markedLine_7 (v := (-1 : Int32)) (by decide) ?_
  rcases jw_if hq with ⟨c4, hq⟩ | ⟨c4, hq⟩
  · refine jw_icmp_ne_f (tgt := 15) dX9_markedLine_8 (by decide) c4 ?_
    refine jw_iconst dX9_markedLine_11 (v := (-1 : Int32)) (by decide) ?_
    refine jw_goto (tgt := 20) dX9_markedLine_12 (by decide) ?_
    refine jw_forget [false, false, false] (L' := [none, none, none]) rfl ?_
    exact l_X9_markedLine_b20  hq
  · refine jw_icmp_ne_t (tgt := 15) dX9_markedLine_8 (by decide) c4 ?_
    refine jw_aload_n dX9_markedLine_15 (o := (some x0)) rfl ?_
    refine jw_iload_n dX9_markedLine_16 rfl ?_
    obtain ⟨a5, ea5, hq⟩ := Option.bind_eq_some_iff.mp hq
    obtain ⟨eoa5, eta5⟩ := jw_rc_spec ea5
    obtain ⟨w7, h6, ew7, hq⟩ := jw_b2_spec hq
    refine jw_callV (As := [.int w3]) (S := []) (a := a5) (v := some (.int w7)) dX9_markedLine_17 mt_X9_numberOf in_X9_numberOf se_X9_numberOf lk_X9_48 (c_X9_numberOf ew7) eta5 (by decide) rfl rfl (by decide) (Nat.le_of_ble_eq_true rfl) (by cases eoa5; rfl) ?_
    refine jw_forget [false, false, false] (L' := [none, none, none]) rfl ?_
    exact l_X9_markedLine_b20  hq

theorem c_X9_markedLine {h : jw_H} {x0 : Nat} {x1 : Int32} {r : Int32} {h' : jw_H} (hq : f_X9_markedLine h x0 x1 = some (r, h')) : jw_Con (Cond.code yX9_markedLine cX9_markedLine 3 (some .int)) yX9_markedLine 1 [.ref x0, .int x1] h (.inl (some (.int r))) h' :=
  jw_con false (plainFor_of_name (by decide +kernel)) (fun z => nomatch z) (by simp [jw_ent, jw_sl0_nil, jw_sl0_int, jw_sl0_long, jw_sl0_ref, jw_sl0_rf, jw_sl0_scr, List.replicate]) (by simp [jw_sl0_nil, jw_sl0_int, jw_sl0_long, jw_sl0_ref, jw_sl0_rf, jw_sl0_scr]) (l_X9_markedLine hq)


/-! X9_open -/
noncomputable def g_X9_open_b68 (k68 : jw_H → Nat → Int32 → Int32 → Int32 → Option (Int32 × jw_H)) (h : jw_H) (x0 : Nat) (x1 : Int32) (x2 : Int32) (x4 : Int32) : Option (Int32 × jw_H) :=
 if (x1 + x2) ≤ x4 then (some ((1 : Int32), h))
 else ((jw_gR h 9 (some x0) 1).bind fun v2 =>
 (jw_gI h 9 (some x0) 4).bind fun v3 =>
 (jw_si h 20 v2 (x4 - (1 : Int32)) v3).bind fun h4 =>
 (jw_gI h4 9 (some x0) 4).bind fun v5 =>
 (jw_pI h4 9 (some x0) 4 (v5 + (1 : Int32))).bind fun h6 =>
 k68 h6 x0 x1 x2 (x4 + (1 : Int32)))

noncomputable def f_X9_open_b68 (n : Nat) : jw_H → Nat → Int32 → Int32 → Int32 → Option (Int32 × jw_H) :=
 Nat.rec (fun _ _ _ _ _ => none) (fun _ k68 => g_X9_open_b68 k68) n

noncomputable def f_X9_open (h : jw_H) (x0 : Nat) (x1 : Int32) (x2 : Int32) : Option (Int32 × jw_H) :=
 (jw_gR h 9 (some x0) 0).bind fun v1 =>
 (jw_gI h 7 v1 2).bind fun v2 =>
 (jw_gR h 9 (some x0) 0).bind fun v3 =>
 (jw_rc h 7 v3).bind fun a4 =>
 jw_b2 (f_X7_open h a4 x1 x2) fun w6 h5 =>
 if w6 = 0 then (some ((0 : Int32), h5))
 else (if ((v2 - x1) + (1 : Int32)) < 0 then (some ((0 : Int32), h5))
 else ((jw_gR h5 9 (some x0) 1).bind fun v9 =>
 (jw_ln h5 v9).bind fun v10 =>
 if (((x1 - (1 : Int32)) + x2) + ((v2 - x1) + (1 : Int32))) ≤ v10 then ((jw_gR h5 9 (some x0) 1).bind fun v12 =>
 (jw_gR h5 9 (some x0) 1).bind fun v13 =>
 (jw_cp h5 20 v12 (x1 - (1 : Int32)) v13 ((x1 - (1 : Int32)) + x2) ((v2 - x1) + (1 : Int32))).bind fun h14 =>
 f_X9_open_b68  jw_FU h14 x0 x1 x2 x1)
 else (some ((0 : Int32), h5))))

set_option maxRecDepth 100000 in
set_option maxHeartbeats 4000000 in
theorem l_X9_open_b68g {hi : jw_H} {k68 : jw_H → Nat → Int32 → Int32 → Int32 → Option (Int32 × jw_H)} (hk68 : ∀ (h : jw_H) (x0 : Nat) (x1 : Int32) (x2 : Int32) (x4 : Int32) (r : Int32) (h' : jw_H), k68 h x0 x1 x2 x4 = some (r, h') → jw_E 2 uX9_open hi 68 [some (.ref x0), some (.int x1), some (.int x2), none, some (.int x4)] [] h (.inl (some (.int r))) h') {h : jw_H} {x0 : Nat} {x1 : Int32} {x2 : Int32} {x4 : Int32} {r : Int32} {h' : jw_H} (hq : g_X9_open_b68 k68 h x0 x1 x2 x4 = some (r, h')) : jw_E 2 uX9_open hi 68 [some (.ref x0), some (.int x1), some (.int x2), none, some (.int x4)] [] h (.inl (some (.int r))) h' := by
  unfold g_X9_open_b68 at hq
  refine jw_iload dX9_open_68 rfl ?_
  refine jw_iload_n dX9_open_70 rfl ?_
  refine jw_iload_n dX9_open_71 rfl ?_
  refine jw_iadd dX9_open_72 ?_
  rcases jw_if hq with ⟨c1, hq⟩ | ⟨c1, hq⟩
  · refine jw_icmp_ge_t (tgt := 105) dX9_open_73 (by decide) c1 ?_
    refine jw_iconst dX9_open_105 (v := (1 : Int32)) (by decide) ?_
    cases hq
    exact jw_iret (ty := .boolean) dX9_open_106 rfl rfl
  · refine jw_icmp_ge_f (tgt := 105) dX9_open_73 (by decide) c1 ?_
    refine jw_aload_n dX9_open_76 (o := (some x0)) rfl ?_
    obtain ⟨v2, ev2, hq⟩ := Option.bind_eq_some_iff.mp hq
    refine jw_getR (o := (some x0)) dX9_open_77 ev2 fl_X9_20 rfl ?_
    refine jw_iload dX9_open_80 rfl ?_
    refine jw_iconst dX9_open_82 (v := (1 : Int32)) (by decide) ?_
    refine jw_isub dX9_open_83 ?_
    refine jw_aload_n dX9_open_84 (o := (some x0)) rfl ?_
    obtain ⟨v3, ev3, hq⟩ := Option.bind_eq_some_iff.mp hq
    refine jw_getI (o := (some x0)) dX9_open_85 ev3 fl_X9_55 rfl ?_
    obtain ⟨h4, eh4, hq⟩ := Option.bind_eq_some_iff.mp hq
    refine jw_iast (o := v2) dX9_open_88 eh4 ?_
    refine jw_aload_n dX9_open_89 (o := (some x0)) rfl ?_
    refine jw_dup dX9_open_90 rfl ?_
    obtain ⟨v5, ev5, hq⟩ := Option.bind_eq_some_iff.mp hq
    refine jw_getI (o := (some x0)) dX9_open_91 ev5 fl_X9_55 rfl ?_
    refine jw_iconst dX9_open_94 (v := (1 : Int32)) (by decide) ?_
    refine jw_iadd dX9_open_95 ?_
    obtain ⟨h6, eh6, hq⟩ := Option.bind_eq_some_iff.mp hq
    refine jw_putI (o := (some x0)) dX9_open_96 eh6 fl_X9_55 rfl rfl ?_
    refine jw_iinc (L' := [some (.ref x0), some (.int x1), some (.int x2), none, some (.int (x4 + (1 : Int32)))]) dX9_open_99 rfl (v := (1 : Int32)) (by decide) (Nat.le_of_ble_eq_true rfl) rfl ?_
    refine jw_goto (tgt := 68) dX9_open_102 (by decide) ?_
    exact hk68 _ _ _ _ _ _ _ hq

theorem l_X9_open_b68 {hi : jw_H} : ∀ (n : Nat) (h : jw_H) (x0 : Nat) (x1 : Int32) (x2 : Int32) (x4 : Int32) (r : Int32) (h' : jw_H), f_X9_open_b68  n h x0 x1 x2 x4 = some (r, h') → jw_E 2 uX9_open hi 68 [some (.ref x0), some (.int x1), some (.int x2), none, some (.int x4)] [] h (.inl (some (.int r))) h' := by
  intro n
  induction n with
  | zero => intro h x0 x1 x2 x4 r h' hq; exact nomatch hq
  | succ n ih => intro h x0 x1 x2 x4 r h' hq; exact l_X9_open_b68g ih hq

set_option maxRecDepth 100000 in
set_option maxHeartbeats 4000000 in
theorem l_X9_open {hi : jw_H} {h : jw_H} {x0 : Nat} {x1 : Int32} {x2 : Int32} {r : Int32} {h' : jw_H} (hq : f_X9_open  h x0 x1 x2 = some (r, h')) : jw_E 2 uX9_open hi 0 [some (.ref x0), some (.int x1), some (.int x2), none, none] [] h (.inl (some (.int r))) h' := by
  unfold f_X9_open at hq
  refine jw_aload_n dX9_open_0 (o := (some x0)) rfl ?_
  obtain ⟨v1, ev1, hq⟩ := Option.bind_eq_some_iff.mp hq
  refine jw_getR (o := (some x0)) dX9_open_1 ev1 fl_X9_14 rfl ?_
  obtain ⟨v2, ev2, hq⟩ := Option.bind_eq_some_iff.mp hq
  refine jw_getI (o := v1) dX9_open_4 ev2 fl_X9_41 rfl ?_
  refine jw_iload_n dX9_open_7 rfl ?_
  refine jw_isub dX9_open_8 ?_
  refine jw_iconst dX9_open_9 (v := (1 : Int32)) (by decide) ?_
  refine jw_iadd dX9_open_10 ?_
  refine jw_istore_n (L' := [some (.ref x0), some (.int x1), some (.int x2), some (.int ((v2 - x1) + (1 : Int32))), none]) dX9_open_11 (Nat.le_of_ble_eq_true rfl) rfl ?_
  refine jw_aload_n dX9_open_12 (o := (some x0)) rfl ?_
  obtain ⟨v3, ev3, hq⟩ := Option.bind_eq_some_iff.mp hq
  refine jw_getR (o := (some x0)) dX9_open_13 ev3 fl_X9_14 rfl ?_
  refine jw_iload_n dX9_open_16 rfl ?_
  refine jw_iload_n dX9_open_17 rfl ?_
  obtain ⟨a4, ea4, hq⟩ := Option.bind_eq_some_iff.mp hq
  obtain ⟨eoa4, eta4⟩ := jw_rc_spec ea4
  obtain ⟨w6, h5, ew6, hq⟩ := jw_b2_spec hq
  refine jw_callV (As := [.int x1, .int x2]) (S := []) (a := a4) (v := some (.int w6)) dX9_open_18 mt_X7_open in_X7_open se_X7_open lk_X9_51 (c_X7_open ew6) eta4 (by decide) rfl rfl (by decide) (Nat.le_of_ble_eq_true rfl) (by cases eoa4; rfl) ?_
  rcases jw_if hq with ⟨c7, hq⟩ | ⟨c7, hq⟩
  · refine jw_if_eq_t (tgt := 43) dX9_open_21 (by decide) c7 ?_
    refine jw_iconst dX9_open_43 (v := (0 : Int32)) (by decide) ?_
    cases hq
    exact jw_iret (ty := .boolean) dX9_open_44 rfl rfl
  · refine jw_if_eq_f (tgt := 43) dX9_open_21 (by decide) c7 ?_
    refine jw_iload_n dX9_open_24 rfl ?_
    rcases jw_if hq with ⟨c8, hq⟩ | ⟨c8, hq⟩
    · refine jw_if_lt_t (tgt := 43) dX9_open_25 (by decide) c8 ?_
      refine jw_iconst dX9_open_43 (v := (0 : Int32)) (by decide) ?_
      cases hq
      exact jw_iret (ty := .boolean) dX9_open_44 rfl rfl
    · refine jw_if_lt_f (tgt := 43) dX9_open_25 (by decide) c8 ?_
      refine jw_iload_n dX9_open_28 rfl ?_
      refine jw_iconst dX9_open_29 (v := (1 : Int32)) (by decide) ?_
      refine jw_isub dX9_open_30 ?_
      refine jw_iload_n dX9_open_31 rfl ?_
      refine jw_iadd dX9_open_32 ?_
      refine jw_iload_n dX9_open_33 rfl ?_
      refine jw_iadd dX9_open_34 ?_
      refine jw_aload_n dX9_open_35 (o := (some x0)) rfl ?_
      obtain ⟨v9, ev9, hq⟩ := Option.bind_eq_some_iff.mp hq
      refine jw_getR (o := (some x0)) dX9_open_36 ev9 fl_X9_20 rfl ?_
      obtain ⟨v10, ev10, hq⟩ := Option.bind_eq_some_iff.mp hq
      refine jw_alen (o := v9) dX9_open_39 ev10 ?_
      rcases jw_if hq with ⟨c11, hq⟩ | ⟨c11, hq⟩
      · refine jw_icmp_le_t (tgt := 45) dX9_open_40 (by decide) c11 ?_
        refine jw_aload_n dX9_open_45 (o := (some x0)) rfl ?_
        obtain ⟨v12, ev12, hq⟩ := Option.bind_eq_some_iff.mp hq
        refine jw_getR (o := (some x0)) dX9_open_46 ev12 fl_X9_20 rfl ?_
        refine jw_iload_n dX9_open_49 rfl ?_
        refine jw_iconst dX9_open_50 (v := (1 : Int32)) (by decide) ?_
        refine jw_isub dX9_open_51 ?_
        refine jw_aload_n dX9_open_52 (o := (some x0)) rfl ?_
        obtain ⟨v13, ev13, hq⟩ := Option.bind_eq_some_iff.mp hq
        refine jw_getR (o := (some x0)) dX9_open_53 ev13 fl_X9_20 rfl ?_
        refine jw_iload_n dX9_open_56 rfl ?_
        refine jw_iconst dX9_open_57 (v := (1 : Int32)) (by decide) ?_
        refine jw_isub dX9_open_58 ?_
        refine jw_iload_n dX9_open_59 rfl ?_
        refine jw_iadd dX9_open_60 ?_
        refine jw_iload_n dX9_open_61 rfl ?_
        obtain ⟨h14, eh14, hq⟩ := Option.bind_eq_some_iff.mp hq
        refine jw_acp (o1 := v12) (o2 := v13) (t := 20) dX9_open_62 (by decide) al_X9_31 an_0 as_0 ai_0 (by decide) (Nat.le_of_ble_eq_true rfl) eh14 ?_
        refine jw_iload_n dX9_open_65 rfl ?_
        refine jw_istore (L' := [some (.ref x0), some (.int x1), some (.int x2), some (.int ((v2 - x1) + (1 : Int32))), some (.int x1)]) dX9_open_66 (Nat.le_of_ble_eq_true rfl) rfl ?_
        refine jw_forget [true, true, true, false, true] (L' := [some (.ref x0), some (.int x1), some (.int x2), none, some (.int x1)]) rfl ?_
        exact l_X9_open_b68  jw_FU _ _ _ _ _ _ _ hq
      · refine jw_icmp_le_f (tgt := 45) dX9_open_40 (by decide) c11 ?_
        refine jw_iconst dX9_open_43 (v := (0 : Int32)) (by decide) ?_
        cases hq
        exact jw_iret (ty := .boolean) dX9_open_44 rfl rfl

theorem c_X9_open {h : jw_H} {x0 : Nat} {x1 : Int32} {x2 : Int32} {r : Int32} {h' : jw_H} (hq : f_X9_open h x0 x1 x2 = some (r, h')) : jw_Con (Cond.code yX9_open cX9_open 5 (some .boolean)) yX9_open 2 [.ref x0, .int x1, .int x2] h (.inl (some (.int r))) h' :=
  jw_con false (plainFor_of_name (by decide +kernel)) (fun z => nomatch z) (by simp [jw_ent, jw_sl0_nil, jw_sl0_int, jw_sl0_long, jw_sl0_ref, jw_sl0_rf, jw_sl0_scr, List.replicate]) (by simp [jw_sl0_nil, jw_sl0_int, jw_sl0_long, jw_sl0_ref, jw_sl0_rf, jw_sl0_scr]) (l_X9_open hq)


/-! X9_cut -/
noncomputable def g_X9_cut_b46 (k46 : jw_H → Nat → Int32 → Int32 → Int32 → Int32 → Option (Unit × jw_H)) (h : jw_H) (x0 : Nat) (x1 : Int32) (x2 : Int32) (x3 : Int32) (x4 : Int32) : Option (Unit × jw_H) :=
 if (x1 + x2) ≤ x4 then ((jw_gR h 9 (some x0) 1).bind fun v2 =>
 (jw_gR h 9 (some x0) 1).bind fun v3 =>
 (jw_cp h 20 v2 ((x1 - (1 : Int32)) + x2) v3 (x1 - (1 : Int32)) x3).bind fun h4 =>
 (jw_gR h4 9 (some x0) 0).bind fun v5 =>
 (jw_rc h4 7 v5).bind fun a6 =>
 jw_b2 (f_X7_close h4 a6 x1 x2) fun w8 h7 =>
 some ((), h7))
 else ((jw_gR h 9 (some x0) 1).bind fun v9 =>
 (jw_ai h 20 v9 (x4 - (1 : Int32))).bind fun v10 =>
 (jw_rc h 9 (some x0)).bind fun a11 =>
 jw_b2 (f_X9_dropMarks h a11 v10) fun w13 h12 =>
 k46 h12 x0 x1 x2 x3 (x4 + (1 : Int32)))

noncomputable def f_X9_cut_b46 (n : Nat) : jw_H → Nat → Int32 → Int32 → Int32 → Int32 → Option (Unit × jw_H) :=
 Nat.rec (fun _ _ _ _ _ _ => none) (fun _ k46 => g_X9_cut_b46 k46) n

noncomputable def f_X9_cut (h : jw_H) (x0 : Nat) (x1 : Int32) (x2 : Int32) : Option (Unit × jw_H) :=
 (jw_gR h 9 (some x0) 0).bind fun v1 =>
 (jw_gI h 7 v1 2).bind fun v2 =>
 if x1 < (1 : Int32) then (some ((), h))
 else (if x2 < 0 then (some ((), h))
 else (if (((v2 - x1) + (1 : Int32)) - x2) < 0 then (some ((), h))
 else ((jw_gR h 9 (some x0) 0).bind fun v6 =>
 (jw_gI h 7 v6 2).bind fun v7 =>
 (jw_gR h 9 (some x0) 1).bind fun v8 =>
 (jw_ln h v8).bind fun v9 =>
 if v7 ≤ v9 then (f_X9_cut_b46  jw_FU h x0 x1 x2 (((v2 - x1) + (1 : Int32)) - x2) x1)
 else (some ((), h)))))

set_option maxRecDepth 100000 in
set_option maxHeartbeats 4000000 in
theorem l_X9_cut_b46g {hi : jw_H} {k46 : jw_H → Nat → Int32 → Int32 → Int32 → Int32 → Option (Unit × jw_H)} (hk46 : ∀ (h : jw_H) (x0 : Nat) (x1 : Int32) (x2 : Int32) (x3 : Int32) (x4 : Int32) (r : Unit) (h' : jw_H), k46 h x0 x1 x2 x3 x4 = some (r, h') → jw_E 2 uX9_cut hi 46 [some (.ref x0), some (.int x1), some (.int x2), some (.int x3), some (.int x4)] [] h (.inl none) h') {h : jw_H} {x0 : Nat} {x1 : Int32} {x2 : Int32} {x3 : Int32} {x4 : Int32} {r : Unit} {h' : jw_H} (hq : g_X9_cut_b46 k46 h x0 x1 x2 x3 x4 = some (r, h')) : jw_E 2 uX9_cut hi 46 [some (.ref x0), some (.int x1), some (.int x2), some (.int x3), some (.int x4)] [] h (.inl none) h' := by
  unfold g_X9_cut_b46 at hq
  refine jw_iload dX9_cut_46 rfl ?_
  refine jw_iload_n dX9_cut_48 rfl ?_
  refine jw_iload_n dX9_cut_49 rfl ?_
  refine jw_iadd dX9_cut_50 ?_
  rcases jw_if hq with ⟨c1, hq⟩ | ⟨c1, hq⟩
  · refine jw_icmp_ge_t (tgt := 73) dX9_cut_51 (by decide) c1 ?_
    refine jw_aload_n dX9_cut_73 (o := (some x0)) rfl ?_
    obtain ⟨v2, ev2, hq⟩ := Option.bind_eq_some_iff.mp hq
    refine jw_getR (o := (some x0)) dX9_cut_74 ev2 fl_X9_20 rfl ?_
    refine jw_iload_n dX9_cut_77 rfl ?_
    refine jw_iconst dX9_cut_78 (v := (1 : Int32)) (by decide) ?_
    refine jw_isub dX9_cut_79 ?_
    refine jw_iload_n dX9_cut_80 rfl ?_
    refine jw_iadd dX9_cut_81 ?_
    refine jw_aload_n dX9_cut_82 (o := (some x0)) rfl ?_
    obtain ⟨v3, ev3, hq⟩ := Option.bind_eq_some_iff.mp hq
    refine jw_getR (o := (some x0)) dX9_cut_83 ev3 fl_X9_20 rfl ?_
    refine jw_iload_n dX9_cut_86 rfl ?_
    refine jw_iconst dX9_cut_87 (v := (1 : Int32)) (by decide) ?_
    refine jw_isub dX9_cut_88 ?_
    refine jw_iload_n dX9_cut_89 rfl ?_
    obtain ⟨h4, eh4, hq⟩ := Option.bind_eq_some_iff.mp hq
    refine jw_acp (o1 := v2) (o2 := v3) (t := 20) dX9_cut_90 (by decide) al_X9_31 an_0 as_0 ai_0 (by decide) (Nat.le_of_ble_eq_true rfl) eh4 ?_
    refine jw_aload_n dX9_cut_93 (o := (some x0)) rfl ?_
    obtain ⟨v5, ev5, hq⟩ := Option.bind_eq_some_iff.mp hq
    refine jw_getR (o := (some x0)) dX9_cut_94 ev5 fl_X9_14 rfl ?_
    refine jw_iload_n dX9_cut_97 rfl ?_
    refine jw_iload_n dX9_cut_98 rfl ?_
    obtain ⟨a6, ea6, hq⟩ := Option.bind_eq_some_iff.mp hq
    obtain ⟨eoa6, eta6⟩ := jw_rc_spec ea6
    obtain ⟨w8, h7, ew8, hq⟩ := jw_b2_spec hq
    refine jw_callV (As := [.int x1, .int x2]) (S := []) (a := a6) (v := none) dX9_cut_99 mt_X7_close in_X7_close se_X7_close lk_X9_61 (c_X7_close ew8) eta6 (by decide) rfl rfl (by decide) (Nat.le_of_ble_eq_true rfl) (by cases eoa6; rfl) ?_
    cases hq
    exact jw_vret dX9_cut_102 rfl
  · refine jw_icmp_ge_f (tgt := 73) dX9_cut_51 (by decide) c1 ?_
    refine jw_aload_n dX9_cut_54 (o := (some x0)) rfl ?_
    refine jw_aload_n dX9_cut_55 (o := (some x0)) rfl ?_
    obtain ⟨v9, ev9, hq⟩ := Option.bind_eq_some_iff.mp hq
    refine jw_getR (o := (some x0)) dX9_cut_56 ev9 fl_X9_20 rfl ?_
    refine jw_iload dX9_cut_59 rfl ?_
    refine jw_iconst dX9_cut_61 (v := (1 : Int32)) (by decide) ?_
    refine jw_isub dX9_cut_62 ?_
    obtain ⟨v10, ev10, hq⟩ := Option.bind_eq_some_iff.mp hq
    refine jw_iald (o := v9) dX9_cut_63 ev10 ?_
    obtain ⟨a11, ea11, hq⟩ := Option.bind_eq_some_iff.mp hq
    obtain ⟨eoa11, eta11⟩ := jw_rc_spec ea11
    obtain ⟨w13, h12, ew13, hq⟩ := jw_b2_spec hq
    refine jw_callV (As := [.int v10]) (S := []) (a := a11) (v := none) dX9_cut_64 mt_X9_dropMarks in_X9_dropMarks se_X9_dropMarks lk_X9_58 (c_X9_dropMarks ew13) eta11 (by decide) rfl rfl (by decide) (Nat.le_of_ble_eq_true rfl) (by cases eoa11; rfl) ?_
    refine jw_iinc (L' := [some (.ref x0), some (.int x1), some (.int x2), some (.int x3), some (.int (x4 + (1 : Int32)))]) dX9_cut_67 rfl (v := (1 : Int32)) (by decide) (Nat.le_of_ble_eq_true rfl) rfl ?_
    refine jw_goto (tgt := 46) dX9_cut_70 (by decide) ?_
    exact hk46 _ _ _ _ _ _ _ _ hq

theorem l_X9_cut_b46 {hi : jw_H} : ∀ (n : Nat) (h : jw_H) (x0 : Nat) (x1 : Int32) (x2 : Int32) (x3 : Int32) (x4 : Int32) (r : Unit) (h' : jw_H), f_X9_cut_b46  n h x0 x1 x2 x3 x4 = some (r, h') → jw_E 2 uX9_cut hi 46 [some (.ref x0), some (.int x1), some (.int x2), some (.int x3), some (.int x4)] [] h (.inl none) h' := by
  intro n
  induction n with
  | zero => intro h x0 x1 x2 x3 x4 r h' hq; exact nomatch hq
  | succ n ih => intro h x0 x1 x2 x3 x4 r h' hq; exact l_X9_cut_b46g ih hq

set_option maxRecDepth 100000 in
set_option maxHeartbeats 4000000 in
theorem l_X9_cut {hi : jw_H} {h : jw_H} {x0 : Nat} {x1 : Int32} {x2 : Int32} {r : Unit} {h' : jw_H} (hq : f_X9_cut  h x0 x1 x2 = some (r, h')) : jw_E 2 uX9_cut hi 0 [some (.ref x0), some (.int x1), some (.int x2), none, none] [] h (.inl none) h' := by
  unfold f_X9_cut at hq
  refine jw_aload_n dX9_cut_0 (o := (some x0)) rfl ?_
  obtain ⟨v1, ev1, hq⟩ := Option.bind_eq_some_iff.mp hq
  refine jw_getR (o := (some x0)) dX9_cut_1 ev1 fl_X9_14 rfl ?_
  obtain ⟨v2, ev2, hq⟩ := Option.bind_eq_some_iff.mp hq
  refine jw_getI (o := v1) dX9_cut_4 ev2 fl_X9_41 rfl ?_
  refine jw_iload_n dX9_cut_7 rfl ?_
  refine jw_isub dX9_cut_8 ?_
  refine jw_iconst dX9_cut_9 (v := (1 : Int32)) (by decide) ?_
  refine jw_iadd dX9_cut_10 ?_
  refine jw_iload_n dX9_cut_11 rfl ?_
  refine jw_isub dX9_cut_12 ?_
  refine jw_istore_n (L' := [some (.ref x0), some (.int x1), some (.int x2), some (.int (((v2 - x1) + (1 : Int32)) - x2)), none]) dX9_cut_13 (Nat.le_of_ble_eq_true rfl) rfl ?_
  refine jw_iload_n dX9_cut_14 rfl ?_
  refine jw_iconst dX9_cut_15 (v := (1 : Int32)) (by decide) ?_
  rcases jw_if hq with ⟨c3, hq⟩ | ⟨c3, hq⟩
  · refine jw_icmp_lt_t (tgt := 42) dX9_cut_16 (by decide) c3 ?_
    cases hq
    exact jw_vret dX9_cut_42 rfl
  · refine jw_icmp_lt_f (tgt := 42) dX9_cut_16 (by decide) c3 ?_
    refine jw_iload_n dX9_cut_19 rfl ?_
    rcases jw_if hq with ⟨c4, hq⟩ | ⟨c4, hq⟩
    · refine jw_if_lt_t (tgt := 42) dX9_cut_20 (by decide) c4 ?_
      cases hq
      exact jw_vret dX9_cut_42 rfl
    · refine jw_if_lt_f (tgt := 42) dX9_cut_20 (by decide) c4 ?_
      refine jw_iload_n dX9_cut_23 rfl ?_
      rcases jw_if hq with ⟨c5, hq⟩ | ⟨c5, hq⟩
      · refine jw_if_lt_t (tgt := 42) dX9_cut_24 (by decide) c5 ?_
        cases hq
        exact jw_vret dX9_cut_42 rfl
      · refine jw_if_lt_f (tgt := 42) dX9_cut_24 (by decide) c5 ?_
        refine jw_aload_n dX9_cut_27 (o := (some x0)) rfl ?_
        obtain ⟨v6, ev6, hq⟩ := Option.bind_eq_some_iff.mp hq
        refine jw_getR (o := (some x0)) dX9_cut_28 ev6 fl_X9_14 rfl ?_
        obtain ⟨v7, ev7, hq⟩ := Option.bind_eq_some_iff.mp hq
        refine jw_getI (o := v6) dX9_cut_31 ev7 fl_X9_41 rfl ?_
        refine jw_aload_n dX9_cut_34 (o := (some x0)) rfl ?_
        obtain ⟨v8, ev8, hq⟩ := Option.bind_eq_some_iff.mp hq
        refine jw_getR (o := (some x0)) dX9_cut_35 ev8 fl_X9_20 rfl ?_
        obtain ⟨v9, ev9, hq⟩ := Option.bind_eq_some_iff.mp hq
        refine jw_alen (o := v8) dX9_cut_38 ev9 ?_
        rcases jw_if hq with ⟨c10, hq⟩ | ⟨c10, hq⟩
        · refine jw_icmp_le_t (tgt := 43) dX9_cut_39 (by decide) c10 ?_
          refine jw_iload_n dX9_cut_43 rfl ?_
          refine jw_istore (L' := [some (.ref x0), some (.int x1), some (.int x2), some (.int (((v2 - x1) + (1 : Int32)) - x2)), some (.int x1)]) dX9_cut_44 (Nat.le_of_ble_eq_true rfl) rfl ?_
          exact l_X9_cut_b46  jw_FU _ _ _ _ _ _ _ _ hq
        · refine jw_icmp_le_f (tgt := 43) dX9_cut_39 (by decide) c10 ?_
          cases hq
          exact jw_vret dX9_cut_42 rfl

theorem c_X9_cut {h : jw_H} {x0 : Nat} {x1 : Int32} {x2 : Int32} {r : Unit} {h' : jw_H} (hq : f_X9_cut h x0 x1 x2 = some (r, h')) : jw_Con (Cond.code yX9_cut cX9_cut 5 none) yX9_cut 2 [.ref x0, .int x1, .int x2] h (.inl none) h' :=
  jw_con false (plainFor_of_name (by decide +kernel)) (fun z => nomatch z) (by simp [jw_ent, jw_sl0_nil, jw_sl0_int, jw_sl0_long, jw_sl0_ref, jw_sl0_rf, jw_sl0_scr, List.replicate]) (by simp [jw_sl0_nil, jw_sl0_int, jw_sl0_long, jw_sl0_ref, jw_sl0_rf, jw_sl0_scr]) (l_X9_cut hq)


/-! X9_arrange -/
noncomputable def g_X9_arrange_b7 (k7 : jw_H → Nat → Option Nat → Option Nat → Int32 → Option (Unit × jw_H)) (h : jw_H) (x0 : Nat) (x1 : Option Nat) (x2 : Option Nat) (x3 : Int32) : Option (Unit × jw_H) :=
 (jw_gR h 9 (some x0) 0).bind fun v1 =>
 (jw_gI h 7 v1 2).bind fun v2 =>
 if v2 < x3 then (some ((), h))
 else ((jw_ln h x1).bind fun v4 =>
 if v4 < x3 then (some ((), h))
 else ((jw_gR h 9 (some x0) 1).bind fun v6 =>
 (jw_ln h v6).bind fun v7 =>
 if v7 < x3 then (some ((), h))
 else ((jw_ai h 20 x1 (x3 - (1 : Int32))).bind fun v9 =>
 (jw_gR h 9 (some x0) 0).bind fun v10 =>
 (jw_gR h 9 x2 0).bind fun v11 =>
 (jw_rc h 7 v10).bind fun a12 =>
 jw_b2 (f_X7_take h a12 x3 v11 v9) fun w14 h13 =>
 (jw_gR h13 9 (some x0) 1).bind fun v15 =>
 (jw_rc h13 9 x2).bind fun a16 =>
 jw_b2 (f_X9_idOf h13 a16 v9) fun w18 h17 =>
 (jw_si h17 20 v15 (x3 - (1 : Int32)) w18).bind fun h19 =>
 k7 h19 x0 x1 x2 (x3 + (1 : Int32)))))

noncomputable def f_X9_arrange_b7 (n : Nat) : jw_H → Nat → Option Nat → Option Nat → Int32 → Option (Unit × jw_H) :=
 Nat.rec (fun _ _ _ _ _ => none) (fun _ k7 => g_X9_arrange_b7 k7) n

noncomputable def f_X9_arrange (h : jw_H) (x0 : Nat) (x1 : Option Nat) (x2 : Option Nat) : Option (Unit × jw_H) :=
 (jw_rc h 9 x2).bind fun a1 =>
 jw_b2 (f_X9_copy h a1 (some x0)) fun w3 h2 =>
 f_X9_arrange_b7  jw_FU h2 x0 x1 x2 (1 : Int32)

set_option maxRecDepth 100000 in
set_option maxHeartbeats 4000000 in
theorem l_X9_arrange_b7g {hi : jw_H} {k7 : jw_H → Nat → Option Nat → Option Nat → Int32 → Option (Unit × jw_H)} (hk7 : ∀ (h : jw_H) (x0 : Nat) (x1 : Option Nat) (x2 : Option Nat) (x3 : Int32) (r : Unit) (h' : jw_H), k7 h x0 x1 x2 x3 = some (r, h') → jw_E 3 uX9_arrange hi 7 [some (.ref x0), some (va_rf x1), some (va_rf x2), some (.int x3), none] [] h (.inl none) h') {h : jw_H} {x0 : Nat} {x1 : Option Nat} {x2 : Option Nat} {x3 : Int32} {r : Unit} {h' : jw_H} (hq : g_X9_arrange_b7 k7 h x0 x1 x2 x3 = some (r, h')) : jw_E 3 uX9_arrange hi 7 [some (.ref x0), some (va_rf x1), some (va_rf x2), some (.int x3), none] [] h (.inl none) h' := by
  unfold g_X9_arrange_b7 at hq
  refine jw_iload_n dX9_arrange_7 rfl ?_
  refine jw_aload_n dX9_arrange_8 (o := (some x0)) rfl ?_
  obtain ⟨v1, ev1, hq⟩ := Option.bind_eq_some_iff.mp hq
  refine jw_getR (o := (some x0)) dX9_arrange_9 ev1 fl_X9_14 rfl ?_
  obtain ⟨v2, ev2, hq⟩ := Option.bind_eq_some_iff.mp hq
  refine jw_getI (o := v1) dX9_arrange_12 ev2 fl_X9_41 rfl ?_
  rcases jw_if hq with ⟨c3, hq⟩ | ⟨c3, hq⟩
  · refine jw_icmp_gt_t (tgt := 74) dX9_arrange_15 (by decide) c3 ?_
    cases hq
    exact jw_vret dX9_arrange_74 rfl
  · refine jw_icmp_gt_f (tgt := 74) dX9_arrange_15 (by decide) c3 ?_
    refine jw_iload_n dX9_arrange_18 rfl ?_
    refine jw_aload_n dX9_arrange_19 (o := x1) rfl ?_
    obtain ⟨v4, ev4, hq⟩ := Option.bind_eq_some_iff.mp hq
    refine jw_alen (o := x1) dX9_arrange_20 ev4 ?_
    rcases jw_if hq with ⟨c5, hq⟩ | ⟨c5, hq⟩
    · refine jw_icmp_gt_t (tgt := 74) dX9_arrange_21 (by decide) c5 ?_
      cases hq
      exact jw_vret dX9_arrange_74 rfl
    · refine jw_icmp_gt_f (tgt := 74) dX9_arrange_21 (by decide) c5 ?_
      refine jw_iload_n dX9_arrange_24 rfl ?_
      refine jw_aload_n dX9_arrange_25 (o := (some x0)) rfl ?_
      obtain ⟨v6, ev6, hq⟩ := Option.bind_eq_some_iff.mp hq
      refine jw_getR (o := (some x0)) dX9_arrange_26 ev6 fl_X9_20 rfl ?_
      obtain ⟨v7, ev7, hq⟩ := Option.bind_eq_some_iff.mp hq
      refine jw_alen (o := v6) dX9_arrange_29 ev7 ?_
      rcases jw_if hq with ⟨c8, hq⟩ | ⟨c8, hq⟩
      · refine jw_icmp_gt_t (tgt := 74) dX9_arrange_30 (by decide) c8 ?_
        cases hq
        exact jw_vret dX9_arrange_74 rfl
      · refine jw_icmp_gt_f (tgt := 74) dX9_arrange_30 (by decide) c8 ?_
        refine jw_aload_n dX9_arrange_33 (o := x1) rfl ?_
        refine jw_iload_n dX9_arrange_34 rfl ?_
        refine jw_iconst dX9_arrange_35 (v := (1 : Int32)) (by decide) ?_
        refine jw_isub dX9_arrange_36 ?_
        obtain ⟨v9, ev9, hq⟩ := Option.bind_eq_some_iff.mp hq
        refine jw_iald (o := x1) dX9_arrange_37 ev9 ?_
        refine jw_istore (L' := [some (.ref x0), some (va_rf x1), some (va_rf x2), some (.int x3), some (.int v9)]) dX9_arrange_38 (Nat.le_of_ble_eq_true rfl) rfl ?_
        refine jw_aload_n dX9_arrange_40 (o := (some x0)) rfl ?_
        obtain ⟨v10, ev10, hq⟩ := Option.bind_eq_some_iff.mp hq
        refine jw_getR (o := (some x0)) dX9_arrange_41 ev10 fl_X9_14 rfl ?_
        refine jw_iload_n dX9_arrange_44 rfl ?_
        refine jw_aload_n dX9_arrange_45 (o := x2) rfl ?_
        obtain ⟨v11, ev11, hq⟩ := Option.bind_eq_some_iff.mp hq
        refine jw_getR (o := x2) dX9_arrange_46 ev11 fl_X9_14 rfl ?_
        refine jw_iload dX9_arrange_49 rfl ?_
        obtain ⟨a12, ea12, hq⟩ := Option.bind_eq_some_iff.mp hq
        obtain ⟨eoa12, eta12⟩ := jw_rc_spec ea12
        obtain ⟨w14, h13, ew14, hq⟩ := jw_b2_spec hq
        refine jw_callV (As := [.int x3, va_rf v11, .int v9]) (S := []) (a := a12) (v := none) dX9_arrange_51 mt_X7_take in_X7_take se_X7_take lk_X9_72 (c_X7_take ew14) eta12 (by decide) rfl rfl (by decide) (Nat.le_of_ble_eq_true rfl) (by cases eoa12; rfl) ?_
        refine jw_aload_n dX9_arrange_54 (o := (some x0)) rfl ?_
        obtain ⟨v15, ev15, hq⟩ := Option.bind_eq_some_iff.mp hq
        refine jw_getR (o := (some x0)) dX9_arrange_55 ev15 fl_X9_20 rfl ?_
        refine jw_iload_n dX9_arrange_58 rfl ?_
        refine jw_iconst dX9_arrange_59 (v := (1 : Int32)) (by decide) ?_
        refine jw_isub dX9_arrange_60 ?_
        refine jw_aload_n dX9_arrange_61 (o := x2) rfl ?_
        refine jw_iload dX9_arrange_62 rfl ?_
        obtain ⟨a16, ea16, hq⟩ := Option.bind_eq_some_iff.mp hq
        obtain ⟨eoa16, eta16⟩ := jw_rc_spec ea16
        obtain ⟨w18, h17, ew18, hq⟩ := jw_b2_spec hq
        refine jw_callV (As := [.int v9]) (S := [.int (x3 - (1 : Int32)), va_rf v15]) (a := a16) (v := some (.int w18)) dX9_arrange_64 mt_X9_idOf in_X9_idOf se_X9_idOf lk_X9_76 (c_X9_idOf ew18) eta16 (by decide) rfl rfl (by decide) (by simp only [List.map_cons, List.map_nil, List.sum_cons, List.sum_nil, jw_cat_rf, jw_cat_i, jw_cat_l, jw_cat_a, jw_cat_s] <;> decide) (by cases eoa16; rfl) ?_
        obtain ⟨h19, eh19, hq⟩ := Option.bind_eq_some_iff.mp hq
        refine jw_iast (o := v15) dX9_arrange_67 eh19 ?_
        refine jw_iinc (L' := [some (.ref x0), some (va_rf x1), some (va_rf x2), some (.int (x3 + (1 : Int32))), some (.int v9)]) dX9_arrange_68 rfl (v := (1 : Int32)) (by decide) (Nat.le_of_ble_eq_true rfl) ((jw_st1_of (j := 2) jw_long_rf).trans rfl) ?_
        refine jw_goto (tgt := 7) dX9_arrange_71 (by decide) ?_
        refine jw_forget [true, true, true, true, false] (L' := [some (.ref x0), some (va_rf x1), some (va_rf x2), some (.int (x3 + (1 : Int32))), none]) rfl ?_
        exact hk7 _ _ _ _ _ _ _ hq

theorem l_X9_arrange_b7 {hi : jw_H} : ∀ (n : Nat) (h : jw_H) (x0 : Nat) (x1 : Option Nat) (x2 : Option Nat) (x3 : Int32) (r : Unit) (h' : jw_H), f_X9_arrange_b7  n h x0 x1 x2 x3 = some (r, h') → jw_E 3 uX9_arrange hi 7 [some (.ref x0), some (va_rf x1), some (va_rf x2), some (.int x3), none] [] h (.inl none) h' := by
  intro n
  induction n with
  | zero => intro h x0 x1 x2 x3 r h' hq; exact nomatch hq
  | succ n ih => intro h x0 x1 x2 x3 r h' hq; exact l_X9_arrange_b7g ih hq

set_option maxRecDepth 100000 in
set_option maxHeartbeats 4000000 in
theorem l_X9_arrange {hi : jw_H} {h : jw_H} {x0 : Nat} {x1 : Option Nat} {x2 : Option Nat} {r : Unit} {h' : jw_H} (hq : f_X9_arrange  h x0 x1 x2 = some (r, h')) : jw_E 3 uX9_arrange hi 0 [some (.ref x0), some (va_rf x1), some (va_rf x2), none, none] [] h (.inl none) h' := by
  unfold f_X9_arrange at hq
  refine jw_aload_n dX9_arrange_0 (o := x2) rfl ?_
  refine jw_aload_n dX9_arrange_1 (o := (some x0)) rfl ?_
  obtain ⟨a1, ea1, hq⟩ := Option.bind_eq_some_iff.mp hq
  obtain ⟨eoa1, eta1⟩ := jw_rc_spec ea1
  obtain ⟨w3, h2, ew3, hq⟩ := jw_b2_spec hq
  refine jw_callV (As := [va_rf (some x0)]) (S := []) (a := a1) (v := none) dX9_arrange_2 mt_X9_copy in_X9_copy se_X9_copy lk_X9_69 (c_X9_copy ew3) eta1 (by decide) rfl rfl (by decide) (Nat.le_of_ble_eq_true rfl) (by cases eoa1; rfl) ?_
  refine jw_iconst dX9_arrange_5 (v := (1 : Int32)) (by decide) ?_
  refine jw_istore_n (L' := [some (.ref x0), some (va_rf x1), some (va_rf x2), some (.int (1 : Int32)), none]) dX9_arrange_6 (Nat.le_of_ble_eq_true rfl) ((jw_st1_of (j := 2) jw_long_rf).trans rfl) ?_
  exact l_X9_arrange_b7  jw_FU _ _ _ _ _ _ _ hq

theorem c_X9_arrange {h : jw_H} {x0 : Nat} {x1 : Option Nat} {x2 : Option Nat} {r : Unit} {h' : jw_H} (hq : f_X9_arrange h x0 x1 x2 = some (r, h')) : jw_Con (Cond.code yX9_arrange cX9_arrange 5 none) yX9_arrange 3 [.ref x0, va_rf x1, va_rf x2] h (.inl none) h' :=
  jw_con false (plainFor_of_name (by decide +kernel)) (fun z => nomatch z) (by simp [jw_ent, jw_sl0_nil, jw_sl0_int, jw_sl0_long, jw_sl0_ref, jw_sl0_rf, jw_sl0_scr, List.replicate]) (by simp [jw_sl0_nil, jw_sl0_int, jw_sl0_long, jw_sl0_ref, jw_sl0_rf, jw_sl0_scr]) (l_X9_arrange hq)


/-! X9_nextLot -/
noncomputable def f_X9_nextLot (h : jw_H) (x0 : Nat) (x1 : Int32) : Option (Int32 × jw_H) :=
 some (((((25173 : Int32) * x1) + (13849 : Int32)) &&& (65535 : Int32)), h)

set_option maxRecDepth 100000 in
set_option maxHeartbeats 4000000 in
theorem l_X9_nextLot {hi : jw_H} {h : jw_H} {x0 : Nat} {x1 : Int32} {r : Int32} {h' : jw_H} (hq : f_X9_nextLot  h x0 x1 = some (r, h')) : jw_E 0 uX9_nextLot hi 0 [some (.ref x0), some (.int x1)] [] h (.inl (some (.int r))) h' := by
  unfold f_X9_nextLot at hq
  refine jw_sipush dX9_nextLot_0 (v := (25173 : Int32)) (by decide) ?_
  refine jw_iload_n dX9_nextLot_3 rfl ?_
  refine jw_imul dX9_nextLot_4 ?_
  refine jw_sipush dX9_nextLot_5 (v := (13849 : Int32)) (by decide) ?_
  refine jw_iadd dX9_nextLot_8 ?_
  refine jw_ldc dX9_nextLot_9 cw_X9_87 ?_
  refine jw_iand dX9_nextLot_11 ?_
  cases hq
  exact jw_iret (ty := .int) dX9_nextLot_12 rfl rfl

theorem c_X9_nextLot {h : jw_H} {x0 : Nat} {x1 : Int32} {r : Int32} {h' : jw_H} (hq : f_X9_nextLot h x0 x1 = some (r, h')) : jw_Con (Cond.code yX9_nextLot cX9_nextLot 2 (some .int)) yX9_nextLot 0 [.ref x0, .int x1] h (.inl (some (.int r))) h' :=
  jw_con false (plainFor_of_name (by decide +kernel)) (fun z => nomatch z) (by simp [jw_ent, jw_sl0_nil, jw_sl0_int, jw_sl0_long, jw_sl0_ref, jw_sl0_rf, jw_sl0_scr, List.replicate]) (by simp [jw_sl0_nil, jw_sl0_int, jw_sl0_long, jw_sl0_ref, jw_sl0_rf, jw_sl0_scr]) (l_X9_nextLot hq)


/-! X9_addSample -/
noncomputable def g_X9_addSample_b89 (k38 : jw_H → Nat → Int32 → Option Nat → Int32 → Int32 → Int32 → Int32 → Option (Unit × jw_H)) (h : jw_H) (x0 : Nat) (x2 : Int32) (x3 : Option Nat) (x4 : Int32) (x5 : Int32) (x6 : Int32) (x7 : Int32) (t0 : Option Nat) (t1 : Int32) (t2 : Int32) : Option (Unit × jw_H) :=
 (jw_si h 21 t0 t1 (vp_nar .byte t2.toInt8.toInt32)).bind fun h1 =>
 k38 h1 x0 x2 x3 x4 x5 x6 (x7 + (1 : Int32))

noncomputable def g_X9_addSample_b132 (k11 : jw_H → Nat → Int32 → Option Nat → Int32 → Int32 → Option (Unit × jw_H)) (h : jw_H) (x0 : Nat) (x2 : Int32) (x3 : Option Nat) (x4 : Int32) (x5 : Int32) : Option (Unit × jw_H) :=
 k11 h x0 x2 x3 x4 (x5 + (1 : Int32))

noncomputable def g_X9_addSample_b97 (k11 : jw_H → Nat → Int32 → Option Nat → Int32 → Int32 → Option (Unit × jw_H)) (h : jw_H) (x0 : Nat) (x2 : Int32) (x3 : Option Nat) (x4 : Int32) (x5 : Int32) (x6 : Int32) : Option (Unit × jw_H) :=
 (jw_gR h 9 (some x0) 0).bind fun v1 =>
 (jw_gI h 7 v1 2).bind fun v2 =>
 (jw_rc h 9 (some x0)).bind fun a3 =>
 jw_b2 (f_X9_open h a3 (v2 + (1 : Int32)) (1 : Int32)) fun w5 h4 =>
 if w5 = 0 then (g_X9_addSample_b132 k11 h4 x0 x2 x3 x4 x5)
 else ((jw_gR h4 9 (some x0) 0).bind fun v7 =>
 (jw_gR h4 9 (some x0) 0).bind fun v8 =>
 (jw_gI h4 7 v8 2).bind fun v9 =>
 (jw_rc h4 7 v7).bind fun a10 =>
 jw_b2 (f_X7_write h4 a10 v9 x3 (0 : Int32) x6) fun w12 h11 =>
 g_X9_addSample_b132 k11 h11 x0 x2 x3 x4 x5)

noncomputable def g_X9_addSample_b38 (k11 : jw_H → Nat → Int32 → Option Nat → Int32 → Int32 → Option (Unit × jw_H)) (k38 : jw_H → Nat → Int32 → Option Nat → Int32 → Int32 → Int32 → Int32 → Option (Unit × jw_H)) (h : jw_H) (x0 : Nat) (x2 : Int32) (x3 : Option Nat) (x4 : Int32) (x5 : Int32) (x6 : Int32) (x7 : Int32) : Option (Unit × jw_H) :=
 if x6 ≤ x7 then (g_X9_addSample_b97 k11 h x0 x2 x3 x4 x5 x6)
 else ((jw_ln h x3).bind fun v2 =>
 if v2 ≤ x7 then (g_X9_addSample_b97 k11 h x0 x2 x3 x4 x5 x6)
 else ((jw_rc h 9 (some x0)).bind fun a4 =>
 jw_b2 (f_X9_nextLot h a4 x4) fun w6 h5 =>
 if ((w6 / (16 : Int32)) - (w6 / (16 : Int32)) / (6 : Int32) * (6 : Int32)) = (5 : Int32) then (g_X9_addSample_b89 k38 h5 x0 x2 x3 w6 x5 x6 x7 x3 x7 (32 : Int32))
 else (g_X9_addSample_b89 k38 h5 x0 x2 x3 w6 x5 x6 x7 x3 x7 ((97 : Int32) + ((w6 / (16 : Int32)) - (w6 / (16 : Int32)) / (6 : Int32) * (6 : Int32))))))

noncomputable def f_X9_addSample_b38 (k11 : jw_H → Nat → Int32 → Option Nat → Int32 → Int32 → Option (Unit × jw_H)) (n : Nat) : jw_H → Nat → Int32 → Option Nat → Int32 → Int32 → Int32 → Int32 → Option (Unit × jw_H) :=
 Nat.rec (fun _ _ _ _ _ _ _ _ => none) (fun _ k38 => g_X9_addSample_b38 k11 k38) n

noncomputable def g_X9_addSample_b11 (k11 : jw_H → Nat → Int32 → Option Nat → Int32 → Int32 → Option (Unit × jw_H)) (h : jw_H) (x0 : Nat) (x2 : Int32) (x3 : Option Nat) (x4 : Int32) (x5 : Int32) : Option (Unit × jw_H) :=
 if x2 ≤ x5 then ((jw_gR h 9 (some x0) 0).bind fun v2 =>
 (jw_gI h 7 v2 2).bind fun v3 =>
 (jw_pI h 9 (some x0) 3 v3).bind fun h4 =>
 some ((), h4))
 else ((jw_rc h 9 (some x0)).bind fun a5 =>
 jw_b2 (f_X9_nextLot h a5 x4) fun w7 h6 =>
 f_X9_addSample_b38 k11 jw_FU h6 x0 x2 x3 w7 x5 ((w7 / (16 : Int32)) - (w7 / (16 : Int32)) / (9 : Int32) * (9 : Int32)) (0 : Int32))

noncomputable def f_X9_addSample_b11 (n : Nat) : jw_H → Nat → Int32 → Option Nat → Int32 → Int32 → Option (Unit × jw_H) :=
 Nat.rec (fun _ _ _ _ _ _ => none) (fun _ k11 => g_X9_addSample_b11 k11) n

noncomputable def f_X9_addSample (h : jw_H) (x0 : Nat) (x1 : Int32) (x2 : Int32) : Option (Unit × jw_H) :=
 (jw_mka h 21 (9 : Int32)).bind fun h1 =>
 f_X9_addSample_b11  jw_FU h1 x0 x2 (some (jw_n h)) x1 (0 : Int32)

set_option maxRecDepth 100000 in
set_option maxHeartbeats 4000000 in
theorem l_X9_addSample_b89 {hi : jw_H} {k38 : jw_H → Nat → Int32 → Option Nat → Int32 → Int32 → Int32 → Int32 → Option (Unit × jw_H)} (hk38 : ∀ (h : jw_H) (x0 : Nat) (x2 : Int32) (x3 : Option Nat) (x4 : Int32) (x5 : Int32) (x6 : Int32) (x7 : Int32) (r : Unit) (h' : jw_H), k38 h x0 x2 x3 x4 x5 x6 x7 = some (r, h') → jw_E 3 uX9_addSample hi 38 [some (.ref x0), none, some (.int x2), some (va_rf x3), some (.int x4), some (.int x5), some (.int x6), some (.int x7), none] [] h (.inl none) h') {h : jw_H} {x0 : Nat} {x2 : Int32} {x3 : Option Nat} {x4 : Int32} {x5 : Int32} {x6 : Int32} {x7 : Int32} {t0 : Option Nat} {t1 : Int32} {t2 : Int32} {r : Unit} {h' : jw_H} (hq : g_X9_addSample_b89 k38 h x0 x2 x3 x4 x5 x6 x7 t0 t1 t2 = some (r, h')) : jw_E 3 uX9_addSample hi 89 [some (.ref x0), none, some (.int x2), some (va_rf x3), some (.int x4), some (.int x5), some (.int x6), some (.int x7), none] [.int t2, .int t1, va_rf t0] h (.inl none) h' := by
  unfold g_X9_addSample_b89 at hq
  refine jw_i2b dX9_addSample_89 ?_
  obtain ⟨h1, eh1, hq⟩ := Option.bind_eq_some_iff.mp hq
  refine jw_bast (o := t0) rfl dX9_addSample_90 eh1 ?_
  refine jw_iinc (L' := [some (.ref x0), none, some (.int x2), some (va_rf x3), some (.int x4), some (.int x5), some (.int x6), some (.int (x7 + (1 : Int32))), none]) dX9_addSample_91 rfl (v := (1 : Int32)) (by decide) (Nat.le_of_ble_eq_true rfl) rfl ?_
  refine jw_goto (tgt := 38) dX9_addSample_94 (by decide) ?_
  exact hk38 _ _ _ _ _ _ _ _ _ _ hq

set_option maxRecDepth 100000 in
set_option maxHeartbeats 4000000 in
theorem l_X9_addSample_b132 {hi : jw_H} {k11 : jw_H → Nat → Int32 → Option Nat → Int32 → Int32 → Option (Unit × jw_H)} (hk11 : ∀ (h : jw_H) (x0 : Nat) (x2 : Int32) (x3 : Option Nat) (x4 : Int32) (x5 : Int32) (r : Unit) (h' : jw_H), k11 h x0 x2 x3 x4 x5 = some (r, h') → jw_E 3 uX9_addSample hi 11 [some (.ref x0), none, some (.int x2), some (va_rf x3), some (.int x4), some (.int x5), none, none, none] [] h (.inl none) h') {h : jw_H} {x0 : Nat} {x2 : Int32} {x3 : Option Nat} {x4 : Int32} {x5 : Int32} {r : Unit} {h' : jw_H} (hq : g_X9_addSample_b132 k11 h x0 x2 x3 x4 x5 = some (r, h')) : jw_E 3 uX9_addSample hi 132 [some (.ref x0), none, some (.int x2), some (va_rf x3), some (.int x4), some (.int x5), none, none, none] [] h (.inl none) h' := by
  unfold g_X9_addSample_b132 at hq
  refine jw_iinc (L' := [some (.ref x0), none, some (.int x2), some (va_rf x3), some (.int x4), some (.int (x5 + (1 : Int32))), none, none, none]) dX9_addSample_132 rfl (v := (1 : Int32)) (by decide) (Nat.le_of_ble_eq_true rfl) rfl ?_
  refine jw_goto (tgt := 11) dX9_addSample_135 (by decide) ?_
  exact hk11 _ _ _ _ _ _ _ _ hq

set_option maxRecDepth 100000 in
set_option maxHeartbeats 4000000 in
theorem l_X9_addSample_b97 {hi : jw_H} {k11 : jw_H → Nat → Int32 → Option Nat → Int32 → Int32 → Option (Unit × jw_H)} (hk11 : ∀ (h : jw_H) (x0 : Nat) (x2 : Int32) (x3 : Option Nat) (x4 : Int32) (x5 : Int32) (r : Unit) (h' : jw_H), k11 h x0 x2 x3 x4 x5 = some (r, h') → jw_E 3 uX9_addSample hi 11 [some (.ref x0), none, some (.int x2), some (va_rf x3), some (.int x4), some (.int x5), none, none, none] [] h (.inl none) h') {h : jw_H} {x0 : Nat} {x2 : Int32} {x3 : Option Nat} {x4 : Int32} {x5 : Int32} {x6 : Int32} {r : Unit} {h' : jw_H} (hq : g_X9_addSample_b97 k11 h x0 x2 x3 x4 x5 x6 = some (r, h')) : jw_E 3 uX9_addSample hi 97 [some (.ref x0), none, some (.int x2), some (va_rf x3), some (.int x4), some (.int x5), some (.int x6), none, none] [] h (.inl none) h' := by
  unfold g_X9_addSample_b97 at hq
  refine jw_aload_n dX9_addSample_97 (o := (some x0)) rfl ?_
  refine jw_aload_n dX9_addSample_98 (o := (some x0)) rfl ?_
  obtain ⟨v1, ev1, hq⟩ := Option.bind_eq_some_iff.mp hq
  refine jw_getR (o := (some x0)) dX9_addSample_99 ev1 fl_X9_14 rfl ?_
  obtain ⟨v2, ev2, hq⟩ := Option.bind_eq_some_iff.mp hq
  refine jw_getI (o := v1) dX9_addSample_102 ev2 fl_X9_41 rfl ?_
  refine jw_iconst dX9_addSample_105 (v := (1 : Int32)) (by decide) ?_
  refine jw_iadd dX9_addSample_106 ?_
  refine jw_iconst dX9_addSample_107 (v := (1 : Int32)) (by decide) ?_
  obtain ⟨a3, ea3, hq⟩ := Option.bind_eq_some_iff.mp hq
  obtain ⟨eoa3, eta3⟩ := jw_rc_spec ea3
  obtain ⟨w5, h4, ew5, hq⟩ := jw_b2_spec hq
  refine jw_callV (As := [.int (v2 + (1 : Int32)), .int (1 : Int32)]) (S := []) (a := a3) (v := some (.int w5)) dX9_addSample_108 mt_X9_open in_X9_open se_X9_open lk_X9_82 (c_X9_open ew5) eta3 (by decide) rfl rfl (by decide) (Nat.le_of_ble_eq_true rfl) (by cases eoa3; rfl) ?_
  rcases jw_if hq with ⟨c6, hq⟩ | ⟨c6, hq⟩
  · refine jw_if_eq_t (tgt := 132) dX9_addSample_111 (by decide) c6 ?_
    refine jw_forget [true, true, true, true, true, true, false, true, true] (L' := [some (.ref x0), none, some (.int x2), some (va_rf x3), some (.int x4), some (.int x5), none, none, none]) rfl ?_
    exact l_X9_addSample_b132 hk11 hq
  · refine jw_if_eq_f (tgt := 132) dX9_addSample_111 (by decide) c6 ?_
    refine jw_aload_n dX9_addSample_114 (o := (some x0)) rfl ?_
    obtain ⟨v7, ev7, hq⟩ := Option.bind_eq_some_iff.mp hq
    refine jw_getR (o := (some x0)) dX9_addSample_115 ev7 fl_X9_14 rfl ?_
    refine jw_aload_n dX9_addSample_118 (o := (some x0)) rfl ?_
    obtain ⟨v8, ev8, hq⟩ := Option.bind_eq_some_iff.mp hq
    refine jw_getR (o := (some x0)) dX9_addSample_119 ev8 fl_X9_14 rfl ?_
    obtain ⟨v9, ev9, hq⟩ := Option.bind_eq_some_iff.mp hq
    refine jw_getI (o := v8) dX9_addSample_122 ev9 fl_X9_41 rfl ?_
    refine jw_aload_n dX9_addSample_125 (o := x3) rfl ?_
    refine jw_iconst dX9_addSample_126 (v := (0 : Int32)) (by decide) ?_
    refine jw_iload dX9_addSample_127 rfl ?_
    obtain ⟨a10, ea10, hq⟩ := Option.bind_eq_some_iff.mp hq
    obtain ⟨eoa10, eta10⟩ := jw_rc_spec ea10
    obtain ⟨w12, h11, ew12, hq⟩ := jw_b2_spec hq
    refine jw_callV (As := [.int v9, va_rf x3, .int (0 : Int32), .int x6]) (S := []) (a := a10) (v := none) dX9_addSample_129 mt_X7_write in_X7_write se_X7_write lk_X9_83 (c_X7_write ew12) eta10 (by decide) rfl rfl (by decide) (Nat.le_of_ble_eq_true rfl) (by cases eoa10; rfl) ?_
    refine jw_forget [true, true, true, true, true, true, false, true, true] (L' := [some (.ref x0), none, some (.int x2), some (va_rf x3), some (.int x4), some (.int x5), none, none, none]) rfl ?_
    exact l_X9_addSample_b132 hk11 hq

set_option maxRecDepth 100000 in
set_option maxHeartbeats 4000000 in
theorem l_X9_addSample_b38g {hi : jw_H} {k11 : jw_H → Nat → Int32 → Option Nat → Int32 → Int32 → Option (Unit × jw_H)} (hk11 : ∀ (h : jw_H) (x0 : Nat) (x2 : Int32) (x3 : Option Nat) (x4 : Int32) (x5 : Int32) (r : Unit) (h' : jw_H), k11 h x0 x2 x3 x4 x5 = some (r, h') → jw_E 3 uX9_addSample hi 11 [some (.ref x0), none, some (.int x2), some (va_rf x3), some (.int x4), some (.int x5), none, none, none] [] h (.inl none) h') {k38 : jw_H → Nat → Int32 → Option Nat → Int32 → Int32 → Int32 → Int32 → Option (Unit × jw_H)} (hk38 : ∀ (h : jw_H) (x0 : Nat) (x2 : Int32) (x3 : Option Nat) (x4 : Int32) (x5 : Int32) (x6 : Int32) (x7 : Int32) (r : Unit) (h' : jw_H), k38 h x0 x2 x3 x4 x5 x6 x7 = some (r, h') → jw_E 3 uX9_addSample hi 38 [some (.ref x0), none, some (.int x2), some (va_rf x3), some (.int x4), some (.int x5), some (.int x6), some (.int x7), none] [] h (.inl none) h') {h : jw_H} {x0 : Nat} {x2 : Int32} {x3 : Option Nat} {x4 : Int32} {x5 : Int32} {x6 : Int32} {x7 : Int32} {r : Unit} {h' : jw_H} (hq : g_X9_addSample_b38 k11 k38 h x0 x2 x3 x4 x5 x6 x7 = some (r, h')) : jw_E 3 uX9_addSample hi 38 [some (.ref x0), none, some (.int x2), some (va_rf x3), some (.int x4), some (.int x5), some (.int x6), some (.int x7), none] [] h (.inl none) h' := by
  unfold g_X9_addSample_b38 at hq
  refine jw_iload dX9_addSample_38 rfl ?_
  refine jw_iload dX9_addSample_40 rfl ?_
  rcases jw_if hq with ⟨c1, hq⟩ | ⟨c1, hq⟩
  · refine jw_icmp_ge_t (tgt := 97) dX9_addSample_42 (by decide) c1 ?_
    refine jw_forget [true, true, true, true, true, true, true, false, true] (L' := [some (.ref x0), none, some (.int x2), some (va_rf x3), some (.int x4), some (.int x5), some (.int x6), none, none]) rfl ?_
    exact l_X9_addSample_b97 hk11 hq
  · refine jw_icmp_ge_f (tgt := 97) dX9_addSample_42 (by decide) c1 ?_
    refine jw_iload dX9_addSample_45 rfl ?_
    refine jw_aload_n dX9_addSample_47 (o := x3) rfl ?_
    obtain ⟨v2, ev2, hq⟩ := Option.bind_eq_some_iff.mp hq
    refine jw_alen (o := x3) dX9_addSample_48 ev2 ?_
    rcases jw_if hq with ⟨c3, hq⟩ | ⟨c3, hq⟩
    · refine jw_icmp_ge_t (tgt := 97) dX9_addSample_49 (by decide) c3 ?_
      refine jw_forget [true, true, true, true, true, true, true, false, true] (L' := [some (.ref x0), none, some (.int x2), some (va_rf x3), some (.int x4), some (.int x5), some (.int x6), none, none]) rfl ?_
      exact l_X9_addSample_b97 hk11 hq
    · refine jw_icmp_ge_f (tgt := 97) dX9_addSample_49 (by decide) c3 ?_
      refine jw_aload_n dX9_addSample_52 (o := (some x0)) rfl ?_
      refine jw_iload dX9_addSample_53 rfl ?_
      obtain ⟨a4, ea4, hq⟩ := Option.bind_eq_some_iff.mp hq
      obtain ⟨eoa4, eta4⟩ := jw_rc_spec ea4
      obtain ⟨w6, h5, ew6, hq⟩ := jw_b2_spec hq
      refine jw_callV (As := [.int x4]) (S := []) (a := a4) (v := some (.int w6)) dX9_addSample_55 mt_X9_nextLot in_X9_nextLot se_X9_nextLot lk_X9_79 (c_X9_nextLot ew6) eta4 (by decide) rfl rfl (by decide) (Nat.le_of_ble_eq_true rfl) (by cases eoa4; rfl) ?_
      refine jw_istore (L' := [some (.ref x0), none, some (.int x2), some (va_rf x3), some (.int w6), some (.int x5), some (.int x6), some (.int x7), none]) dX9_addSample_58 (Nat.le_of_ble_eq_true rfl) ((jw_st1_of (j := 3) jw_long_rf).trans rfl) ?_
      refine jw_iload dX9_addSample_60 rfl ?_
      refine jw_bipush dX9_addSample_62 (v := (16 : Int32)) (by decide) ?_
      refine jw_idiv dX9_addSample_64 (by decide) ?_
      refine jw_bipush dX9_addSample_65 (v := (6 : Int32)) (by decide) ?_
      refine jw_irem dX9_addSample_67 (by decide) ?_
      refine jw_istore (L' := [some (.ref x0), none, some (.int x2), some (va_rf x3), some (.int w6), some (.int x5), some (.int x6), some (.int x7), some (.int ((w6 / (16 : Int32)) - (w6 / (16 : Int32)) / (6 : Int32) * (6 : Int32)))]) dX9_addSample_68 (Nat.le_of_ble_eq_true rfl) rfl ?_
      refine jw_aload_n dX9_addSample_70 (o := x3) rfl ?_
      refine jw_iload dX9_addSample_71 rfl ?_
      refine jw_iload dX9_addSample_73 rfl ?_
      refine jw_iconst dX9_addSample_75 (v := (5 : Int32)) (by decide) ?_
      rcases jw_if hq with ⟨c7, hq⟩ | ⟨c7, hq⟩
      · refine jw_icmp_ne_f (tgt := 84) dX9_addSample_76 (by decide) c7 ?_
        refine jw_bipush dX9_addSample_79 (v := (32 : Int32)) (by decide) ?_
        refine jw_goto (tgt := 89) dX9_addSample_81 (by decide) ?_
        refine jw_forget [true, true, true, true, true, true, true, true, false] (L' := [some (.ref x0), none, some (.int x2), some (va_rf x3), some (.int w6), some (.int x5), some (.int x6), some (.int x7), none]) rfl ?_
        exact l_X9_addSample_b89 hk38 hq
      · refine jw_icmp_ne_t (tgt := 84) dX9_addSample_76 (by decide) c7 ?_
        refine jw_bipush dX9_addSample_84 (v := (97 : Int32)) (by decide) ?_
        refine jw_iload dX9_addSample_86 rfl ?_
        refine jw_iadd dX9_addSample_88 ?_
        refine jw_forget [true, true, true, true, true, true, true, true, false] (L' := [some (.ref x0), none, some (.int x2), some (va_rf x3), some (.int w6), some (.int x5), some (.int x6), some (.int x7), none]) rfl ?_
        exact l_X9_addSample_b89 hk38 hq

theorem l_X9_addSample_b38 {hi : jw_H} {k11 : jw_H → Nat → Int32 → Option Nat → Int32 → Int32 → Option (Unit × jw_H)} (hk11 : ∀ (h : jw_H) (x0 : Nat) (x2 : Int32) (x3 : Option Nat) (x4 : Int32) (x5 : Int32) (r : Unit) (h' : jw_H), k11 h x0 x2 x3 x4 x5 = some (r, h') → jw_E 3 uX9_addSample hi 11 [some (.ref x0), none, some (.int x2), some (va_rf x3), some (.int x4), some (.int x5), none, none, none] [] h (.inl none) h') : ∀ (n : Nat) (h : jw_H) (x0 : Nat) (x2 : Int32) (x3 : Option Nat) (x4 : Int32) (x5 : Int32) (x6 : Int32) (x7 : Int32) (r : Unit) (h' : jw_H), f_X9_addSample_b38 k11 n h x0 x2 x3 x4 x5 x6 x7 = some (r, h') → jw_E 3 uX9_addSample hi 38 [some (.ref x0), none, some (.int x2), some (va_rf x3), some (.int x4), some (.int x5), some (.int x6), some (.int x7), none] [] h (.inl none) h' := by
  intro n
  induction n with
  | zero => intro h x0 x2 x3 x4 x5 x6 x7 r h' hq; exact nomatch hq
  | succ n ih => intro h x0 x2 x3 x4 x5 x6 x7 r h' hq; exact l_X9_addSample_b38g hk11 ih hq

set_option maxRecDepth 100000 in
set_option maxHeartbeats 4000000 in
theorem l_X9_addSample_b11g {hi : jw_H} {k11 : jw_H → Nat → Int32 → Option Nat → Int32 → Int32 → Option (Unit × jw_H)} (hk11 : ∀ (h : jw_H) (x0 : Nat) (x2 : Int32) (x3 : Option Nat) (x4 : Int32) (x5 : Int32) (r : Unit) (h' : jw_H), k11 h x0 x2 x3 x4 x5 = some (r, h') → jw_E 3 uX9_addSample hi 11 [some (.ref x0), none, some (.int x2), some (va_rf x3), some (.int x4), some (.int x5), none, none, none] [] h (.inl none) h') {h : jw_H} {x0 : Nat} {x2 : Int32} {x3 : Option Nat} {x4 : Int32} {x5 : Int32} {r : Unit} {h' : jw_H} (hq : g_X9_addSample_b11 k11 h x0 x2 x3 x4 x5 = some (r, h')) : jw_E 3 uX9_addSample hi 11 [some (.ref x0), none, some (.int x2), some (va_rf x3), some (.int x4), some (.int x5), none, none, none] [] h (.inl none) h' := by
  unfold g_X9_addSample_b11 at hq
  refine jw_iload dX9_addSample_11 rfl ?_
  refine jw_iload_n dX9_addSample_13 rfl ?_
  rcases jw_if hq with ⟨c1, hq⟩ | ⟨c1, hq⟩
  · refine jw_icmp_ge_t (tgt := 138) dX9_addSample_14 (by decide) c1 ?_
    refine jw_aload_n dX9_addSample_138 (o := (some x0)) rfl ?_
    refine jw_aload_n dX9_addSample_139 (o := (some x0)) rfl ?_
    obtain ⟨v2, ev2, hq⟩ := Option.bind_eq_some_iff.mp hq
    refine jw_getR (o := (some x0)) dX9_addSample_140 ev2 fl_X9_14 rfl ?_
    obtain ⟨v3, ev3, hq⟩ := Option.bind_eq_some_iff.mp hq
    refine jw_getI (o := v2) dX9_addSample_143 ev3 fl_X9_41 rfl ?_
    obtain ⟨h4, eh4, hq⟩ := Option.bind_eq_some_iff.mp hq
    refine jw_putI (o := (some x0)) dX9_addSample_146 eh4 fl_X9_37 rfl rfl ?_
    cases hq
    exact jw_vret dX9_addSample_149 rfl
  · refine jw_icmp_ge_f (tgt := 138) dX9_addSample_14 (by decide) c1 ?_
    refine jw_aload_n dX9_addSample_17 (o := (some x0)) rfl ?_
    refine jw_iload dX9_addSample_18 rfl ?_
    obtain ⟨a5, ea5, hq⟩ := Option.bind_eq_some_iff.mp hq
    obtain ⟨eoa5, eta5⟩ := jw_rc_spec ea5
    obtain ⟨w7, h6, ew7, hq⟩ := jw_b2_spec hq
    refine jw_callV (As := [.int x4]) (S := []) (a := a5) (v := some (.int w7)) dX9_addSample_20 mt_X9_nextLot in_X9_nextLot se_X9_nextLot lk_X9_79 (c_X9_nextLot ew7) eta5 (by decide) rfl rfl (by decide) (Nat.le_of_ble_eq_true rfl) (by cases eoa5; rfl) ?_
    refine jw_istore (L' := [some (.ref x0), none, some (.int x2), some (va_rf x3), some (.int w7), some (.int x5), none, none, none]) dX9_addSample_23 (Nat.le_of_ble_eq_true rfl) ((jw_st1_of (j := 3) jw_long_rf).trans rfl) ?_
    refine jw_iload dX9_addSample_25 rfl ?_
    refine jw_bipush dX9_addSample_27 (v := (16 : Int32)) (by decide) ?_
    refine jw_idiv dX9_addSample_29 (by decide) ?_
    refine jw_bipush dX9_addSample_30 (v := (9 : Int32)) (by decide) ?_
    refine jw_irem dX9_addSample_32 (by decide) ?_
    refine jw_istore (L' := [some (.ref x0), none, some (.int x2), some (va_rf x3), some (.int w7), some (.int x5), some (.int ((w7 / (16 : Int32)) - (w7 / (16 : Int32)) / (9 : Int32) * (9 : Int32))), none, none]) dX9_addSample_33 (Nat.le_of_ble_eq_true rfl) rfl ?_
    refine jw_iconst dX9_addSample_35 (v := (0 : Int32)) (by decide) ?_
    refine jw_istore (L' := [some (.ref x0), none, some (.int x2), some (va_rf x3), some (.int w7), some (.int x5), some (.int ((w7 / (16 : Int32)) - (w7 / (16 : Int32)) / (9 : Int32) * (9 : Int32))), some (.int (0 : Int32)), none]) dX9_addSample_36 (Nat.le_of_ble_eq_true rfl) rfl ?_
    exact l_X9_addSample_b38 hk11 jw_FU _ _ _ _ _ _ _ _ _ _ hq

theorem l_X9_addSample_b11 {hi : jw_H} : ∀ (n : Nat) (h : jw_H) (x0 : Nat) (x2 : Int32) (x3 : Option Nat) (x4 : Int32) (x5 : Int32) (r : Unit) (h' : jw_H), f_X9_addSample_b11  n h x0 x2 x3 x4 x5 = some (r, h') → jw_E 3 uX9_addSample hi 11 [some (.ref x0), none, some (.int x2), some (va_rf x3), some (.int x4), some (.int x5), none, none, none] [] h (.inl none) h' := by
  intro n
  induction n with
  | zero => intro h x0 x2 x3 x4 x5 r h' hq; exact nomatch hq
  | succ n ih => intro h x0 x2 x3 x4 x5 r h' hq; exact l_X9_addSample_b11g ih hq

set_option maxRecDepth 100000 in
set_option maxHeartbeats 4000000 in
theorem l_X9_addSample {hi : jw_H} {h : jw_H} {x0 : Nat} {x1 : Int32} {x2 : Int32} {r : Unit} {h' : jw_H} (hq : f_X9_addSample  h x0 x1 x2 = some (r, h')) : jw_E 3 uX9_addSample hi 0 [some (.ref x0), some (.int x1), some (.int x2), none, none, none, none, none, none] [] h (.inl none) h' := by
  unfold f_X9_addSample at hq
  refine jw_bipush dX9_addSample_0 (v := (9 : Int32)) (by decide) ?_
  obtain ⟨h1, eh1, hq⟩ := Option.bind_eq_some_iff.mp hq
  obtain ⟨ew2, eh1⟩ := jw_mka_spec eh1
  refine jw_mkB dX9_addSample_2 ac_byte ew2.1 ew2.2 ?_
  rw [eh1]
  refine jw_astore_n (o := (some (jw_n h))) (L' := [some (.ref x0), some (.int x1), some (.int x2), some (va_rf (some (jw_n h))), none, none, none, none, none]) dX9_addSample_4 (Nat.le_of_ble_eq_true rfl) rfl ?_
  refine jw_iload_n dX9_addSample_5 rfl ?_
  refine jw_istore (L' := [some (.ref x0), some (.int x1), some (.int x2), some (va_rf (some (jw_n h))), some (.int x1), none, none, none, none]) dX9_addSample_6 (Nat.le_of_ble_eq_true rfl) ((jw_st1_of (j := 3) jw_long_rf).trans rfl) ?_
  refine jw_iconst dX9_addSample_8 (v := (0 : Int32)) (by decide) ?_
  refine jw_istore (L' := [some (.ref x0), some (.int x1), some (.int x2), some (va_rf (some (jw_n h))), some (.int x1), some (.int (0 : Int32)), none, none, none]) dX9_addSample_9 (Nat.le_of_ble_eq_true rfl) rfl ?_
  refine jw_forget [true, false, true, true, true, true, true, true, true] (L' := [some (.ref x0), none, some (.int x2), some (va_rf (some (jw_n h))), some (.int x1), some (.int (0 : Int32)), none, none, none]) rfl ?_
  exact l_X9_addSample_b11  jw_FU _ _ _ _ _ _ _ _ hq

theorem c_X9_addSample {h : jw_H} {x0 : Nat} {x1 : Int32} {x2 : Int32} {r : Unit} {h' : jw_H} (hq : f_X9_addSample h x0 x1 x2 = some (r, h')) : jw_Con (Cond.code yX9_addSample cX9_addSample 9 none) yX9_addSample 3 [.ref x0, .int x1, .int x2] h (.inl none) h' :=
  jw_con false (plainFor_of_name (by decide +kernel)) (fun z => nomatch z) (by simp [jw_ent, jw_sl0_nil, jw_sl0_int, jw_sl0_long, jw_sl0_ref, jw_sl0_rf, jw_sl0_scr, List.replicate]) (by simp [jw_sl0_nil, jw_sl0_int, jw_sl0_long, jw_sl0_ref, jw_sl0_rf, jw_sl0_scr]) (l_X9_addSample hq)


/-! X9_isWell -/
noncomputable def g_X9_isWell_b158 (k133 : jw_H → Nat → Int32 → Option (Int32 × jw_H)) (h : jw_H) (x0 : Nat) (x1 : Int32) : Option (Int32 × jw_H) :=
 k133 h x0 (x1 + (1 : Int32))

noncomputable def g_X9_isWell_b133 (k133 : jw_H → Nat → Int32 → Option (Int32 × jw_H)) (h : jw_H) (x0 : Nat) (x1 : Int32) : Option (Int32 × jw_H) :=
 if (5 : Int32) ≤ x1 then (some ((1 : Int32), h))
 else ((jw_rc h 9 (some x0)).bind fun a2 =>
 jw_b2 (f_X9_markedId h a2 x1) fun w4 h3 =>
 if w4 = (-1 : Int32) then (g_X9_isWell_b158 k133 h3 x0 x1)
 else ((jw_rc h3 9 (some x0)).bind fun a6 =>
 jw_b2 (f_X9_markedLine h3 a6 x1) fun w8 h7 =>
 if w8 = (-1 : Int32) then (some ((0 : Int32), h7))
 else (g_X9_isWell_b158 k133 h7 x0 x1)))

noncomputable def f_X9_isWell_b133 (n : Nat) : jw_H → Nat → Int32 → Option (Int32 × jw_H) :=
 Nat.rec (fun _ _ _ => none) (fun _ k133 => g_X9_isWell_b133 k133) n

noncomputable def g_X9_isWell_b66 (k66 : jw_H → Nat → Int32 → Option (Int32 × jw_H)) (h : jw_H) (x0 : Nat) (x1 : Int32) : Option (Int32 × jw_H) :=
 (jw_gR h 9 (some x0) 0).bind fun v1 =>
 (jw_gI h 7 v1 2).bind fun v2 =>
 if v2 < x1 then (f_X9_isWell_b133  jw_FU h x0 (0 : Int32))
 else ((jw_gR h 9 (some x0) 0).bind fun v4 =>
 (jw_rc h 7 v4).bind fun a5 =>
 jw_b2 (f_X7_lengthOf h a5 x1) fun w7 h6 =>
 (jw_rc h6 9 (some x0)).bind fun a8 =>
 jw_b2 (f_X9_idOf h6 a8 x1) fun w10 h9 =>
 if w7 < 0 then (some ((0 : Int32), h9))
 else (if (30 : Int32) < w7 then (some ((0 : Int32), h9))
 else (if w10 < 0 then (some ((0 : Int32), h9))
 else ((jw_gI h9 9 (some x0) 4).bind fun v14 =>
 if v14 ≤ w10 then (some ((0 : Int32), h9))
 else ((jw_rc h9 9 (some x0)).bind fun a16 =>
 jw_b2 (f_X9_numberOf h9 a16 w10) fun w18 h17 =>
 if w18 = x1 then (k66 h17 x0 (x1 + (1 : Int32)))
 else (some ((0 : Int32), h17)))))))

noncomputable def f_X9_isWell_b66 (n : Nat) : jw_H → Nat → Int32 → Option (Int32 × jw_H) :=
 Nat.rec (fun _ _ _ => none) (fun _ k66 => g_X9_isWell_b66 k66) n

noncomputable def g_X9_isWell_b64 (h : jw_H) (x0 : Nat) : Option (Int32 × jw_H) :=
 f_X9_isWell_b66  jw_FU h x0 (1 : Int32)

noncomputable def f_X9_isWell (h : jw_H) (x0 : Nat) : Option (Int32 × jw_H) :=
 (jw_gR h 9 (some x0) 0).bind fun v1 =>
 (jw_gI h 7 v1 2).bind fun v2 =>
 if v2 < 0 then (some ((0 : Int32), h))
 else ((jw_gR h 9 (some x0) 0).bind fun v4 =>
 (jw_gI h 7 v4 2).bind fun v5 =>
 if (40 : Int32) < v5 then (some ((0 : Int32), h))
 else ((jw_gI h 9 (some x0) 3).bind fun v7 =>
 if v7 < 0 then (some ((0 : Int32), h))
 else ((jw_gI h 9 (some x0) 3).bind fun v9 =>
 (jw_gR h 9 (some x0) 0).bind fun v10 =>
 (jw_gI h 7 v10 2).bind fun v11 =>
 if v9 ≤ v11 then ((jw_gI h 9 (some x0) 3).bind fun v13 =>
 if v13 = 0 then ((jw_gR h 9 (some x0) 0).bind fun v15 =>
 (jw_gI h 7 v15 2).bind fun v16 =>
 if v16 ≤ 0 then (g_X9_isWell_b64  h x0)
 else (some ((0 : Int32), h)))
 else (g_X9_isWell_b64  h x0))
 else (some ((0 : Int32), h)))))

set_option maxRecDepth 100000 in
set_option maxHeartbeats 4000000 in
theorem l_X9_isWell_b158 {hi : jw_H} {k133 : jw_H → Nat → Int32 → Option (Int32 × jw_H)} (hk133 : ∀ (h : jw_H) (x0 : Nat) (x1 : Int32) (r : Int32) (h' : jw_H), k133 h x0 x1 = some (r, h') → jw_E 2 uX9_isWell hi 133 [some (.ref x0), some (.int x1), none, none] [] h (.inl (some (.int r))) h') {h : jw_H} {x0 : Nat} {x1 : Int32} {r : Int32} {h' : jw_H} (hq : g_X9_isWell_b158 k133 h x0 x1 = some (r, h')) : jw_E 2 uX9_isWell hi 158 [some (.ref x0), some (.int x1), none, none] [] h (.inl (some (.int r))) h' := by
  unfold g_X9_isWell_b158 at hq
  refine jw_iinc (L' := [some (.ref x0), some (.int (x1 + (1 : Int32))), none, none]) dX9_isWell_158 rfl (v := (1 : Int32)) (by decide) (Nat.le_of_ble_eq_true rfl) rfl ?_
  refine jw_goto (tgt := 133) dX9_isWell_161 (by decide) ?_
  exact hk133 _ _ _ _ _ hq

set_option maxRecDepth 100000 in
set_option maxHeartbeats 4000000 in
theorem l_X9_isWell_b133g {hi : jw_H} {k133 : jw_H → Nat → Int32 → Option (Int32 × jw_H)} (hk133 : ∀ (h : jw_H) (x0 : Nat) (x1 : Int32) (r : Int32) (h' : jw_H), k133 h x0 x1 = some (r, h') → jw_E 2 uX9_isWell hi 133 [some (.ref x0), some (.int x1), none, none] [] h (.inl (some (.int r))) h') {h : jw_H} {x0 : Nat} {x1 : Int32} {r : Int32} {h' : jw_H} (hq : g_X9_isWell_b133 k133 h x0 x1 = some (r, h')) : jw_E 2 uX9_isWell hi 133 [some (.ref x0), some (.int x1), none, none] [] h (.inl (some (.int r))) h' := by
  unfold g_X9_isWell_b133 at hq
  refine jw_iload_n dX9_isWell_133 rfl ?_
  refine jw_iconst dX9_isWell_134 (v := (5 : Int32)) (by decide) ?_
  rcases jw_if hq with ⟨c1, hq⟩ | ⟨c1, hq⟩
  · refine jw_icmp_ge_t (tgt := 164) dX9_isWell_135 (by decide) c1 ?_
    refine jw_iconst dX9_isWell_164 (v := (1 : Int32)) (by decide) ?_
    cases hq
    exact jw_iret (ty := .boolean) dX9_isWell_165 rfl rfl
  · refine jw_icmp_ge_f (tgt := 164) dX9_isWell_135 (by decide) c1 ?_
    refine jw_aload_n dX9_isWell_138 (o := (some x0)) rfl ?_
    refine jw_iload_n dX9_isWell_139 rfl ?_
    obtain ⟨a2, ea2, hq⟩ := Option.bind_eq_some_iff.mp hq
    obtain ⟨eoa2, eta2⟩ := jw_rc_spec ea2
    obtain ⟨w4, h3, ew4, hq⟩ := jw_b2_spec hq
    refine jw_callV (As := [.int x1]) (S := []) (a := a2) (v := some (.int w4)) dX9_isWell_140 mt_X9_markedId in_X9_markedId se_X9_markedId lk_X9_44 (c_X9_markedId ew4) eta2 (by decide) rfl rfl (by decide) (Nat.le_of_ble_eq_true rfl) (by cases eoa2; rfl) ?_
    refine jw_iconst dX9_isWell_143 (v := (-1 : Int32)) (by decide) ?_
    rcases jw_if hq with ⟨c5, hq⟩ | ⟨c5, hq⟩
    · refine jw_icmp_eq_t (tgt := 158) dX9_isWell_144 (by decide) c5 ?_
      exact l_X9_isWell_b158 hk133 hq
    · refine jw_icmp_eq_f (tgt := 158) dX9_isWell_144 (by decide) c5 ?_
      refine jw_aload_n dX9_isWell_147 (o := (some x0)) rfl ?_
      refine jw_iload_n dX9_isWell_148 rfl ?_
      obtain ⟨a6, ea6, hq⟩ := Option.bind_eq_some_iff.mp hq
      obtain ⟨eoa6, eta6⟩ := jw_rc_spec ea6
      obtain ⟨w8, h7, ew8, hq⟩ := jw_b2_spec hq
      refine jw_callV (As := [.int x1]) (S := []) (a := a6) (v := some (.int w8)) dX9_isWell_149 mt_X9_markedLine in_X9_markedLine se_X9_markedLine lk_X9_91 (c_X9_markedLine ew8) eta6 (by decide) rfl rfl (by decide) (Nat.le_of_ble_eq_true rfl) (by cases eoa6; rfl) ?_
      refine jw_iconst dX9_isWell_152 (v := (-1 : Int32)) (by decide) ?_
      rcases jw_if hq with ⟨c9, hq⟩ | ⟨c9, hq⟩
      · refine jw_icmp_ne_f (tgt := 158) dX9_isWell_153 (by decide) c9 ?_
        refine jw_iconst dX9_isWell_156 (v := (0 : Int32)) (by decide) ?_
        cases hq
        exact jw_iret (ty := .boolean) dX9_isWell_157 rfl rfl
      · refine jw_icmp_ne_t (tgt := 158) dX9_isWell_153 (by decide) c9 ?_
        exact l_X9_isWell_b158 hk133 hq

theorem l_X9_isWell_b133 {hi : jw_H} : ∀ (n : Nat) (h : jw_H) (x0 : Nat) (x1 : Int32) (r : Int32) (h' : jw_H), f_X9_isWell_b133  n h x0 x1 = some (r, h') → jw_E 2 uX9_isWell hi 133 [some (.ref x0), some (.int x1), none, none] [] h (.inl (some (.int r))) h' := by
  intro n
  induction n with
  | zero => intro h x0 x1 r h' hq; exact nomatch hq
  | succ n ih => intro h x0 x1 r h' hq; exact l_X9_isWell_b133g ih hq

set_option maxRecDepth 100000 in
set_option maxHeartbeats 4000000 in
theorem l_X9_isWell_b66g {hi : jw_H} {k66 : jw_H → Nat → Int32 → Option (Int32 × jw_H)} (hk66 : ∀ (h : jw_H) (x0 : Nat) (x1 : Int32) (r : Int32) (h' : jw_H), k66 h x0 x1 = some (r, h') → jw_E 2 uX9_isWell hi 66 [some (.ref x0), some (.int x1), none, none] [] h (.inl (some (.int r))) h') {h : jw_H} {x0 : Nat} {x1 : Int32} {r : Int32} {h' : jw_H} (hq : g_X9_isWell_b66 k66 h x0 x1 = some (r, h')) : jw_E 2 uX9_isWell hi 66 [some (.ref x0), some (.int x1), none, none] [] h (.inl (some (.int r))) h' := by
  unfold g_X9_isWell_b66 at hq
  refine jw_iload_n dX9_isWell_66 rfl ?_
  refine jw_aload_n dX9_isWell_67 (o := (some x0)) rfl ?_
  obtain ⟨v1, ev1, hq⟩ := Option.bind_eq_some_iff.mp hq
  refine jw_getR (o := (some x0)) dX9_isWell_68 ev1 fl_X9_14 rfl ?_
  obtain ⟨v2, ev2, hq⟩ := Option.bind_eq_some_iff.mp hq
  refine jw_getI (o := v1) dX9_isWell_71 ev2 fl_X9_41 rfl ?_
  rcases jw_if hq with ⟨c3, hq⟩ | ⟨c3, hq⟩
  · refine jw_icmp_gt_t (tgt := 131) dX9_isWell_74 (by decide) c3 ?_
    refine jw_iconst dX9_isWell_131 (v := (0 : Int32)) (by decide) ?_
    refine jw_istore_n (L' := [some (.ref x0), some (.int (0 : Int32)), none, none]) dX9_isWell_132 (Nat.le_of_ble_eq_true rfl) rfl ?_
    exact l_X9_isWell_b133  jw_FU _ _ _ _ _ hq
  · refine jw_icmp_gt_f (tgt := 131) dX9_isWell_74 (by decide) c3 ?_
    refine jw_aload_n dX9_isWell_77 (o := (some x0)) rfl ?_
    obtain ⟨v4, ev4, hq⟩ := Option.bind_eq_some_iff.mp hq
    refine jw_getR (o := (some x0)) dX9_isWell_78 ev4 fl_X9_14 rfl ?_
    refine jw_iload_n dX9_isWell_81 rfl ?_
    obtain ⟨a5, ea5, hq⟩ := Option.bind_eq_some_iff.mp hq
    obtain ⟨eoa5, eta5⟩ := jw_rc_spec ea5
    obtain ⟨w7, h6, ew7, hq⟩ := jw_b2_spec hq
    refine jw_callV (As := [.int x1]) (S := []) (a := a5) (v := some (.int w7)) dX9_isWell_82 mt_X7_lengthOf in_X7_lengthOf se_X7_lengthOf lk_X9_88 (c_X7_lengthOf ew7) eta5 (by decide) rfl rfl (by decide) (Nat.le_of_ble_eq_true rfl) (by cases eoa5; rfl) ?_
    refine jw_istore_n (L' := [some (.ref x0), some (.int x1), some (.int w7), none]) dX9_isWell_85 (Nat.le_of_ble_eq_true rfl) rfl ?_
    refine jw_aload_n dX9_isWell_86 (o := (some x0)) rfl ?_
    refine jw_iload_n dX9_isWell_87 rfl ?_
    obtain ⟨a8, ea8, hq⟩ := Option.bind_eq_some_iff.mp hq
    obtain ⟨eoa8, eta8⟩ := jw_rc_spec ea8
    obtain ⟨w10, h9, ew10, hq⟩ := jw_b2_spec hq
    refine jw_callV (As := [.int x1]) (S := []) (a := a8) (v := some (.int w10)) dX9_isWell_88 mt_X9_idOf in_X9_idOf se_X9_idOf lk_X9_76 (c_X9_idOf ew10) eta8 (by decide) rfl rfl (by decide) (Nat.le_of_ble_eq_true rfl) (by cases eoa8; rfl) ?_
    refine jw_istore_n (L' := [some (.ref x0), some (.int x1), some (.int w7), some (.int w10)]) dX9_isWell_91 (Nat.le_of_ble_eq_true rfl) rfl ?_
    refine jw_iload_n dX9_isWell_92 rfl ?_
    rcases jw_if hq with ⟨c11, hq⟩ | ⟨c11, hq⟩
    · refine jw_if_lt_t (tgt := 123) dX9_isWell_93 (by decide) c11 ?_
      refine jw_iconst dX9_isWell_123 (v := (0 : Int32)) (by decide) ?_
      cases hq
      exact jw_iret (ty := .boolean) dX9_isWell_124 rfl rfl
    · refine jw_if_lt_f (tgt := 123) dX9_isWell_93 (by decide) c11 ?_
      refine jw_iload_n dX9_isWell_96 rfl ?_
      refine jw_bipush dX9_isWell_97 (v := (30 : Int32)) (by decide) ?_
      rcases jw_if hq with ⟨c12, hq⟩ | ⟨c12, hq⟩
      · refine jw_icmp_gt_t (tgt := 123) dX9_isWell_99 (by decide) c12 ?_
        refine jw_iconst dX9_isWell_123 (v := (0 : Int32)) (by decide) ?_
        cases hq
        exact jw_iret (ty := .boolean) dX9_isWell_124 rfl rfl
      · refine jw_icmp_gt_f (tgt := 123) dX9_isWell_99 (by decide) c12 ?_
        refine jw_iload_n dX9_isWell_102 rfl ?_
        rcases jw_if hq with ⟨c13, hq⟩ | ⟨c13, hq⟩
        · refine jw_if_lt_t (tgt := 123) dX9_isWell_103 (by decide) c13 ?_
          refine jw_iconst dX9_isWell_123 (v := (0 : Int32)) (by decide) ?_
          cases hq
          exact jw_iret (ty := .boolean) dX9_isWell_124 rfl rfl
        · refine jw_if_lt_f (tgt := 123) dX9_isWell_103 (by decide) c13 ?_
          refine jw_iload_n dX9_isWell_106 rfl ?_
          refine jw_aload_n dX9_isWell_107 (o := (some x0)) rfl ?_
          obtain ⟨v14, ev14, hq⟩ := Option.bind_eq_some_iff.mp hq
          refine jw_getI (o := (some x0)) dX9_isWell_108 ev14 fl_X9_55 rfl ?_
          rcases jw_if hq with ⟨c15, hq⟩ | ⟨c15, hq⟩
          · refine jw_icmp_ge_t (tgt := 123) dX9_isWell_111 (by decide) c15 ?_
            refine jw_iconst dX9_isWell_123 (v := (0 : Int32)) (by decide) ?_
            cases hq
            exact jw_iret (ty := .boolean) dX9_isWell_124 rfl rfl
          · refine jw_icmp_ge_f (tgt := 123) dX9_isWell_111 (by decide) c15 ?_
            refine jw_aload_n dX9_isWell_114 (o := (some x0)) rfl ?_
            refine jw_iload_n dX9_isWell_115 rfl ?_
            obtain ⟨a16, ea16, hq⟩ := Option.bind_eq_some_iff.mp hq
            obtain ⟨eoa16, eta16⟩ := jw_rc_spec ea16
            obtain ⟨w18, h17, ew18, hq⟩ := jw_b2_spec hq
            refine jw_callV (As := [.int w10]) (S := []) (a := a16) (v := some (.int w18)) dX9_isWell_116 mt_X9_numberOf in_X9_numberOf se_X9_numberOf lk_X9_48 (c_X9_numberOf ew18) eta16 (by decide) rfl rfl (by decide) (Nat.le_of_ble_eq_true rfl) (by cases eoa16; rfl) ?_
            refine jw_iload_n dX9_isWell_119 rfl ?_
            rcases jw_if hq with ⟨c19, hq⟩ | ⟨c19, hq⟩
            · refine jw_icmp_eq_t (tgt := 125) dX9_isWell_120 (by decide) c19 ?_
              refine jw_iinc (L' := [some (.ref x0), some (.int (x1 + (1 : Int32))), some (.int w7), some (.int w10)]) dX9_isWell_125 rfl (v := (1 : Int32)) (by decide) (Nat.le_of_ble_eq_true rfl) rfl ?_
              refine jw_goto (tgt := 66) dX9_isWell_128 (by decide) ?_
              refine jw_forget [true, true, false, false] (L' := [some (.ref x0), some (.int (x1 + (1 : Int32))), none, none]) rfl ?_
              exact hk66 _ _ _ _ _ hq
            · refine jw_icmp_eq_f (tgt := 125) dX9_isWell_120 (by decide) c19 ?_
              refine jw_iconst dX9_isWell_123 (v := (0 : Int32)) (by decide) ?_
              cases hq
              exact jw_iret (ty := .boolean) dX9_isWell_124 rfl rfl

theorem l_X9_isWell_b66 {hi : jw_H} : ∀ (n : Nat) (h : jw_H) (x0 : Nat) (x1 : Int32) (r : Int32) (h' : jw_H), f_X9_isWell_b66  n h x0 x1 = some (r, h') → jw_E 2 uX9_isWell hi 66 [some (.ref x0), some (.int x1), none, none] [] h (.inl (some (.int r))) h' := by
  intro n
  induction n with
  | zero => intro h x0 x1 r h' hq; exact nomatch hq
  | succ n ih => intro h x0 x1 r h' hq; exact l_X9_isWell_b66g ih hq

set_option maxRecDepth 100000 in
set_option maxHeartbeats 4000000 in
theorem l_X9_isWell_b64 {hi : jw_H} {h : jw_H} {x0 : Nat} {r : Int32} {h' : jw_H} (hq : g_X9_isWell_b64  h x0 = some (r, h')) : jw_E 2 uX9_isWell hi 64 [some (.ref x0), none, none, none] [] h (.inl (some (.int r))) h' := by
  unfold g_X9_isWell_b64 at hq
  refine jw_iconst dX9_isWell_64 (v := (1 : Int32)) (by decide) ?_
  refine jw_istore_n (L' := [some (.ref x0), some (.int (1 : Int32)), none, none]) dX9_isWell_65 (Nat.le_of_ble_eq_true rfl) rfl ?_
  exact l_X9_isWell_b66  jw_FU _ _ _ _ _ hq

set_option maxRecDepth 100000 in
set_option maxHeartbeats 4000000 in
theorem l_X9_isWell {hi : jw_H} {h : jw_H} {x0 : Nat} {r : Int32} {h' : jw_H} (hq : f_X9_isWell  h x0 = some (r, h')) : jw_E 2 uX9_isWell hi 0 [some (.ref x0), none, none, none] [] h (.inl (some (.int r))) h' := by
  unfold f_X9_isWell at hq
  refine jw_aload_n dX9_isWell_0 (o := (some x0)) rfl ?_
  obtain ⟨v1, ev1, hq⟩ := Option.bind_eq_some_iff.mp hq
  refine jw_getR (o := (some x0)) dX9_isWell_1 ev1 fl_X9_14 rfl ?_
  obtain ⟨v2, ev2, hq⟩ := Option.bind_eq_some_iff.mp hq
  refine jw_getI (o := v1) dX9_isWell_4 ev2 fl_X9_41 rfl ?_
  rcases jw_if hq with ⟨c3, hq⟩ | ⟨c3, hq⟩
  · refine jw_if_lt_t (tgt := 43) dX9_isWell_7 (by decide) c3 ?_
    refine jw_iconst dX9_isWell_43 (v := (0 : Int32)) (by decide) ?_
    cases hq
    exact jw_iret (ty := .boolean) dX9_isWell_44 rfl rfl
  · refine jw_if_lt_f (tgt := 43) dX9_isWell_7 (by decide) c3 ?_
    refine jw_aload_n dX9_isWell_10 (o := (some x0)) rfl ?_
    obtain ⟨v4, ev4, hq⟩ := Option.bind_eq_some_iff.mp hq
    refine jw_getR (o := (some x0)) dX9_isWell_11 ev4 fl_X9_14 rfl ?_
    obtain ⟨v5, ev5, hq⟩ := Option.bind_eq_some_iff.mp hq
    refine jw_getI (o := v4) dX9_isWell_14 ev5 fl_X9_41 rfl ?_
    refine jw_bipush dX9_isWell_17 (v := (40 : Int32)) (by decide) ?_
    rcases jw_if hq with ⟨c6, hq⟩ | ⟨c6, hq⟩
    · refine jw_icmp_gt_t (tgt := 43) dX9_isWell_19 (by decide) c6 ?_
      refine jw_iconst dX9_isWell_43 (v := (0 : Int32)) (by decide) ?_
      cases hq
      exact jw_iret (ty := .boolean) dX9_isWell_44 rfl rfl
    · refine jw_icmp_gt_f (tgt := 43) dX9_isWell_19 (by decide) c6 ?_
      refine jw_aload_n dX9_isWell_22 (o := (some x0)) rfl ?_
      obtain ⟨v7, ev7, hq⟩ := Option.bind_eq_some_iff.mp hq
      refine jw_getI (o := (some x0)) dX9_isWell_23 ev7 fl_X9_37 rfl ?_
      rcases jw_if hq with ⟨c8, hq⟩ | ⟨c8, hq⟩
      · refine jw_if_lt_t (tgt := 43) dX9_isWell_26 (by decide) c8 ?_
        refine jw_iconst dX9_isWell_43 (v := (0 : Int32)) (by decide) ?_
        cases hq
        exact jw_iret (ty := .boolean) dX9_isWell_44 rfl rfl
      · refine jw_if_lt_f (tgt := 43) dX9_isWell_26 (by decide) c8 ?_
        refine jw_aload_n dX9_isWell_29 (o := (some x0)) rfl ?_
        obtain ⟨v9, ev9, hq⟩ := Option.bind_eq_some_iff.mp hq
        refine jw_getI (o := (some x0)) dX9_isWell_30 ev9 fl_X9_37 rfl ?_
        refine jw_aload_n dX9_isWell_33 (o := (some x0)) rfl ?_
        obtain ⟨v10, ev10, hq⟩ := Option.bind_eq_some_iff.mp hq
        refine jw_getR (o := (some x0)) dX9_isWell_34 ev10 fl_X9_14 rfl ?_
        obtain ⟨v11, ev11, hq⟩ := Option.bind_eq_some_iff.mp hq
        refine jw_getI (o := v10) dX9_isWell_37 ev11 fl_X9_41 rfl ?_
        rcases jw_if hq with ⟨c12, hq⟩ | ⟨c12, hq⟩
        · refine jw_icmp_le_t (tgt := 45) dX9_isWell_40 (by decide) c12 ?_
          refine jw_aload_n dX9_isWell_45 (o := (some x0)) rfl ?_
          obtain ⟨v13, ev13, hq⟩ := Option.bind_eq_some_iff.mp hq
          refine jw_getI (o := (some x0)) dX9_isWell_46 ev13 fl_X9_37 rfl ?_
          rcases jw_if hq with ⟨c14, hq⟩ | ⟨c14, hq⟩
          · refine jw_if_ne_f (tgt := 64) dX9_isWell_49 (by decide) c14 ?_
            refine jw_aload_n dX9_isWell_52 (o := (some x0)) rfl ?_
            obtain ⟨v15, ev15, hq⟩ := Option.bind_eq_some_iff.mp hq
            refine jw_getR (o := (some x0)) dX9_isWell_53 ev15 fl_X9_14 rfl ?_
            obtain ⟨v16, ev16, hq⟩ := Option.bind_eq_some_iff.mp hq
            refine jw_getI (o := v15) dX9_isWell_56 ev16 fl_X9_41 rfl ?_
            rcases jw_if hq with ⟨c17, hq⟩ | ⟨c17, hq⟩
            · refine jw_if_le_t (tgt := 64) dX9_isWell_59 (by decide) c17 ?_
              exact l_X9_isWell_b64  hq
            · refine jw_if_le_f (tgt := 64) dX9_isWell_59 (by decide) c17 ?_
              refine jw_iconst dX9_isWell_62 (v := (0 : Int32)) (by decide) ?_
              cases hq
              exact jw_iret (ty := .boolean) dX9_isWell_63 rfl rfl
          · refine jw_if_ne_t (tgt := 64) dX9_isWell_49 (by decide) c14 ?_
            exact l_X9_isWell_b64  hq
        · refine jw_icmp_le_f (tgt := 45) dX9_isWell_40 (by decide) c12 ?_
          refine jw_iconst dX9_isWell_43 (v := (0 : Int32)) (by decide) ?_
          cases hq
          exact jw_iret (ty := .boolean) dX9_isWell_44 rfl rfl

theorem c_X9_isWell {h : jw_H} {x0 : Nat} {r : Int32} {h' : jw_H} (hq : f_X9_isWell h x0 = some (r, h')) : jw_Con (Cond.code yX9_isWell cX9_isWell 4 (some .boolean)) yX9_isWell 2 [.ref x0] h (.inl (some (.int r))) h' :=
  jw_con false (plainFor_of_name (by decide +kernel)) (fun z => nomatch z) (by simp [jw_ent, jw_sl0_nil, jw_sl0_int, jw_sl0_long, jw_sl0_ref, jw_sl0_rf, jw_sl0_scr, List.replicate]) (by simp [jw_sl0_nil, jw_sl0_int, jw_sl0_long, jw_sl0_ref, jw_sl0_rf, jw_sl0_scr]) (l_X9_isWell hq)


/-! X10_init -/
noncomputable def f_X10_init (h : jw_H) (x0 : Nat) (x1 : Option Nat) (x2 : Option Nat) (x3 : Option Nat) (x4 : Option Nat) (x5 : Option Nat) (x6 : Option Nat) (x7 : Option Nat) : Option (Unit × jw_H) :=
 (jw_pR h 10 (some x0) 0 x1).bind fun h1 =>
 (jw_pR h1 10 (some x0) 1 x2).bind fun h2 =>
 (jw_pR h2 10 (some x0) 2 x3).bind fun h3 =>
 (jw_pR h3 10 (some x0) 3 x4).bind fun h4 =>
 (jw_pR h4 10 (some x0) 4 x5).bind fun h5 =>
 (jw_pR h5 10 (some x0) 5 x6).bind fun h6 =>
 (jw_pR h6 10 (some x0) 6 x7).bind fun h7 =>
 (some (jw_new h7 (7, 0) (jw_nf 7))).bind fun h8 =>
 jw_b2 (f_X7_init h8 (jw_n h7) (60 : Int32)) fun w10 h9 =>
 (jw_pR h9 10 (some x0) 7 (some (jw_n h7))).bind fun h11 =>
 (some (jw_new h11 (9, 0) (jw_nf 9))).bind fun h12 =>
 jw_b2 (f_X9_init h12 (jw_n h11)) fun w14 h13 =>
 (jw_pR h13 10 (some x0) 8 (some (jw_n h11))).bind fun h15 =>
 (jw_mka h15 20 (40 : Int32)).bind fun h16 =>
 (jw_pR h16 10 (some x0) 9 (some (jw_n h15))).bind fun h18 =>
 (jw_mka h18 20 (40 : Int32)).bind fun h19 =>
 (jw_pR h19 10 (some x0) 10 (some (jw_n h18))).bind fun h21 =>
 some ((), h21)

set_option maxRecDepth 100000 in
set_option maxHeartbeats 4000000 in
theorem l_X10_init {hi : jw_H} {h : jw_H} {x0 : Nat} {x1 : Option Nat} {x2 : Option Nat} {x3 : Option Nat} {x4 : Option Nat} {x5 : Option Nat} {x6 : Option Nat} {x7 : Option Nat} {r : Unit} {h' : jw_H} (hq : f_X10_init  h x0 x1 x2 x3 x4 x5 x6 x7 = some (r, h')) : jw_E 3 uX10_init hi 0 [some (.ref x0), some (va_rf x1), some (va_rf x2), some (va_rf x3), some (va_rf x4), some (va_rf x5), some (va_rf x6), some (va_rf x7)] [] h (.inl none) h' := by
  unfold f_X10_init at hq
  refine jw_aload_n dX10_init_0 (o := (some x0)) rfl ?_
  refine jw_obj dX10_init_1 ol_X10_3 oi_0 oc_0 (by decide) (Nat.le_of_ble_eq_true rfl) ?_
  refine jw_aload_n dX10_init_4 (o := (some x0)) rfl ?_
  refine jw_aload_n dX10_init_5 (o := x1) rfl ?_
  obtain ⟨h1, eh1, hq⟩ := Option.bind_eq_some_iff.mp hq
  refine jw_putF (o := (some x0)) (x := x1) dX10_init_6 eh1 fl_X10_9 fk_X10_9 rfl rfl rfl rfl ?_
  refine jw_aload_n dX10_init_9 (o := (some x0)) rfl ?_
  refine jw_aload_n dX10_init_10 (o := x2) rfl ?_
  obtain ⟨h2, eh2, hq⟩ := Option.bind_eq_some_iff.mp hq
  refine jw_putF (o := (some x0)) (x := x2) dX10_init_11 eh2 fl_X10_15 fk_X10_15 rfl rfl rfl rfl ?_
  refine jw_aload_n dX10_init_14 (o := (some x0)) rfl ?_
  refine jw_aload_n dX10_init_15 (o := x3) rfl ?_
  obtain ⟨h3, eh3, hq⟩ := Option.bind_eq_some_iff.mp hq
  refine jw_putF (o := (some x0)) (x := x3) dX10_init_16 eh3 fl_X10_19 fk_X10_19 rfl rfl rfl rfl ?_
  refine jw_aload_n dX10_init_19 (o := (some x0)) rfl ?_
  refine jw_aload dX10_init_20 (o := x4) rfl ?_
  obtain ⟨h4, eh4, hq⟩ := Option.bind_eq_some_iff.mp hq
  refine jw_putF (o := (some x0)) (x := x4) dX10_init_22 eh4 fl_X10_23 fk_X10_23 rfl rfl rfl rfl ?_
  refine jw_aload_n dX10_init_25 (o := (some x0)) rfl ?_
  refine jw_aload dX10_init_26 (o := x5) rfl ?_
  obtain ⟨h5, eh5, hq⟩ := Option.bind_eq_some_iff.mp hq
  refine jw_putF (o := (some x0)) (x := x5) dX10_init_28 eh5 fl_X10_26 fk_X10_26 rfl rfl rfl rfl ?_
  refine jw_aload_n dX10_init_31 (o := (some x0)) rfl ?_
  refine jw_aload dX10_init_32 (o := x6) rfl ?_
  obtain ⟨h6, eh6, hq⟩ := Option.bind_eq_some_iff.mp hq
  refine jw_putF (o := (some x0)) (x := x6) dX10_init_34 eh6 fl_X10_30 fk_X10_30 rfl rfl rfl rfl ?_
  refine jw_aload_n dX10_init_37 (o := (some x0)) rfl ?_
  refine jw_aload dX10_init_38 (o := x7) rfl ?_
  obtain ⟨h7, eh7, hq⟩ := Option.bind_eq_some_iff.mp hq
  refine jw_putF (o := (some x0)) (x := x7) dX10_init_40 eh7 fl_X10_34 fk_X10_34 rfl rfl rfl rfl ?_
  refine jw_aload_n dX10_init_43 (o := (some x0)) rfl ?_
  obtain ⟨h8, eh8, hq⟩ := Option.bind_eq_some_iff.mp hq
  have eh8 := Option.some.inj eh8
  refine jw_mk (c := 7) dX10_init_44 (by decide) cl_X10_38 inst_7 ini_7 ?_
  rw [eh8]
  refine jw_dup dX10_init_47 rfl ?_
  refine jw_bipush dX10_init_48 (v := (60 : Int32)) (by decide) ?_
  obtain ⟨w10, h9, ew10, hq⟩ := jw_b2_spec hq
  refine jw_callI (As := [.int (60 : Int32)]) (S := [.ref (jw_n h7), .ref x0]) (a := (jw_n h7)) (v := none) dX10_init_50 mt_X7_init in_X7_init rfl lk_X10_40 (c_X7_init ew10) rfl (by decide) (Nat.le_of_ble_eq_true rfl) rfl ?_
  obtain ⟨h11, eh11, hq⟩ := Option.bind_eq_some_iff.mp hq
  refine jw_putF (o := (some x0)) (x := (some (jw_n h7))) dX10_init_53 eh11 fl_X10_43 fk_X10_43 rfl rfl rfl rfl ?_
  refine jw_aload_n dX10_init_56 (o := (some x0)) rfl ?_
  obtain ⟨h12, eh12, hq⟩ := Option.bind_eq_some_iff.mp hq
  have eh12 := Option.some.inj eh12
  refine jw_mk (c := 9) dX10_init_57 (by decide) cl_X10_47 inst_9 ini_9 ?_
  rw [eh12]
  refine jw_dup dX10_init_60 rfl ?_
  obtain ⟨w14, h13, ew14, hq⟩ := jw_b2_spec hq
  refine jw_callI (As := []) (S := [.ref (jw_n h11), .ref x0]) (a := (jw_n h11)) (v := none) dX10_init_61 mt_X9_init in_X9_init rfl lk_X10_49 (c_X9_init ew14) rfl (by decide) (Nat.le_of_ble_eq_true rfl) rfl ?_
  obtain ⟨h15, eh15, hq⟩ := Option.bind_eq_some_iff.mp hq
  refine jw_putF (o := (some x0)) (x := (some (jw_n h11))) dX10_init_64 eh15 fl_X10_50 fk_X10_50 rfl rfl rfl rfl ?_
  refine jw_aload_n dX10_init_67 (o := (some x0)) rfl ?_
  refine jw_bipush dX10_init_68 (v := (40 : Int32)) (by decide) ?_
  obtain ⟨h16, eh16, hq⟩ := Option.bind_eq_some_iff.mp hq
  obtain ⟨ew17, eh16⟩ := jw_mka_spec eh16
  refine jw_mkI dX10_init_70 ac_int ew17.1 ew17.2 ?_
  rw [eh16]
  obtain ⟨h18, eh18, hq⟩ := Option.bind_eq_some_iff.mp hq
  refine jw_putF (o := (some x0)) (x := (some (jw_n h15))) dX10_init_72 eh18 fl_X10_53 fk_X10_53 rfl rfl rfl rfl ?_
  refine jw_aload_n dX10_init_75 (o := (some x0)) rfl ?_
  refine jw_bipush dX10_init_76 (v := (40 : Int32)) (by decide) ?_
  obtain ⟨h19, eh19, hq⟩ := Option.bind_eq_some_iff.mp hq
  obtain ⟨ew20, eh19⟩ := jw_mka_spec eh19
  refine jw_mkI dX10_init_78 ac_int ew20.1 ew20.2 ?_
  rw [eh19]
  obtain ⟨h21, eh21, hq⟩ := Option.bind_eq_some_iff.mp hq
  refine jw_putF (o := (some x0)) (x := (some (jw_n h18))) dX10_init_80 eh21 fl_X10_57 fk_X10_57 rfl rfl rfl rfl ?_
  cases hq
  exact jw_vret dX10_init_83 rfl

theorem c_X10_init {h : jw_H} {x0 : Nat} {x1 : Option Nat} {x2 : Option Nat} {x3 : Option Nat} {x4 : Option Nat} {x5 : Option Nat} {x6 : Option Nat} {x7 : Option Nat} {r : Unit} {h' : jw_H} (hq : f_X10_init h x0 x1 x2 x3 x4 x5 x6 x7 = some (r, h')) : jw_Con (Cond.code yX10_init cX10_init 8 none) yX10_init 3 [.ref x0, va_rf x1, va_rf x2, va_rf x3, va_rf x4, va_rf x5, va_rf x6, va_rf x7] h (.inl none) h' :=
  jw_con true (plainFor_of_name (by decide +kernel)) (fun _ => rfl) (by simp [jw_ent, jw_sl0_nil, jw_sl0_int, jw_sl0_long, jw_sl0_ref, jw_sl0_rf, jw_sl0_scr, List.replicate]) (by simp [jw_sl0_nil, jw_sl0_int, jw_sl0_long, jw_sl0_ref, jw_sl0_rf, jw_sl0_scr]) (l_X10_init hq)


/-! X10_locate -/
noncomputable def g_X10_locate_b163 (h : jw_H) (t0 : Int32) : Option (Int32 × jw_H) :=
 some (t0, h)

noncomputable def g_X10_locate_b158 (h : jw_H)  : Option (Int32 × jw_H) :=
 g_X10_locate_b163  h (-1 : Int32)

noncomputable def g_X10_locate_b133 (h : jw_H) (x0 : Nat) (x1 : Option Nat) (x2 : Int32) : Option (Int32 × jw_H) :=
 (jw_gI h 0 x1 2).bind fun v1 =>
 if (x2 + v1) < 0 then (g_X10_locate_b158  h )
 else ((jw_gR h 10 (some x0) 1).bind fun v3 =>
 (jw_gR h 9 v3 0).bind fun v4 =>
 (jw_gI h 7 v4 2).bind fun v5 =>
 if (x2 + v1) ≤ v5 then (g_X10_locate_b163  h (x2 + v1))
 else (g_X10_locate_b158  h ))

noncomputable def g_X10_locate_b121 (h : jw_H) (x0 : Nat) (x1 : Option Nat) (t0 : Option Nat) (t1 : Option Nat) (t2 : Int32) (t3 : Int32) : Option (Int32 × jw_H) :=
 (jw_rc h 4 t0).bind fun a1 =>
 jw_b2 (f_X4_lineWith h a1 t1 t2 t3) fun w3 h2 =>
 if w3 = (-1 : Int32) then (some ((-2 : Int32), h2))
 else (g_X10_locate_b133  h2 x0 x1 w3)

noncomputable def g_X10_locate_b95 (h : jw_H) (x0 : Nat) (x1 : Option Nat) : Option (Int32 × jw_H) :=
 (jw_gR h 10 (some x0) 4).bind fun v1 =>
 (jw_gR h 10 (some x0) 1).bind fun v2 =>
 (jw_gI h 0 x1 1).bind fun v3 =>
 (jw_gI h 0 x1 0).bind fun v4 =>
 if v4 = (63 : Int32) then (g_X10_locate_b121  h x0 x1 v1 v2 v3 (1 : Int32))
 else (g_X10_locate_b121  h x0 x1 v1 v2 v3 (0 : Int32))

noncomputable def f_X10_locate (h : jw_H) (x0 : Nat) (x1 : Option Nat) : Option (Int32 × jw_H) :=
 (jw_gR h 10 (some x0) 1).bind fun v1 =>
 (jw_gI h 9 v1 3).bind fun v2 =>
 (jw_gI h 0 x1 0).bind fun v3 =>
 if v3 = (48 : Int32) then ((jw_gI h 0 x1 1).bind fun v22 =>
 g_X10_locate_b133  h x0 x1 v22)
 else ((jw_gI h 0 x1 0).bind fun v5 =>
 if v5 = (36 : Int32) then ((jw_gR h 10 (some x0) 1).bind fun v19 =>
 (jw_gR h 9 v19 0).bind fun v20 =>
 (jw_gI h 7 v20 2).bind fun v21 =>
 g_X10_locate_b133  h x0 x1 v21)
 else ((jw_gI h 0 x1 0).bind fun v7 =>
 if v7 = (39 : Int32) then ((jw_gR h 10 (some x0) 1).bind fun v13 =>
 (jw_gI h 0 x1 1).bind fun v14 =>
 (jw_rc h 9 v13).bind fun a15 =>
 jw_b2 (f_X9_markedLine h a15 v14) fun w17 h16 =>
 if w17 = (-1 : Int32) then (some ((-3 : Int32), h16))
 else (g_X10_locate_b133  h16 x0 x1 w17))
 else ((jw_gI h 0 x1 0).bind fun v9 =>
 if v9 = (47 : Int32) then (g_X10_locate_b95  h x0 x1)
 else ((jw_gI h 0 x1 0).bind fun v11 =>
 if v11 = (63 : Int32) then (g_X10_locate_b95  h x0 x1)
 else (g_X10_locate_b133  h x0 x1 v2)))))

set_option maxRecDepth 100000 in
set_option maxHeartbeats 4000000 in
theorem l_X10_locate_b163 {hi : jw_H} {h : jw_H} {t0 : Int32} {r : Int32} {h' : jw_H} (hq : g_X10_locate_b163  h t0 = some (r, h')) : jw_E 9 uX10_locate hi 163 [none, none, none] [.int t0] h (.inl (some (.int r))) h' := by
  unfold g_X10_locate_b163 at hq
  cases hq
  exact jw_iret (ty := .int) dX10_locate_163 rfl rfl

set_option maxRecDepth 100000 in
set_option maxHeartbeats 4000000 in
theorem l_X10_locate_b158 {hi : jw_H} {h : jw_H}  {r : Int32} {h' : jw_H} (hq : g_X10_locate_b158  h  = some (r, h')) : jw_E 9 uX10_locate hi 158 [none, none, none] [] h (.inl (some (.int r))) h' := by
  unfold g_X10_locate_b158 at hq
  refine jw_iconst dX10_locate_158 (v := (-1 : Int32)) (by decide) ?_
  refine jw_goto (tgt := 163) dX10_locate_159 (by decide) ?_
  exact l_X10_locate_b163  hq

set_option maxRecDepth 100000 in
set_option maxHeartbeats 4000000 in
theorem l_X10_locate_b133 {hi : jw_H} {h : jw_H} {x0 : Nat} {x1 : Option Nat} {x2 : Int32} {r : Int32} {h' : jw_H} (hq : g_X10_locate_b133  h x0 x1 x2 = some (r, h')) : jw_E 9 uX10_locate hi 133 [some (.ref x0), some (va_rf x1), some (.int x2)] [] h (.inl (some (.int r))) h' := by
  unfold g_X10_locate_b133 at hq
  refine jw_iload_n dX10_locate_133 rfl ?_
  refine jw_aload_n dX10_locate_134 (o := x1) rfl ?_
  obtain ⟨v1, ev1, hq⟩ := Option.bind_eq_some_iff.mp hq
  refine jw_getI (o := x1) dX10_locate_135 ev1 fl_X10_181 rfl ?_
  refine jw_iadd dX10_locate_138 ?_
  refine jw_istore_n (L' := [some (.ref x0), some (va_rf x1), some (.int (x2 + v1))]) dX10_locate_139 (Nat.le_of_ble_eq_true rfl) ((jw_st1_of (j := 1) jw_long_rf).trans rfl) ?_
  refine jw_iload_n dX10_locate_140 rfl ?_
  rcases jw_if hq with ⟨c2, hq⟩ | ⟨c2, hq⟩
  · refine jw_if_lt_t (tgt := 158) dX10_locate_141 (by decide) c2 ?_
    refine jw_forget [false, false, false] (L' := [none, none, none]) rfl ?_
    exact l_X10_locate_b158  hq
  · refine jw_if_lt_f (tgt := 158) dX10_locate_141 (by decide) c2 ?_
    refine jw_iload_n dX10_locate_144 rfl ?_
    refine jw_aload_n dX10_locate_145 (o := (some x0)) rfl ?_
    obtain ⟨v3, ev3, hq⟩ := Option.bind_eq_some_iff.mp hq
    refine jw_getR (o := (some x0)) dX10_locate_146 ev3 fl_X10_15 rfl ?_
    obtain ⟨v4, ev4, hq⟩ := Option.bind_eq_some_iff.mp hq
    refine jw_getR (o := v3) dX10_locate_149 ev4 fl_X10_123 rfl ?_
    obtain ⟨v5, ev5, hq⟩ := Option.bind_eq_some_iff.mp hq
    refine jw_getI (o := v4) dX10_locate_152 ev5 fl_X10_126 rfl ?_
    rcases jw_if hq with ⟨c6, hq⟩ | ⟨c6, hq⟩
    · refine jw_icmp_le_t (tgt := 162) dX10_locate_155 (by decide) c6 ?_
      refine jw_iload_n dX10_locate_162 rfl ?_
      refine jw_forget [false, false, false] (L' := [none, none, none]) rfl ?_
      exact l_X10_locate_b163  hq
    · refine jw_icmp_le_f (tgt := 162) dX10_locate_155 (by decide) c6 ?_
      refine jw_forget [false, false, false] (L' := [none, none, none]) rfl ?_
      exact l_X10_locate_b158  hq

set_option maxRecDepth 100000 in
set_option maxHeartbeats 4000000 in
theorem l_X10_locate_b121 {hi : jw_H} {h : jw_H} {x0 : Nat} {x1 : Option Nat} {t0 : Option Nat} {t1 : Option Nat} {t2 : Int32} {t3 : Int32} {r : Int32} {h' : jw_H} (hq : g_X10_locate_b121  h x0 x1 t0 t1 t2 t3 = some (r, h')) : jw_E 9 uX10_locate hi 121 [some (.ref x0), some (va_rf x1), none] [.int t3, .int t2, va_rf t1, va_rf t0] h (.inl (some (.int r))) h' := by
  unfold g_X10_locate_b121 at hq
  obtain ⟨a1, ea1, hq⟩ := Option.bind_eq_some_iff.mp hq
  obtain ⟨eoa1, eta1⟩ := jw_rc_spec ea1
  obtain ⟨w3, h2, ew3, hq⟩ := jw_b2_spec hq
  refine jw_callV (As := [va_rf t1, .int t2, .int t3]) (S := []) (a := a1) (v := some (.int w3)) dX10_locate_121 mt_X4_lineWith in_X4_lineWith se_X4_lineWith lk_X10_175 (c_X4_lineWith ew3) eta1 (by decide) rfl rfl (by decide) (Nat.le_of_ble_eq_true rfl) (by cases eoa1; rfl) ?_
  refine jw_istore_n (L' := [some (.ref x0), some (va_rf x1), some (.int w3)]) dX10_locate_124 (Nat.le_of_ble_eq_true rfl) ((jw_st1_of (j := 1) jw_long_rf).trans rfl) ?_
  refine jw_iload_n dX10_locate_125 rfl ?_
  refine jw_iconst dX10_locate_126 (v := (-1 : Int32)) (by decide) ?_
  rcases jw_if hq with ⟨c4, hq⟩ | ⟨c4, hq⟩
  · refine jw_icmp_ne_f (tgt := 133) dX10_locate_127 (by decide) c4 ?_
    refine jw_bipush dX10_locate_130 (v := (-2 : Int32)) (by decide) ?_
    cases hq
    exact jw_iret (ty := .int) dX10_locate_132 rfl rfl
  · refine jw_icmp_ne_t (tgt := 133) dX10_locate_127 (by decide) c4 ?_
    exact l_X10_locate_b133  hq

set_option maxRecDepth 100000 in
set_option maxHeartbeats 4000000 in
theorem l_X10_locate_b95 {hi : jw_H} {h : jw_H} {x0 : Nat} {x1 : Option Nat} {r : Int32} {h' : jw_H} (hq : g_X10_locate_b95  h x0 x1 = some (r, h')) : jw_E 9 uX10_locate hi 95 [some (.ref x0), some (va_rf x1), none] [] h (.inl (some (.int r))) h' := by
  unfold g_X10_locate_b95 at hq
  refine jw_aload_n dX10_locate_95 (o := (some x0)) rfl ?_
  obtain ⟨v1, ev1, hq⟩ := Option.bind_eq_some_iff.mp hq
  refine jw_getR (o := (some x0)) dX10_locate_96 ev1 fl_X10_26 rfl ?_
  refine jw_aload_n dX10_locate_99 (o := (some x0)) rfl ?_
  obtain ⟨v2, ev2, hq⟩ := Option.bind_eq_some_iff.mp hq
  refine jw_getR (o := (some x0)) dX10_locate_100 ev2 fl_X10_15 rfl ?_
  refine jw_aload_n dX10_locate_103 (o := x1) rfl ?_
  obtain ⟨v3, ev3, hq⟩ := Option.bind_eq_some_iff.mp hq
  refine jw_getI (o := x1) dX10_locate_104 ev3 fl_X10_168 rfl ?_
  refine jw_aload_n dX10_locate_107 (o := x1) rfl ?_
  obtain ⟨v4, ev4, hq⟩ := Option.bind_eq_some_iff.mp hq
  refine jw_getI (o := x1) dX10_locate_108 ev4 fl_X10_163 rfl ?_
  refine jw_bipush dX10_locate_111 (v := (63 : Int32)) (by decide) ?_
  rcases jw_if hq with ⟨c5, hq⟩ | ⟨c5, hq⟩
  · refine jw_icmp_ne_f (tgt := 120) dX10_locate_113 (by decide) c5 ?_
    refine jw_iconst dX10_locate_116 (v := (1 : Int32)) (by decide) ?_
    refine jw_goto (tgt := 121) dX10_locate_117 (by decide) ?_
    exact l_X10_locate_b121  hq
  · refine jw_icmp_ne_t (tgt := 120) dX10_locate_113 (by decide) c5 ?_
    refine jw_iconst dX10_locate_120 (v := (0 : Int32)) (by decide) ?_
    exact l_X10_locate_b121  hq

set_option maxRecDepth 100000 in
set_option maxHeartbeats 4000000 in
theorem l_X10_locate {hi : jw_H} {h : jw_H} {x0 : Nat} {x1 : Option Nat} {r : Int32} {h' : jw_H} (hq : f_X10_locate  h x0 x1 = some (r, h')) : jw_E 9 uX10_locate hi 0 [some (.ref x0), some (va_rf x1), none] [] h (.inl (some (.int r))) h' := by
  unfold f_X10_locate at hq
  refine jw_aload_n dX10_locate_0 (o := (some x0)) rfl ?_
  obtain ⟨v1, ev1, hq⟩ := Option.bind_eq_some_iff.mp hq
  refine jw_getR (o := (some x0)) dX10_locate_1 ev1 fl_X10_15 rfl ?_
  obtain ⟨v2, ev2, hq⟩ := Option.bind_eq_some_iff.mp hq
  refine jw_getI (o := v1) dX10_locate_4 ev2 fl_X10_135 rfl ?_
  refine jw_istore_n (L' := [some (.ref x0), some (va_rf x1), some (.int v2)]) dX10_locate_7 (Nat.le_of_ble_eq_true rfl) ((jw_st1_of (j := 1) jw_long_rf).trans rfl) ?_
  refine jw_aload_n dX10_locate_8 (o := x1) rfl ?_
  obtain ⟨v3, ev3, hq⟩ := Option.bind_eq_some_iff.mp hq
  refine jw_getI (o := x1) dX10_locate_9 ev3 fl_X10_163 rfl ?_
  refine jw_bipush dX10_locate_12 (v := (48 : Int32)) (by decide) ?_
  rcases jw_if hq with ⟨c4, hq⟩ | ⟨c4, hq⟩
  · refine jw_icmp_ne_f (tgt := 25) dX10_locate_14 (by decide) c4 ?_
    refine jw_aload_n dX10_locate_17 (o := x1) rfl ?_
    obtain ⟨v22, ev22, hq⟩ := Option.bind_eq_some_iff.mp hq
    refine jw_getI (o := x1) dX10_locate_18 ev22 fl_X10_168 rfl ?_
    refine jw_istore_n (L' := [some (.ref x0), some (va_rf x1), some (.int v22)]) dX10_locate_21 (Nat.le_of_ble_eq_true rfl) ((jw_st1_of (j := 1) jw_long_rf).trans rfl) ?_
    refine jw_goto (tgt := 133) dX10_locate_22 (by decide) ?_
    exact l_X10_locate_b133  hq
  · refine jw_icmp_ne_t (tgt := 25) dX10_locate_14 (by decide) c4 ?_
    refine jw_aload_n dX10_locate_25 (o := x1) rfl ?_
    obtain ⟨v5, ev5, hq⟩ := Option.bind_eq_some_iff.mp hq
    refine jw_getI (o := x1) dX10_locate_26 ev5 fl_X10_163 rfl ?_
    refine jw_bipush dX10_locate_29 (v := (36 : Int32)) (by decide) ?_
    rcases jw_if hq with ⟨c6, hq⟩ | ⟨c6, hq⟩
    · refine jw_icmp_ne_f (tgt := 48) dX10_locate_31 (by decide) c6 ?_
      refine jw_aload_n dX10_locate_34 (o := (some x0)) rfl ?_
      obtain ⟨v19, ev19, hq⟩ := Option.bind_eq_some_iff.mp hq
      refine jw_getR (o := (some x0)) dX10_locate_35 ev19 fl_X10_15 rfl ?_
      obtain ⟨v20, ev20, hq⟩ := Option.bind_eq_some_iff.mp hq
      refine jw_getR (o := v19) dX10_locate_38 ev20 fl_X10_123 rfl ?_
      obtain ⟨v21, ev21, hq⟩ := Option.bind_eq_some_iff.mp hq
      refine jw_getI (o := v20) dX10_locate_41 ev21 fl_X10_126 rfl ?_
      refine jw_istore_n (L' := [some (.ref x0), some (va_rf x1), some (.int v21)]) dX10_locate_44 (Nat.le_of_ble_eq_true rfl) ((jw_st1_of (j := 1) jw_long_rf).trans rfl) ?_
      refine jw_goto (tgt := 133) dX10_locate_45 (by decide) ?_
      exact l_X10_locate_b133  hq
    · refine jw_icmp_ne_t (tgt := 48) dX10_locate_31 (by decide) c6 ?_
      refine jw_aload_n dX10_locate_48 (o := x1) rfl ?_
      obtain ⟨v7, ev7, hq⟩ := Option.bind_eq_some_iff.mp hq
      refine jw_getI (o := x1) dX10_locate_49 ev7 fl_X10_163 rfl ?_
      refine jw_bipush dX10_locate_52 (v := (39 : Int32)) (by decide) ?_
      rcases jw_if hq with ⟨c8, hq⟩ | ⟨c8, hq⟩
      · refine jw_icmp_ne_f (tgt := 77) dX10_locate_54 (by decide) c8 ?_
        refine jw_aload_n dX10_locate_57 (o := (some x0)) rfl ?_
        obtain ⟨v13, ev13, hq⟩ := Option.bind_eq_some_iff.mp hq
        refine jw_getR (o := (some x0)) dX10_locate_58 ev13 fl_X10_15 rfl ?_
        refine jw_aload_n dX10_locate_61 (o := x1) rfl ?_
        obtain ⟨v14, ev14, hq⟩ := Option.bind_eq_some_iff.mp hq
        refine jw_getI (o := x1) dX10_locate_62 ev14 fl_X10_168 rfl ?_
        obtain ⟨a15, ea15, hq⟩ := Option.bind_eq_some_iff.mp hq
        obtain ⟨eoa15, eta15⟩ := jw_rc_spec ea15
        obtain ⟨w17, h16, ew17, hq⟩ := jw_b2_spec hq
        refine jw_callV (As := [.int v14]) (S := []) (a := a15) (v := some (.int w17)) dX10_locate_65 mt_X9_markedLine in_X9_markedLine se_X9_markedLine lk_X10_171 (c_X9_markedLine ew17) eta15 (by decide) rfl rfl (by decide) (Nat.le_of_ble_eq_true rfl) (by cases eoa15; rfl) ?_
        refine jw_istore_n (L' := [some (.ref x0), some (va_rf x1), some (.int w17)]) dX10_locate_68 (Nat.le_of_ble_eq_true rfl) ((jw_st1_of (j := 1) jw_long_rf).trans rfl) ?_
        refine jw_iload_n dX10_locate_69 rfl ?_
        refine jw_iconst dX10_locate_70 (v := (-1 : Int32)) (by decide) ?_
        rcases jw_if hq with ⟨c18, hq⟩ | ⟨c18, hq⟩
        · refine jw_icmp_ne_f (tgt := 133) dX10_locate_71 (by decide) c18 ?_
          refine jw_bipush dX10_locate_74 (v := (-3 : Int32)) (by decide) ?_
          cases hq
          exact jw_iret (ty := .int) dX10_locate_76 rfl rfl
        · refine jw_icmp_ne_t (tgt := 133) dX10_locate_71 (by decide) c18 ?_
          exact l_X10_locate_b133  hq
      · refine jw_icmp_ne_t (tgt := 77) dX10_locate_54 (by decide) c8 ?_
        refine jw_aload_n dX10_locate_77 (o := x1) rfl ?_
        obtain ⟨v9, ev9, hq⟩ := Option.bind_eq_some_iff.mp hq
        refine jw_getI (o := x1) dX10_locate_78 ev9 fl_X10_163 rfl ?_
        refine jw_bipush dX10_locate_81 (v := (47 : Int32)) (by decide) ?_
        rcases jw_if hq with ⟨c10, hq⟩ | ⟨c10, hq⟩
        · refine jw_icmp_eq_t (tgt := 95) dX10_locate_83 (by decide) c10 ?_
          refine jw_forget [true, true, false] (L' := [some (.ref x0), some (va_rf x1), none]) rfl ?_
          exact l_X10_locate_b95  hq
        · refine jw_icmp_eq_f (tgt := 95) dX10_locate_83 (by decide) c10 ?_
          refine jw_aload_n dX10_locate_86 (o := x1) rfl ?_
          obtain ⟨v11, ev11, hq⟩ := Option.bind_eq_some_iff.mp hq
          refine jw_getI (o := x1) dX10_locate_87 ev11 fl_X10_163 rfl ?_
          refine jw_bipush dX10_locate_90 (v := (63 : Int32)) (by decide) ?_
          rcases jw_if hq with ⟨c12, hq⟩ | ⟨c12, hq⟩
          · refine jw_icmp_ne_f (tgt := 133) dX10_locate_92 (by decide) c12 ?_
            refine jw_forget [true, true, false] (L' := [some (.ref x0), some (va_rf x1), none]) rfl ?_
            exact l_X10_locate_b95  hq
          · refine jw_icmp_ne_t (tgt := 133) dX10_locate_92 (by decide) c12 ?_
            exact l_X10_locate_b133  hq

theorem c_X10_locate {h : jw_H} {x0 : Nat} {x1 : Option Nat} {r : Int32} {h' : jw_H} (hq : f_X10_locate h x0 x1 = some (r, h')) : jw_Con (Cond.code yX10_locate cX10_locate 3 (some .int)) yX10_locate 9 [.ref x0, va_rf x1] h (.inl (some (.int r))) h' :=
  jw_con false (plainFor_of_name (by decide +kernel)) (fun z => nomatch z) (by simp [jw_ent, jw_sl0_nil, jw_sl0_int, jw_sl0_long, jw_sl0_ref, jw_sl0_rf, jw_sl0_scr, List.replicate]) (by simp [jw_sl0_nil, jw_sl0_int, jw_sl0_long, jw_sl0_ref, jw_sl0_rf, jw_sl0_scr]) (l_X10_locate hq)


/-! X10_findRange -/
noncomputable def g_X10_findRange_b107 (h : jw_H) (t0 : Int32) : Option (Int32 × jw_H) :=
 some (t0, h)

noncomputable def g_X10_findRange_b102 (h : jw_H)  : Option (Int32 × jw_H) :=
 g_X10_findRange_b107  h (0 : Int32)

noncomputable def g_X10_findRange_b184 (h : jw_H) (x0 : Nat) : Option (Int32 × jw_H) :=
 (jw_gI h 10 (some x0) 12).bind fun v1 =>
 (jw_gI h 10 (some x0) 13).bind fun v2 =>
 jw_b2 (f_J9_min_7cf53 h v1 v2) fun w4 h3 =>
 some ((-w4), h3)

noncomputable def g_X10_findRange_b227 (h : jw_H) (t0 : Int32) : Option (Int32 × jw_H) :=
 some (t0, h)

noncomputable def g_X10_findRange_b222 (h : jw_H)  : Option (Int32 × jw_H) :=
 g_X10_findRange_b227  h (1 : Int32)

noncomputable def g_X10_findRange_b226 (h : jw_H)  : Option (Int32 × jw_H) :=
 g_X10_findRange_b227  h (0 : Int32)

noncomputable def g_X10_findRange_b170 (h : jw_H) (x0 : Nat) (x1 : Option Nat) : Option (Int32 × jw_H) :=
 (jw_gI h 10 (some x0) 12).bind fun v1 =>
 if v1 < 0 then (g_X10_findRange_b184  h x0)
 else ((jw_gI h 10 (some x0) 13).bind fun v3 =>
 if 0 ≤ v3 then ((jw_gI h 10 (some x0) 12).bind fun v5 =>
 (jw_gI h 10 (some x0) 13).bind fun v6 =>
 if v6 < v5 then (g_X10_findRange_b222  h )
 else ((jw_gI h 10 (some x0) 12).bind fun v8 =>
 if v8 = 0 then ((jw_rc h 5 x1).bind fun a10 =>
 jw_b2 (f_X5_mayStandBehindNone h a10) fun w12 h11 =>
 if w12 = 0 then (g_X10_findRange_b222  h11 )
 else (g_X10_findRange_b226  h11 ))
 else (g_X10_findRange_b226  h )))
 else (g_X10_findRange_b184  h x0))

noncomputable def g_X10_findRange_b167 (h : jw_H) (x0 : Nat) (x1 : Option Nat) (t0 : Nat) (t1 : Int32) : Option (Int32 × jw_H) :=
 (jw_pI h 10 (some t0) 13 t1).bind fun h1 =>
 g_X10_findRange_b170  h1 x0 x1

noncomputable def g_X10_findRange_b163 (h : jw_H) (x0 : Nat) (x1 : Option Nat) (t0 : Nat) : Option (Int32 × jw_H) :=
 (jw_gI h 10 (some x0) 12).bind fun v1 =>
 g_X10_findRange_b167  h x0 x1 t0 v1

noncomputable def g_X10_findRange_b124 (h : jw_H) (x0 : Nat) (x1 : Option Nat) : Option (Int32 × jw_H) :=
 (jw_gR h 5 x1 0).bind fun v1 =>
 (jw_rc h 10 (some x0)).bind fun a2 =>
 jw_b2 (f_X10_locate h a2 v1) fun w4 h3 =>
 (jw_pI h3 10 (some x0) 12 w4).bind fun h5 =>
 (jw_gI h5 5 x1 4).bind fun v6 =>
 if v6 = (3 : Int32) then ((jw_gI h5 10 (some x0) 12).bind fun v8 =>
 if v8 < 0 then (g_X10_findRange_b163  h5 x0 x1 x0)
 else ((jw_gR h5 5 x1 1).bind fun v10 =>
 (jw_rc h5 10 (some x0)).bind fun a11 =>
 jw_b2 (f_X10_locate h5 a11 v10) fun w13 h12 =>
 g_X10_findRange_b167  h12 x0 x1 x0 w13))
 else (g_X10_findRange_b163  h5 x0 x1 x0)

noncomputable def g_X10_findRange_b55 (h : jw_H) (x0 : Nat) (x1 : Option Nat) (x2 : Int32) (x3 : Int32) : Option (Int32 × jw_H) :=
 (jw_gR h 10 (some x0) 1).bind fun v1 =>
 (jw_gI h 9 v1 3).bind fun v2 =>
 (jw_pI h 10 (some x0) 12 v2).bind fun h3 =>
 (jw_gR h3 10 (some x0) 1).bind fun v4 =>
 (jw_gI h3 9 v4 3).bind fun v5 =>
 (jw_pI h3 10 (some x0) 13 v5).bind fun h6 =>
 if x3 = 0 then ((jw_gI h6 5 x1 4).bind fun v8 =>
 if v8 = (2 : Int32) then (g_X10_findRange_b124  h6 x0 x1)
 else ((jw_gI h6 5 x1 4).bind fun v10 =>
 if v10 = (3 : Int32) then (g_X10_findRange_b124  h6 x0 x1)
 else (g_X10_findRange_b170  h6 x0 x1)))
 else ((jw_pI h6 10 (some x0) 12 (1 : Int32)).bind fun h12 =>
 (jw_pI h12 10 (some x0) 13 x2).bind fun h13 =>
 if 0 < x2 then (g_X10_findRange_b102  h13 )
 else ((jw_rc h13 5 x1).bind fun a15 =>
 jw_b2 (f_X5_takesAll h13 a15) fun w17 h16 =>
 if w17 = 0 then (g_X10_findRange_b107  h16 (1 : Int32))
 else (g_X10_findRange_b102  h16 )))

noncomputable def g_X10_findRange_b38 (h : jw_H) (x0 : Nat) (x1 : Option Nat) (x2 : Int32) (t0 : Int32) : Option (Int32 × jw_H) :=
 (jw_gI h 5 x1 4).bind fun v1 =>
 if v1 = 0 then ((jw_rc h 5 x1).bind fun a3 =>
 jw_b2 (f_X5_steers h a3) fun w5 h4 =>
 if w5 = 0 then (g_X10_findRange_b55  h4 x0 x1 x2 t0)
 else (some ((0 : Int32), h4)))
 else (g_X10_findRange_b55  h x0 x1 x2 t0)

noncomputable def g_X10_findRange_b33 (h : jw_H) (x0 : Nat) (x1 : Option Nat) (x2 : Int32) : Option (Int32 × jw_H) :=
 g_X10_findRange_b38  h x0 x1 x2 (1 : Int32)

noncomputable def g_X10_findRange_b37 (h : jw_H) (x0 : Nat) (x1 : Option Nat) (x2 : Int32) : Option (Int32 × jw_H) :=
 g_X10_findRange_b38  h x0 x1 x2 (0 : Int32)

noncomputable def f_X10_findRange (h : jw_H) (x0 : Nat) (x1 : Option Nat) : Option (Int32 × jw_H) :=
 (jw_gR h 10 (some x0) 1).bind fun v1 =>
 (jw_gR h 9 v1 0).bind fun v2 =>
 (jw_gI h 7 v2 2).bind fun v3 =>
 (jw_gI h 5 x1 4).bind fun v4 =>
 if v4 = (1 : Int32) then (g_X10_findRange_b33  h x0 x1 v3)
 else ((jw_gI h 5 x1 4).bind fun v6 =>
 if v6 = 0 then ((jw_rc h 5 x1).bind fun a8 =>
 jw_b2 (f_X5_takesAll h a8) fun w10 h9 =>
 if w10 = 0 then (g_X10_findRange_b37  h9 x0 x1 v3)
 else (g_X10_findRange_b33  h9 x0 x1 v3))
 else (g_X10_findRange_b37  h x0 x1 v3))

set_option maxRecDepth 100000 in
set_option maxHeartbeats 4000000 in
theorem l_X10_findRange_b107 {hi : jw_H} {h : jw_H} {t0 : Int32} {r : Int32} {h' : jw_H} (hq : g_X10_findRange_b107  h t0 = some (r, h')) : jw_E 10 uX10_findRange hi 107 [none, none, none, none] [.int t0] h (.inl (some (.int r))) h' := by
  unfold g_X10_findRange_b107 at hq
  cases hq
  exact jw_iret (ty := .int) dX10_findRange_107 rfl rfl

set_option maxRecDepth 100000 in
set_option maxHeartbeats 4000000 in
theorem l_X10_findRange_b102 {hi : jw_H} {h : jw_H}  {r : Int32} {h' : jw_H} (hq : g_X10_findRange_b102  h  = some (r, h')) : jw_E 10 uX10_findRange hi 102 [none, none, none, none] [] h (.inl (some (.int r))) h' := by
  unfold g_X10_findRange_b102 at hq
  refine jw_iconst dX10_findRange_102 (v := (0 : Int32)) (by decide) ?_
  refine jw_goto (tgt := 107) dX10_findRange_103 (by decide) ?_
  exact l_X10_findRange_b107  hq

set_option maxRecDepth 100000 in
set_option maxHeartbeats 4000000 in
theorem l_X10_findRange_b184 {hi : jw_H} {h : jw_H} {x0 : Nat} {r : Int32} {h' : jw_H} (hq : g_X10_findRange_b184  h x0 = some (r, h')) : jw_E 10 uX10_findRange hi 184 [some (.ref x0), none, none, none] [] h (.inl (some (.int r))) h' := by
  unfold g_X10_findRange_b184 at hq
  refine jw_aload_n dX10_findRange_184 (o := (some x0)) rfl ?_
  obtain ⟨v1, ev1, hq⟩ := Option.bind_eq_some_iff.mp hq
  refine jw_getI (o := (some x0)) dX10_findRange_185 ev1 fl_X10_138 rfl ?_
  refine jw_aload_n dX10_findRange_188 (o := (some x0)) rfl ?_
  obtain ⟨v2, ev2, hq⟩ := Option.bind_eq_some_iff.mp hq
  refine jw_getI (o := (some x0)) dX10_findRange_189 ev2 fl_X10_141 rfl ?_
  obtain ⟨w4, h3, ew4, hq⟩ := jw_b2_spec hq
  refine jw_callS (As := [.int v1, .int v2]) (S := []) (v := some (.int w4)) dX10_findRange_192 mt_J9_min_7cf53 st_J9_min_7cf53 lk_X10_154 (c_J9_min_7cf53 ew4) rfl (by decide) (Nat.le_of_ble_eq_true rfl) rfl ?_
  refine jw_ineg dX10_findRange_195 ?_
  cases hq
  exact jw_iret (ty := .int) dX10_findRange_196 rfl rfl

set_option maxRecDepth 100000 in
set_option maxHeartbeats 4000000 in
theorem l_X10_findRange_b227 {hi : jw_H} {h : jw_H} {t0 : Int32} {r : Int32} {h' : jw_H} (hq : g_X10_findRange_b227  h t0 = some (r, h')) : jw_E 10 uX10_findRange hi 227 [none, none, none, none] [.int t0] h (.inl (some (.int r))) h' := by
  unfold g_X10_findRange_b227 at hq
  cases hq
  exact jw_iret (ty := .int) dX10_findRange_227 rfl rfl

set_option maxRecDepth 100000 in
set_option maxHeartbeats 4000000 in
theorem l_X10_findRange_b222 {hi : jw_H} {h : jw_H}  {r : Int32} {h' : jw_H} (hq : g_X10_findRange_b222  h  = some (r, h')) : jw_E 10 uX10_findRange hi 222 [none, none, none, none] [] h (.inl (some (.int r))) h' := by
  unfold g_X10_findRange_b222 at hq
  refine jw_iconst dX10_findRange_222 (v := (1 : Int32)) (by decide) ?_
  refine jw_goto (tgt := 227) dX10_findRange_223 (by decide) ?_
  exact l_X10_findRange_b227  hq

set_option maxRecDepth 100000 in
set_option maxHeartbeats 4000000 in
theorem l_X10_findRange_b226 {hi : jw_H} {h : jw_H}  {r : Int32} {h' : jw_H} (hq : g_X10_findRange_b226  h  = some (r, h')) : jw_E 10 uX10_findRange hi 226 [none, none, none, none] [] h (.inl (some (.int r))) h' := by
  unfold g_X10_findRange_b226 at hq
  refine jw_iconst dX10_findRange_226 (v := (0 : Int32)) (by decide) ?_
  exact l_X10_findRange_b227  hq

set_option maxRecDepth 100000 in
set_option maxHeartbeats 4000000 in
theorem l_X10_findRange_b170 {hi : jw_H} {h : jw_H} {x0 : Nat} {x1 : Option Nat} {r : Int32} {h' : jw_H} (hq : g_X10_findRange_b170  h x0 x1 = some (r, h')) : jw_E 10 uX10_findRange hi 170 [some (.ref x0), some (va_rf x1), none, none] [] h (.inl (some (.int r))) h' := by
  unfold g_X10_findRange_b170 at hq
  refine jw_aload_n dX10_findRange_170 (o := (some x0)) rfl ?_
  obtain ⟨v1, ev1, hq⟩ := Option.bind_eq_some_iff.mp hq
  refine jw_getI (o := (some x0)) dX10_findRange_171 ev1 fl_X10_138 rfl ?_
  rcases jw_if hq with ⟨c2, hq⟩ | ⟨c2, hq⟩
  · refine jw_if_lt_t (tgt := 184) dX10_findRange_174 (by decide) c2 ?_
    refine jw_forget [true, false, true, true] (L' := [some (.ref x0), none, none, none]) rfl ?_
    exact l_X10_findRange_b184  hq
  · refine jw_if_lt_f (tgt := 184) dX10_findRange_174 (by decide) c2 ?_
    refine jw_aload_n dX10_findRange_177 (o := (some x0)) rfl ?_
    obtain ⟨v3, ev3, hq⟩ := Option.bind_eq_some_iff.mp hq
    refine jw_getI (o := (some x0)) dX10_findRange_178 ev3 fl_X10_141 rfl ?_
    rcases jw_if hq with ⟨c4, hq⟩ | ⟨c4, hq⟩
    · refine jw_if_ge_t (tgt := 197) dX10_findRange_181 (by decide) c4 ?_
      refine jw_aload_n dX10_findRange_197 (o := (some x0)) rfl ?_
      obtain ⟨v5, ev5, hq⟩ := Option.bind_eq_some_iff.mp hq
      refine jw_getI (o := (some x0)) dX10_findRange_198 ev5 fl_X10_138 rfl ?_
      refine jw_aload_n dX10_findRange_201 (o := (some x0)) rfl ?_
      obtain ⟨v6, ev6, hq⟩ := Option.bind_eq_some_iff.mp hq
      refine jw_getI (o := (some x0)) dX10_findRange_202 ev6 fl_X10_141 rfl ?_
      rcases jw_if hq with ⟨c7, hq⟩ | ⟨c7, hq⟩
      · refine jw_icmp_gt_t (tgt := 222) dX10_findRange_205 (by decide) c7 ?_
        refine jw_forget [false, false, true, true] (L' := [none, none, none, none]) rfl ?_
        exact l_X10_findRange_b222  hq
      · refine jw_icmp_gt_f (tgt := 222) dX10_findRange_205 (by decide) c7 ?_
        refine jw_aload_n dX10_findRange_208 (o := (some x0)) rfl ?_
        obtain ⟨v8, ev8, hq⟩ := Option.bind_eq_some_iff.mp hq
        refine jw_getI (o := (some x0)) dX10_findRange_209 ev8 fl_X10_138 rfl ?_
        rcases jw_if hq with ⟨c9, hq⟩ | ⟨c9, hq⟩
        · refine jw_if_ne_f (tgt := 226) dX10_findRange_212 (by decide) c9 ?_
          refine jw_aload_n dX10_findRange_215 (o := x1) rfl ?_
          obtain ⟨a10, ea10, hq⟩ := Option.bind_eq_some_iff.mp hq
          obtain ⟨eoa10, eta10⟩ := jw_rc_spec ea10
          obtain ⟨w12, h11, ew12, hq⟩ := jw_b2_spec hq
          refine jw_callV (As := []) (S := []) (a := a10) (v := some (.int w12)) dX10_findRange_216 mt_X5_mayStandBehindNone in_X5_mayStandBehindNone se_X5_mayStandBehindNone lk_X10_160 (c_X5_mayStandBehindNone ew12) eta10 (by decide) rfl rfl (by decide) (Nat.le_of_ble_eq_true rfl) (by cases eoa10; rfl) ?_
          rcases jw_if hq with ⟨c13, hq⟩ | ⟨c13, hq⟩
          · refine jw_if_ne_f (tgt := 226) dX10_findRange_219 (by decide) c13 ?_
            refine jw_forget [false, false, true, true] (L' := [none, none, none, none]) rfl ?_
            exact l_X10_findRange_b222  hq
          · refine jw_if_ne_t (tgt := 226) dX10_findRange_219 (by decide) c13 ?_
            refine jw_forget [false, false, true, true] (L' := [none, none, none, none]) rfl ?_
            exact l_X10_findRange_b226  hq
        · refine jw_if_ne_t (tgt := 226) dX10_findRange_212 (by decide) c9 ?_
          refine jw_forget [false, false, true, true] (L' := [none, none, none, none]) rfl ?_
          exact l_X10_findRange_b226  hq
    · refine jw_if_ge_f (tgt := 197) dX10_findRange_181 (by decide) c4 ?_
      refine jw_forget [true, false, true, true] (L' := [some (.ref x0), none, none, none]) rfl ?_
      exact l_X10_findRange_b184  hq

set_option maxRecDepth 100000 in
set_option maxHeartbeats 4000000 in
theorem l_X10_findRange_b167 {hi : jw_H} {h : jw_H} {x0 : Nat} {x1 : Option Nat} {t0 : Nat} {t1 : Int32} {r : Int32} {h' : jw_H} (hq : g_X10_findRange_b167  h x0 x1 t0 t1 = some (r, h')) : jw_E 10 uX10_findRange hi 167 [some (.ref x0), some (va_rf x1), none, none] [.int t1, .ref t0] h (.inl (some (.int r))) h' := by
  unfold g_X10_findRange_b167 at hq
  obtain ⟨h1, eh1, hq⟩ := Option.bind_eq_some_iff.mp hq
  refine jw_putI (o := (some t0)) dX10_findRange_167 eh1 fl_X10_141 rfl rfl ?_
  exact l_X10_findRange_b170  hq

set_option maxRecDepth 100000 in
set_option maxHeartbeats 4000000 in
theorem l_X10_findRange_b163 {hi : jw_H} {h : jw_H} {x0 : Nat} {x1 : Option Nat} {t0 : Nat} {r : Int32} {h' : jw_H} (hq : g_X10_findRange_b163  h x0 x1 t0 = some (r, h')) : jw_E 10 uX10_findRange hi 163 [some (.ref x0), some (va_rf x1), none, none] [.ref t0] h (.inl (some (.int r))) h' := by
  unfold g_X10_findRange_b163 at hq
  refine jw_aload_n dX10_findRange_163 (o := (some x0)) rfl ?_
  obtain ⟨v1, ev1, hq⟩ := Option.bind_eq_some_iff.mp hq
  refine jw_getI (o := (some x0)) dX10_findRange_164 ev1 fl_X10_138 rfl ?_
  exact l_X10_findRange_b167  hq

set_option maxRecDepth 100000 in
set_option maxHeartbeats 4000000 in
theorem l_X10_findRange_b124 {hi : jw_H} {h : jw_H} {x0 : Nat} {x1 : Option Nat} {r : Int32} {h' : jw_H} (hq : g_X10_findRange_b124  h x0 x1 = some (r, h')) : jw_E 10 uX10_findRange hi 124 [some (.ref x0), some (va_rf x1), none, none] [] h (.inl (some (.int r))) h' := by
  unfold g_X10_findRange_b124 at hq
  refine jw_aload_n dX10_findRange_124 (o := (some x0)) rfl ?_
  refine jw_aload_n dX10_findRange_125 (o := (some x0)) rfl ?_
  refine jw_aload_n dX10_findRange_126 (o := x1) rfl ?_
  obtain ⟨v1, ev1, hq⟩ := Option.bind_eq_some_iff.mp hq
  refine jw_getR (o := x1) dX10_findRange_127 ev1 fl_X10_144 rfl ?_
  obtain ⟨a2, ea2, hq⟩ := Option.bind_eq_some_iff.mp hq
  obtain ⟨eoa2, eta2⟩ := jw_rc_spec ea2
  obtain ⟨w4, h3, ew4, hq⟩ := jw_b2_spec hq
  refine jw_callV (As := [va_rf v1]) (S := [.ref x0]) (a := a2) (v := some (.int w4)) dX10_findRange_130 mt_X10_locate in_X10_locate se_X10_locate lk_X10_147 (c_X10_locate ew4) eta2 (by decide) rfl rfl (by decide) (Nat.le_of_ble_eq_true rfl) (by cases eoa2; rfl) ?_
  obtain ⟨h5, eh5, hq⟩ := Option.bind_eq_some_iff.mp hq
  refine jw_putI (o := (some x0)) dX10_findRange_133 eh5 fl_X10_138 rfl rfl ?_
  refine jw_aload_n dX10_findRange_136 (o := (some x0)) rfl ?_
  refine jw_aload_n dX10_findRange_137 (o := x1) rfl ?_
  obtain ⟨v6, ev6, hq⟩ := Option.bind_eq_some_iff.mp hq
  refine jw_getI (o := x1) dX10_findRange_138 ev6 fl_X10_129 rfl ?_
  refine jw_iconst dX10_findRange_141 (v := (3 : Int32)) (by decide) ?_
  rcases jw_if hq with ⟨c7, hq⟩ | ⟨c7, hq⟩
  · refine jw_icmp_ne_f (tgt := 163) dX10_findRange_142 (by decide) c7 ?_
    refine jw_aload_n dX10_findRange_145 (o := (some x0)) rfl ?_
    obtain ⟨v8, ev8, hq⟩ := Option.bind_eq_some_iff.mp hq
    refine jw_getI (o := (some x0)) dX10_findRange_146 ev8 fl_X10_138 rfl ?_
    rcases jw_if hq with ⟨c9, hq⟩ | ⟨c9, hq⟩
    · refine jw_if_lt_t (tgt := 163) dX10_findRange_149 (by decide) c9 ?_
      exact l_X10_findRange_b163  hq
    · refine jw_if_lt_f (tgt := 163) dX10_findRange_149 (by decide) c9 ?_
      refine jw_aload_n dX10_findRange_152 (o := (some x0)) rfl ?_
      refine jw_aload_n dX10_findRange_153 (o := x1) rfl ?_
      obtain ⟨v10, ev10, hq⟩ := Option.bind_eq_some_iff.mp hq
      refine jw_getR (o := x1) dX10_findRange_154 ev10 fl_X10_151 rfl ?_
      obtain ⟨a11, ea11, hq⟩ := Option.bind_eq_some_iff.mp hq
      obtain ⟨eoa11, eta11⟩ := jw_rc_spec ea11
      obtain ⟨w13, h12, ew13, hq⟩ := jw_b2_spec hq
      refine jw_callV (As := [va_rf v10]) (S := [.ref x0]) (a := a11) (v := some (.int w13)) dX10_findRange_157 mt_X10_locate in_X10_locate se_X10_locate lk_X10_147 (c_X10_locate ew13) eta11 (by decide) rfl rfl (by decide) (Nat.le_of_ble_eq_true rfl) (by cases eoa11; rfl) ?_
      refine jw_goto (tgt := 167) dX10_findRange_160 (by decide) ?_
      exact l_X10_findRange_b167  hq
  · refine jw_icmp_ne_t (tgt := 163) dX10_findRange_142 (by decide) c7 ?_
    exact l_X10_findRange_b163  hq

set_option maxRecDepth 100000 in
set_option maxHeartbeats 4000000 in
theorem l_X10_findRange_b55 {hi : jw_H} {h : jw_H} {x0 : Nat} {x1 : Option Nat} {x2 : Int32} {x3 : Int32} {r : Int32} {h' : jw_H} (hq : g_X10_findRange_b55  h x0 x1 x2 x3 = some (r, h')) : jw_E 10 uX10_findRange hi 55 [some (.ref x0), some (va_rf x1), some (.int x2), some (.int x3)] [] h (.inl (some (.int r))) h' := by
  unfold g_X10_findRange_b55 at hq
  refine jw_aload_n dX10_findRange_55 (o := (some x0)) rfl ?_
  refine jw_aload_n dX10_findRange_56 (o := (some x0)) rfl ?_
  obtain ⟨v1, ev1, hq⟩ := Option.bind_eq_some_iff.mp hq
  refine jw_getR (o := (some x0)) dX10_findRange_57 ev1 fl_X10_15 rfl ?_
  obtain ⟨v2, ev2, hq⟩ := Option.bind_eq_some_iff.mp hq
  refine jw_getI (o := v1) dX10_findRange_60 ev2 fl_X10_135 rfl ?_
  obtain ⟨h3, eh3, hq⟩ := Option.bind_eq_some_iff.mp hq
  refine jw_putI (o := (some x0)) dX10_findRange_63 eh3 fl_X10_138 rfl rfl ?_
  refine jw_aload_n dX10_findRange_66 (o := (some x0)) rfl ?_
  refine jw_aload_n dX10_findRange_67 (o := (some x0)) rfl ?_
  obtain ⟨v4, ev4, hq⟩ := Option.bind_eq_some_iff.mp hq
  refine jw_getR (o := (some x0)) dX10_findRange_68 ev4 fl_X10_15 rfl ?_
  obtain ⟨v5, ev5, hq⟩ := Option.bind_eq_some_iff.mp hq
  refine jw_getI (o := v4) dX10_findRange_71 ev5 fl_X10_135 rfl ?_
  obtain ⟨h6, eh6, hq⟩ := Option.bind_eq_some_iff.mp hq
  refine jw_putI (o := (some x0)) dX10_findRange_74 eh6 fl_X10_141 rfl rfl ?_
  refine jw_iload_n dX10_findRange_77 rfl ?_
  rcases jw_if hq with ⟨c7, hq⟩ | ⟨c7, hq⟩
  · refine jw_if_eq_t (tgt := 108) dX10_findRange_78 (by decide) c7 ?_
    refine jw_aload_n dX10_findRange_108 (o := x1) rfl ?_
    obtain ⟨v8, ev8, hq⟩ := Option.bind_eq_some_iff.mp hq
    refine jw_getI (o := x1) dX10_findRange_109 ev8 fl_X10_129 rfl ?_
    refine jw_iconst dX10_findRange_112 (v := (2 : Int32)) (by decide) ?_
    rcases jw_if hq with ⟨c9, hq⟩ | ⟨c9, hq⟩
    · refine jw_icmp_eq_t (tgt := 124) dX10_findRange_113 (by decide) c9 ?_
      refine jw_forget [true, true, false, false] (L' := [some (.ref x0), some (va_rf x1), none, none]) rfl ?_
      exact l_X10_findRange_b124  hq
    · refine jw_icmp_eq_f (tgt := 124) dX10_findRange_113 (by decide) c9 ?_
      refine jw_aload_n dX10_findRange_116 (o := x1) rfl ?_
      obtain ⟨v10, ev10, hq⟩ := Option.bind_eq_some_iff.mp hq
      refine jw_getI (o := x1) dX10_findRange_117 ev10 fl_X10_129 rfl ?_
      refine jw_iconst dX10_findRange_120 (v := (3 : Int32)) (by decide) ?_
      rcases jw_if hq with ⟨c11, hq⟩ | ⟨c11, hq⟩
      · refine jw_icmp_ne_f (tgt := 170) dX10_findRange_121 (by decide) c11 ?_
        refine jw_forget [true, true, false, false] (L' := [some (.ref x0), some (va_rf x1), none, none]) rfl ?_
        exact l_X10_findRange_b124  hq
      · refine jw_icmp_ne_t (tgt := 170) dX10_findRange_121 (by decide) c11 ?_
        refine jw_forget [true, true, false, false] (L' := [some (.ref x0), some (va_rf x1), none, none]) rfl ?_
        exact l_X10_findRange_b170  hq
  · refine jw_if_eq_f (tgt := 108) dX10_findRange_78 (by decide) c7 ?_
    refine jw_aload_n dX10_findRange_81 (o := (some x0)) rfl ?_
    refine jw_iconst dX10_findRange_82 (v := (1 : Int32)) (by decide) ?_
    obtain ⟨h12, eh12, hq⟩ := Option.bind_eq_some_iff.mp hq
    refine jw_putI (o := (some x0)) dX10_findRange_83 eh12 fl_X10_138 rfl rfl ?_
    refine jw_aload_n dX10_findRange_86 (o := (some x0)) rfl ?_
    refine jw_iload_n dX10_findRange_87 rfl ?_
    obtain ⟨h13, eh13, hq⟩ := Option.bind_eq_some_iff.mp hq
    refine jw_putI (o := (some x0)) dX10_findRange_88 eh13 fl_X10_141 rfl rfl ?_
    refine jw_iload_n dX10_findRange_91 rfl ?_
    rcases jw_if hq with ⟨c14, hq⟩ | ⟨c14, hq⟩
    · refine jw_if_gt_t (tgt := 102) dX10_findRange_92 (by decide) c14 ?_
      refine jw_forget [false, false, false, false] (L' := [none, none, none, none]) rfl ?_
      exact l_X10_findRange_b102  hq
    · refine jw_if_gt_f (tgt := 102) dX10_findRange_92 (by decide) c14 ?_
      refine jw_aload_n dX10_findRange_95 (o := x1) rfl ?_
      obtain ⟨a15, ea15, hq⟩ := Option.bind_eq_some_iff.mp hq
      obtain ⟨eoa15, eta15⟩ := jw_rc_spec ea15
      obtain ⟨w17, h16, ew17, hq⟩ := jw_b2_spec hq
      refine jw_callV (As := []) (S := []) (a := a15) (v := some (.int w17)) dX10_findRange_96 mt_X5_takesAll in_X5_takesAll se_X5_takesAll lk_X10_132 (c_X5_takesAll ew17) eta15 (by decide) rfl rfl (by decide) (Nat.le_of_ble_eq_true rfl) (by cases eoa15; rfl) ?_
      rcases jw_if hq with ⟨c18, hq⟩ | ⟨c18, hq⟩
      · refine jw_if_eq_t (tgt := 106) dX10_findRange_99 (by decide) c18 ?_
        refine jw_iconst dX10_findRange_106 (v := (1 : Int32)) (by decide) ?_
        refine jw_forget [false, false, false, false] (L' := [none, none, none, none]) rfl ?_
        exact l_X10_findRange_b107  hq
      · refine jw_if_eq_f (tgt := 106) dX10_findRange_99 (by decide) c18 ?_
        refine jw_forget [false, false, false, false] (L' := [none, none, none, none]) rfl ?_
        exact l_X10_findRange_b102  hq

set_option maxRecDepth 100000 in
set_option maxHeartbeats 4000000 in
theorem l_X10_findRange_b38 {hi : jw_H} {h : jw_H} {x0 : Nat} {x1 : Option Nat} {x2 : Int32} {t0 : Int32} {r : Int32} {h' : jw_H} (hq : g_X10_findRange_b38  h x0 x1 x2 t0 = some (r, h')) : jw_E 10 uX10_findRange hi 38 [some (.ref x0), some (va_rf x1), some (.int x2), none] [.int t0] h (.inl (some (.int r))) h' := by
  unfold g_X10_findRange_b38 at hq
  refine jw_istore_n (L' := [some (.ref x0), some (va_rf x1), some (.int x2), some (.int t0)]) dX10_findRange_38 (Nat.le_of_ble_eq_true rfl) rfl ?_
  refine jw_aload_n dX10_findRange_39 (o := x1) rfl ?_
  obtain ⟨v1, ev1, hq⟩ := Option.bind_eq_some_iff.mp hq
  refine jw_getI (o := x1) dX10_findRange_40 ev1 fl_X10_129 rfl ?_
  rcases jw_if hq with ⟨c2, hq⟩ | ⟨c2, hq⟩
  · refine jw_if_ne_f (tgt := 55) dX10_findRange_43 (by decide) c2 ?_
    refine jw_aload_n dX10_findRange_46 (o := x1) rfl ?_
    obtain ⟨a3, ea3, hq⟩ := Option.bind_eq_some_iff.mp hq
    obtain ⟨eoa3, eta3⟩ := jw_rc_spec ea3
    obtain ⟨w5, h4, ew5, hq⟩ := jw_b2_spec hq
    refine jw_callV (As := []) (S := []) (a := a3) (v := some (.int w5)) dX10_findRange_47 mt_X5_steers in_X5_steers se_X5_steers lk_X10_97 (c_X5_steers ew5) eta3 (by decide) rfl rfl (by decide) (Nat.le_of_ble_eq_true rfl) (by cases eoa3; rfl) ?_
    rcases jw_if hq with ⟨c6, hq⟩ | ⟨c6, hq⟩
    · refine jw_if_eq_t (tgt := 55) dX10_findRange_50 (by decide) c6 ?_
      exact l_X10_findRange_b55  hq
    · refine jw_if_eq_f (tgt := 55) dX10_findRange_50 (by decide) c6 ?_
      refine jw_iconst dX10_findRange_53 (v := (0 : Int32)) (by decide) ?_
      cases hq
      exact jw_iret (ty := .int) dX10_findRange_54 rfl rfl
  · refine jw_if_ne_t (tgt := 55) dX10_findRange_43 (by decide) c2 ?_
    exact l_X10_findRange_b55  hq

set_option maxRecDepth 100000 in
set_option maxHeartbeats 4000000 in
theorem l_X10_findRange_b33 {hi : jw_H} {h : jw_H} {x0 : Nat} {x1 : Option Nat} {x2 : Int32} {r : Int32} {h' : jw_H} (hq : g_X10_findRange_b33  h x0 x1 x2 = some (r, h')) : jw_E 10 uX10_findRange hi 33 [some (.ref x0), some (va_rf x1), some (.int x2), none] [] h (.inl (some (.int r))) h' := by
  unfold g_X10_findRange_b33 at hq
  refine jw_iconst dX10_findRange_33 (v := (1 : Int32)) (by decide) ?_
  refine jw_goto (tgt := 38) dX10_findRange_34 (by decide) ?_
  exact l_X10_findRange_b38  hq

set_option maxRecDepth 100000 in
set_option maxHeartbeats 4000000 in
theorem l_X10_findRange_b37 {hi : jw_H} {h : jw_H} {x0 : Nat} {x1 : Option Nat} {x2 : Int32} {r : Int32} {h' : jw_H} (hq : g_X10_findRange_b37  h x0 x1 x2 = some (r, h')) : jw_E 10 uX10_findRange hi 37 [some (.ref x0), some (va_rf x1), some (.int x2), none] [] h (.inl (some (.int r))) h' := by
  unfold g_X10_findRange_b37 at hq
  refine jw_iconst dX10_findRange_37 (v := (0 : Int32)) (by decide) ?_
  exact l_X10_findRange_b38  hq

set_option maxRecDepth 100000 in
set_option maxHeartbeats 4000000 in
theorem l_X10_findRange {hi : jw_H} {h : jw_H} {x0 : Nat} {x1 : Option Nat} {r : Int32} {h' : jw_H} (hq : f_X10_findRange  h x0 x1 = some (r, h')) : jw_E 10 uX10_findRange hi 0 [some (.ref x0), some (va_rf x1), none, none] [] h (.inl (some (.int r))) h' := by
  unfold f_X10_findRange at hq
  refine jw_aload_n dX10_findRange_0 (o := (some x0)) rfl ?_
  obtain ⟨v1, ev1, hq⟩ := Option.bind_eq_some_iff.mp hq
  refine jw_getR (o := (some x0)) dX10_findRange_1 ev1 fl_X10_15 rfl ?_
  obtain ⟨v2, ev2, hq⟩ := Option.bind_eq_some_iff.mp hq
  refine jw_getR (o := v1) dX10_findRange_4 ev2 fl_X10_123 rfl ?_
  obtain ⟨v3, ev3, hq⟩ := Option.bind_eq_some_iff.mp hq
  refine jw_getI (o := v2) dX10_findRange_7 ev3 fl_X10_126 rfl ?_
  refine jw_istore_n (L' := [some (.ref x0), some (va_rf x1), some (.int v3), none]) dX10_findRange_10 (Nat.le_of_ble_eq_true rfl) ((jw_st1_of (j := 1) jw_long_rf).trans rfl) ?_
  refine jw_aload_n dX10_findRange_11 (o := x1) rfl ?_
  obtain ⟨v4, ev4, hq⟩ := Option.bind_eq_some_iff.mp hq
  refine jw_getI (o := x1) dX10_findRange_12 ev4 fl_X10_129 rfl ?_
  refine jw_iconst dX10_findRange_15 (v := (1 : Int32)) (by decide) ?_
  rcases jw_if hq with ⟨c5, hq⟩ | ⟨c5, hq⟩
  · refine jw_icmp_eq_t (tgt := 33) dX10_findRange_16 (by decide) c5 ?_
    exact l_X10_findRange_b33  hq
  · refine jw_icmp_eq_f (tgt := 33) dX10_findRange_16 (by decide) c5 ?_
    refine jw_aload_n dX10_findRange_19 (o := x1) rfl ?_
    obtain ⟨v6, ev6, hq⟩ := Option.bind_eq_some_iff.mp hq
    refine jw_getI (o := x1) dX10_findRange_20 ev6 fl_X10_129 rfl ?_
    rcases jw_if hq with ⟨c7, hq⟩ | ⟨c7, hq⟩
    · refine jw_if_ne_f (tgt := 37) dX10_findRange_23 (by decide) c7 ?_
      refine jw_aload_n dX10_findRange_26 (o := x1) rfl ?_
      obtain ⟨a8, ea8, hq⟩ := Option.bind_eq_some_iff.mp hq
      obtain ⟨eoa8, eta8⟩ := jw_rc_spec ea8
      obtain ⟨w10, h9, ew10, hq⟩ := jw_b2_spec hq
      refine jw_callV (As := []) (S := []) (a := a8) (v := some (.int w10)) dX10_findRange_27 mt_X5_takesAll in_X5_takesAll se_X5_takesAll lk_X10_132 (c_X5_takesAll ew10) eta8 (by decide) rfl rfl (by decide) (Nat.le_of_ble_eq_true rfl) (by cases eoa8; rfl) ?_
      rcases jw_if hq with ⟨c11, hq⟩ | ⟨c11, hq⟩
      · refine jw_if_eq_t (tgt := 37) dX10_findRange_30 (by decide) c11 ?_
        exact l_X10_findRange_b37  hq
      · refine jw_if_eq_f (tgt := 37) dX10_findRange_30 (by decide) c11 ?_
        exact l_X10_findRange_b33  hq
    · refine jw_if_ne_t (tgt := 37) dX10_findRange_23 (by decide) c7 ?_
      exact l_X10_findRange_b37  hq

theorem c_X10_findRange {h : jw_H} {x0 : Nat} {x1 : Option Nat} {r : Int32} {h' : jw_H} (hq : f_X10_findRange h x0 x1 = some (r, h')) : jw_Con (Cond.code yX10_findRange cX10_findRange 4 (some .int)) yX10_findRange 10 [.ref x0, va_rf x1] h (.inl (some (.int r))) h' :=
  jw_con false (plainFor_of_name (by decide +kernel)) (fun z => nomatch z) (by simp [jw_ent, jw_sl0_nil, jw_sl0_int, jw_sl0_long, jw_sl0_ref, jw_sl0_rf, jw_sl0_scr, List.replicate]) (by simp [jw_sl0_nil, jw_sl0_int, jw_sl0_long, jw_sl0_ref, jw_sl0_rf, jw_sl0_scr]) (l_X10_findRange hq)

