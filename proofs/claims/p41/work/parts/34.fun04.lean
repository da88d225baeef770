/-! X11_play -/
noncomputable def f_X11_play (h : jw_H) (x0 : Nat) (x1 : Int32) : Option ((Int32 ⊕ String) × jw_H) :=
 (jw_rc h 11 (some x0)).bind fun a1 =>
 jw_b2 (f_X11_isNoScript h a1 x1) fun w3 h2 =>
 if w3 = 0 then ((jw_gR h2 11 (some x0) 2).bind fun v5 =>
 (jw_ai h2 20 v5 x1).bind fun v6 =>
 if v6 = (-1 : Int32) then (some (Sum.inr "java/lang/IllegalStateException", jw_thw h2))
 else ((jw_gR h2 11 (some x0) 5).bind fun v8 =>
 (jw_gR h2 11 (some x0) 1).bind fun v9 =>
 (jw_ar h2 24 v9 x1).bind fun v10 =>
 (jw_gR h2 11 (some x0) 2).bind fun v11 =>
 (jw_ai h2 20 v11 x1).bind fun v12 =>
 (jw_rc h2 6 v8).bind fun a13 =>
 jw_b2 (f_X6_readOrders h2 a13 v10 v12) fun w15 h14 =>
 (jw_gI h14 11 (some x0) 13).bind fun v16 =>
 (jw_pI h14 11 (some x0) 13 (v16 + (1 : Int32))).bind fun h17 =>
 (jw_gR h17 11 (some x0) 9).bind fun v18 =>
 (jw_gI h17 11 (some x0) 13).bind fun v19 =>
 (jw_rc h17 10 v18).bind fun a20 =>
 jw_b2 (f_X10_perform h17 a20 v19) fun w22 h21 =>
 (jw_gR h21 11 (some x0) 9).bind fun v23 =>
 (jw_gI h21 10 v23 16).bind fun v24 =>
 (jw_pI h21 11 (some x0) 14 v24).bind fun h25 =>
 some (Sum.inl w22, h25)))
 else (some (Sum.inr "java/lang/IndexOutOfBoundsException", jw_thw h2))

set_option maxRecDepth 100000 in
set_option maxHeartbeats 4000000 in
theorem l_X11_play {hi : jw_H} {h : jw_H} {x0 : Nat} {x1 : Int32} {r : Int32 ⊕ String} {h' : jw_H} (hq : f_X11_play  h x0 x1 = some (r, h')) : jw_E 13 uX11_play hi 0 [some (.ref x0), some (.int x1), none] [] h (jw_res r) h' := by
  unfold f_X11_play at hq
  refine jw_aload_n dX11_play_0 (o := (some x0)) rfl ?_
  refine jw_iload_n dX11_play_1 rfl ?_
  obtain ⟨a1, ea1, hq⟩ := Option.bind_eq_some_iff.mp hq
  obtain ⟨eoa1, eta1⟩ := jw_rc_spec ea1
  obtain ⟨w3, h2, ew3, hq⟩ := jw_b2_spec hq
  refine jw_callV (As := [.int x1]) (S := []) (a := a1) (v := some (.int w3)) dX11_play_2 mt_X11_isNoScript in_X11_isNoScript se_X11_isNoScript lk_X11_126 (c_X11_isNoScript ew3) eta1 (by decide) rfl rfl (by decide) (Nat.le_of_ble_eq_true rfl) (by cases eoa1; rfl) ?_
  rcases jw_if hq with ⟨c4, hq⟩ | ⟨c4, hq⟩
  · refine jw_if_eq_t (tgt := 18) dX11_play_5 (by decide) c4 ?_
    refine jw_aload_n dX11_play_18 (o := (some x0)) rfl ?_
    obtain ⟨v5, ev5, hq⟩ := Option.bind_eq_some_iff.mp hq
    refine jw_getR (o := (some x0)) dX11_play_19 ev5 fl_X11_18 rfl ?_
    refine jw_iload_n dX11_play_22 rfl ?_
    obtain ⟨v6, ev6, hq⟩ := Option.bind_eq_some_iff.mp hq
    refine jw_iald (o := v5) dX11_play_23 ev6 ?_
    refine jw_iconst dX11_play_24 (v := (-1 : Int32)) (by decide) ?_
    rcases jw_if hq with ⟨c7, hq⟩ | ⟨c7, hq⟩
    · refine jw_icmp_ne_f (tgt := 38) dX11_play_25 (by decide) c7 ?_
      cases hq
      exact jw_throw th_X11_play_28 (Nat.le_of_ble_eq_true rfl) (Nat.le_of_ble_eq_true rfl)
    · refine jw_icmp_ne_t (tgt := 38) dX11_play_25 (by decide) c7 ?_
      refine jw_aload_n dX11_play_38 (o := (some x0)) rfl ?_
      obtain ⟨v8, ev8, hq⟩ := Option.bind_eq_some_iff.mp hq
      refine jw_getR (o := (some x0)) dX11_play_39 ev8 fl_X11_31 rfl ?_
      refine jw_aload_n dX11_play_42 (o := (some x0)) rfl ?_
      obtain ⟨v9, ev9, hq⟩ := Option.bind_eq_some_iff.mp hq
      refine jw_getR (o := (some x0)) dX11_play_43 ev9 fl_X11_15 rfl ?_
      refine jw_iload_n dX11_play_46 rfl ?_
      obtain ⟨v10, ev10, hq⟩ := Option.bind_eq_some_iff.mp hq
      refine jw_aald2 (o := v9) dX11_play_47 ev10 ?_
      refine jw_aload_n dX11_play_48 (o := (some x0)) rfl ?_
      obtain ⟨v11, ev11, hq⟩ := Option.bind_eq_some_iff.mp hq
      refine jw_getR (o := (some x0)) dX11_play_49 ev11 fl_X11_18 rfl ?_
      refine jw_iload_n dX11_play_52 rfl ?_
      obtain ⟨v12, ev12, hq⟩ := Option.bind_eq_some_iff.mp hq
      refine jw_iald (o := v11) dX11_play_53 ev12 ?_
      obtain ⟨a13, ea13, hq⟩ := Option.bind_eq_some_iff.mp hq
      obtain ⟨eoa13, eta13⟩ := jw_rc_spec ea13
      obtain ⟨w15, h14, ew15, hq⟩ := jw_b2_spec hq
      refine jw_callV (As := [va_rf v10, .int v12]) (S := []) (a := a13) (v := some (.int w15)) dX11_play_54 mt_X6_readOrders in_X6_readOrders se_X6_readOrders lk_X11_104 (c_X6_readOrders ew15) eta13 (by decide) rfl rfl (by decide) (Nat.le_of_ble_eq_true rfl) (by cases eoa13; rfl) ?_
      refine jw_pop dX11_play_57 rfl ?_
      refine jw_aload_n dX11_play_58 (o := (some x0)) rfl ?_
      refine jw_dup dX11_play_59 rfl ?_
      obtain ⟨v16, ev16, hq⟩ := Option.bind_eq_some_iff.mp hq
      refine jw_getI (o := (some x0)) dX11_play_60 ev16 fl_X11_113 rfl ?_
      refine jw_iconst dX11_play_63 (v := (1 : Int32)) (by decide) ?_
      refine jw_iadd dX11_play_64 ?_
      obtain ⟨h17, eh17, hq⟩ := Option.bind_eq_some_iff.mp hq
      refine jw_putI (o := (some x0)) dX11_play_65 eh17 fl_X11_113 rfl rfl ?_
      refine jw_aload_n dX11_play_68 (o := (some x0)) rfl ?_
      obtain ⟨v18, ev18, hq⟩ := Option.bind_eq_some_iff.mp hq
      refine jw_getR (o := (some x0)) dX11_play_69 ev18 fl_X11_75 rfl ?_
      refine jw_aload_n dX11_play_72 (o := (some x0)) rfl ?_
      obtain ⟨v19, ev19, hq⟩ := Option.bind_eq_some_iff.mp hq
      refine jw_getI (o := (some x0)) dX11_play_73 ev19 fl_X11_113 rfl ?_
      obtain ⟨a20, ea20, hq⟩ := Option.bind_eq_some_iff.mp hq
      obtain ⟨eoa20, eta20⟩ := jw_rc_spec ea20
      obtain ⟨w22, h21, ew22, hq⟩ := jw_b2_spec hq
      refine jw_callV (As := [.int v19]) (S := []) (a := a20) (v := some (.int w22)) dX11_play_76 mt_X10_perform in_X10_perform se_X10_perform lk_X11_116 (c_X10_perform ew22) eta20 (by decide) rfl rfl (by decide) (Nat.le_of_ble_eq_true rfl) (by cases eoa20; rfl) ?_
      refine jw_istore_n (L' := [some (.ref x0), some (.int x1), some (.int w22)]) dX11_play_79 (Nat.le_of_ble_eq_true rfl) rfl ?_
      refine jw_aload_n dX11_play_80 (o := (some x0)) rfl ?_
      refine jw_aload_n dX11_play_81 (o := (some x0)) rfl ?_
      obtain ⟨v23, ev23, hq⟩ := Option.bind_eq_some_iff.mp hq
      refine jw_getR (o := (some x0)) dX11_play_82 ev23 fl_X11_75 rfl ?_
      obtain ⟨v24, ev24, hq⟩ := Option.bind_eq_some_iff.mp hq
      refine jw_getI (o := v23) dX11_play_85 ev24 fl_X11_120 rfl ?_
      obtain ⟨h25, eh25, hq⟩ := Option.bind_eq_some_iff.mp hq
      refine jw_putI (o := (some x0)) dX11_play_88 eh25 fl_X11_123 rfl rfl ?_
      refine jw_iload_n dX11_play_91 rfl ?_
      cases hq
      exact jw_iret (ty := .int) dX11_play_92 rfl rfl
  · refine jw_if_eq_f (tgt := 18) dX11_play_5 (by decide) c4 ?_
    cases hq
    exact jw_throw th_X11_play_8 (Nat.le_of_ble_eq_true rfl) (Nat.le_of_ble_eq_true rfl)

theorem c_X11_play {h : jw_H} {x0 : Nat} {x1 : Int32} {r : Int32 ⊕ String} {h' : jw_H} (hq : f_X11_play h x0 x1 = some (r, h')) : jw_Con (Cond.code yX11_play cX11_play 3 (some .int)) yX11_play 13 [.ref x0, .int x1] h (jw_res r) h' :=
  jw_con false (plainFor_of_name (by decide +kernel)) (fun z => nomatch z) (by simp [jw_ent, jw_sl0_nil, jw_sl0_int, jw_sl0_long, jw_sl0_ref, jw_sl0_rf, jw_sl0_scr, List.replicate]) (by simp [jw_sl0_nil, jw_sl0_int, jw_sl0_long, jw_sl0_ref, jw_sl0_rf, jw_sl0_scr]) (l_X11_play hq)


/-! X1_begin -/
noncomputable def g_X1_begin_b137 (k79 : jw_H → Nat → Int32 → Option (Unit × jw_H)) (h : jw_H) (x0 : Nat) (x1 : Int32) : Option (Unit × jw_H) :=
 k79 h x0 (x1 + (1 : Int32))

noncomputable def g_X1_begin_b127 (k79 : jw_H → Nat → Int32 → Option (Unit × jw_H)) (h : jw_H) (x0 : Nat) (x1 : Int32) (t0 : Option Nat) : Option (Unit × jw_H) :=
 if t0 = none then (g_X1_begin_b137 k79 h x0 x1)
 else ((jw_rc h 7 t0).bind fun a2 =>
 jw_b2 (f_X7_shrink h a2 (0 : Int32)) fun w4 h3 =>
 g_X1_begin_b137 k79 h3 x0 x1)

noncomputable def g_X1_begin_b112 (k79 : jw_H → Nat → Int32 → Option (Unit × jw_H)) (h : jw_H) (x0 : Nat) (x1 : Int32) : Option (Unit × jw_H) :=
 g_X1_begin_b127 k79 h x0 x1 none

noncomputable def g_X1_begin_b79 (k79 : jw_H → Nat → Int32 → Option (Unit × jw_H)) (h : jw_H) (x0 : Nat) (x1 : Int32) : Option (Unit × jw_H) :=
 (jw_gR h 1 (some x0) 0).bind fun v1 =>
 (jw_gI h 6 v1 6).bind fun v2 =>
 if v2 ≤ x1 then (some ((), h))
 else ((jw_gR h 1 (some x0) 0).bind fun v4 =>
 (jw_rc h 6 v4).bind fun a5 =>
 jw_b2 (f_X6_orderAt h a5 x1) fun w7 h6 =>
 if w7 = none then (g_X1_begin_b112 k79 h6 x0 x1)
 else ((jw_gI h6 5 w7 3).bind fun v9 =>
 if v9 = (119 : Int32) then ((jw_gR h6 1 (some x0) 2).bind fun v11 =>
 (jw_gI h6 5 w7 5).bind fun v12 =>
 (jw_rc h6 8 v11).bind fun a13 =>
 jw_b2 (f_X8_file h6 a13 v12) fun w15 h14 =>
 g_X1_begin_b127 k79 h14 x0 x1 w15)
 else (g_X1_begin_b112 k79 h6 x0 x1)))

noncomputable def f_X1_begin_b79 (n : Nat) : jw_H → Nat → Int32 → Option (Unit × jw_H) :=
 Nat.rec (fun _ _ _ => none) (fun _ k79 => g_X1_begin_b79 k79) n

noncomputable def f_X1_begin (h : jw_H) (x0 : Nat) : Option (Unit × jw_H) :=
 (jw_gR h 1 (some x0) 3).bind fun v1 =>
 (jw_gR h 1 (some x0) 2).bind fun v2 =>
 (jw_rc h 8 v1).bind fun a3 =>
 jw_b2 (f_X8_copy h a3 v2) fun w5 h4 =>
 (jw_gR h4 1 (some x0) 6).bind fun v6 =>
 (jw_gR h4 1 (some x0) 1).bind fun v7 =>
 (jw_rc h4 9 v6).bind fun a8 =>
 jw_b2 (f_X9_copy h4 a8 v7) fun w10 h9 =>
 (jw_gR h9 1 (some x0) 6).bind fun v11 =>
 (jw_gR h9 9 v11 0).bind fun v12 =>
 (jw_rc h9 7 v12).bind fun a13 =>
 jw_b2 (f_X7_shrink h9 a13 (0 : Int32)) fun w15 h14 =>
 (jw_gR h14 1 (some x0) 6).bind fun v16 =>
 (jw_gR h14 1 (some x0) 1).bind fun v17 =>
 (jw_gI h14 9 v17 4).bind fun v18 =>
 (jw_pI h14 9 v16 4 v18).bind fun h19 =>
 (jw_pI h19 1 (some x0) 12 (0 : Int32)).bind fun h20 =>
 (jw_pI h20 1 (some x0) 13 (0 : Int32)).bind fun h21 =>
 (jw_pI h21 1 (some x0) 14 (0 : Int32)).bind fun h22 =>
 (jw_pI h22 1 (some x0) 15 (0 : Int32)).bind fun h23 =>
 (jw_pB h23 1 (some x0) 18 (0 : Int32)).bind fun h24 =>
 (jw_pB h24 1 (some x0) 19 (0 : Int32)).bind fun h25 =>
 f_X1_begin_b79  jw_FU h25 x0 (0 : Int32)

set_option maxRecDepth 100000 in
set_option maxHeartbeats 4000000 in
theorem l_X1_begin_b137 {hi : jw_H} {k79 : jw_H → Nat → Int32 → Option (Unit × jw_H)} (hk79 : ∀ (h : jw_H) (x0 : Nat) (x1 : Int32) (r : Unit) (h' : jw_H), k79 h x0 x1 = some (r, h') → jw_E 3 uX1_begin hi 79 [some (.ref x0), some (.int x1), none, none] [] h (.inl none) h') {h : jw_H} {x0 : Nat} {x1 : Int32} {r : Unit} {h' : jw_H} (hq : g_X1_begin_b137 k79 h x0 x1 = some (r, h')) : jw_E 3 uX1_begin hi 137 [some (.ref x0), some (.int x1), none, none] [] h (.inl none) h' := by
  unfold g_X1_begin_b137 at hq
  refine jw_iinc (L' := [some (.ref x0), some (.int (x1 + (1 : Int32))), none, none]) dX1_begin_137 rfl (v := (1 : Int32)) (by decide) (Nat.le_of_ble_eq_true rfl) rfl ?_
  refine jw_goto (tgt := 79) dX1_begin_140 (by decide) ?_
  exact hk79 _ _ _ _ _ hq

set_option maxRecDepth 100000 in
set_option maxHeartbeats 4000000 in
theorem l_X1_begin_b127 {hi : jw_H} {k79 : jw_H → Nat → Int32 → Option (Unit × jw_H)} (hk79 : ∀ (h : jw_H) (x0 : Nat) (x1 : Int32) (r : Unit) (h' : jw_H), k79 h x0 x1 = some (r, h') → jw_E 3 uX1_begin hi 79 [some (.ref x0), some (.int x1), none, none] [] h (.inl none) h') {h : jw_H} {x0 : Nat} {x1 : Int32} {t0 : Option Nat} {r : Unit} {h' : jw_H} (hq : g_X1_begin_b127 k79 h x0 x1 t0 = some (r, h')) : jw_E 3 uX1_begin hi 127 [some (.ref x0), some (.int x1), none, none] [va_rf t0] h (.inl none) h' := by
  unfold g_X1_begin_b127 at hq
  refine jw_astore_n (o := t0) (L' := [some (.ref x0), some (.int x1), none, some (va_rf t0)]) dX1_begin_127 (Nat.le_of_ble_eq_true rfl) rfl ?_
  refine jw_aload_n dX1_begin_128 (o := t0) rfl ?_
  rcases jw_if hq with ⟨c1, hq⟩ | ⟨c1, hq⟩
  · refine jw_ifnull_t (o := t0) (tgt := 137) dX1_begin_129 (by decide) c1 ?_
    refine jw_forget [true, true, true, false] (L' := [some (.ref x0), some (.int x1), none, none]) rfl ?_
    exact l_X1_begin_b137 hk79 hq
  · refine jw_ifnull_f (o := t0) dX1_begin_129 c1 ?_
    refine jw_aload_n dX1_begin_132 (o := t0) rfl ?_
    refine jw_iconst dX1_begin_133 (v := (0 : Int32)) (by decide) ?_
    obtain ⟨a2, ea2, hq⟩ := Option.bind_eq_some_iff.mp hq
    obtain ⟨eoa2, eta2⟩ := jw_rc_spec ea2
    obtain ⟨w4, h3, ew4, hq⟩ := jw_b2_spec hq
    refine jw_callV (As := [.int (0 : Int32)]) (S := []) (a := a2) (v := none) dX1_begin_134 mt_X7_shrink in_X7_shrink se_X7_shrink lk_X1_112 (c_X7_shrink ew4) eta2 (by decide) rfl rfl (by decide) (Nat.le_of_ble_eq_true rfl) (by cases eoa2; rfl) ?_
    refine jw_forget [true, true, true, false] (L' := [some (.ref x0), some (.int x1), none, none]) rfl ?_
    exact l_X1_begin_b137 hk79 hq

set_option maxRecDepth 100000 in
set_option maxHeartbeats 4000000 in
theorem l_X1_begin_b112 {hi : jw_H} {k79 : jw_H → Nat → Int32 → Option (Unit × jw_H)} (hk79 : ∀ (h : jw_H) (x0 : Nat) (x1 : Int32) (r : Unit) (h' : jw_H), k79 h x0 x1 = some (r, h') → jw_E 3 uX1_begin hi 79 [some (.ref x0), some (.int x1), none, none] [] h (.inl none) h') {h : jw_H} {x0 : Nat} {x1 : Int32} {r : Unit} {h' : jw_H} (hq : g_X1_begin_b112 k79 h x0 x1 = some (r, h')) : jw_E 3 uX1_begin hi 112 [some (.ref x0), some (.int x1), none, none] [] h (.inl none) h' := by
  unfold g_X1_begin_b112 at hq
  refine jw_null dX1_begin_112 ?_
  refine jw_goto (tgt := 127) dX1_begin_113 (by decide) ?_
  exact l_X1_begin_b127 hk79 hq

set_option maxRecDepth 100000 in
set_option maxHeartbeats 4000000 in
theorem l_X1_begin_b79g {hi : jw_H} {k79 : jw_H → Nat → Int32 → Option (Unit × jw_H)} (hk79 : ∀ (h : jw_H) (x0 : Nat) (x1 : Int32) (r : Unit) (h' : jw_H), k79 h x0 x1 = some (r, h') → jw_E 3 uX1_begin hi 79 [some (.ref x0), some (.int x1), none, none] [] h (.inl none) h') {h : jw_H} {x0 : Nat} {x1 : Int32} {r : Unit} {h' : jw_H} (hq : g_X1_begin_b79 k79 h x0 x1 = some (r, h')) : jw_E 3 uX1_begin hi 79 [some (.ref x0), some (.int x1), none, none] [] h (.inl none) h' := by
  unfold g_X1_begin_b79 at hq
  refine jw_iload_n dX1_begin_79 rfl ?_
  refine jw_aload_n dX1_begin_80 (o := (some x0)) rfl ?_
  obtain ⟨v1, ev1, hq⟩ := Option.bind_eq_some_iff.mp hq
  refine jw_getR (o := (some x0)) dX1_begin_81 ev1 fl_X1_9 rfl ?_
  obtain ⟨v2, ev2, hq⟩ := Option.bind_eq_some_iff.mp hq
  refine jw_getI (o := v1) dX1_begin_84 ev2 fl_X1_72 rfl ?_
  rcases jw_if hq with ⟨c3, hq⟩ | ⟨c3, hq⟩
  · refine jw_icmp_ge_t (tgt := 143) dX1_begin_87 (by decide) c3 ?_
    cases hq
    exact jw_vret dX1_begin_143 rfl
  · refine jw_icmp_ge_f (tgt := 143) dX1_begin_87 (by decide) c3 ?_
    refine jw_aload_n dX1_begin_90 (o := (some x0)) rfl ?_
    obtain ⟨v4, ev4, hq⟩ := Option.bind_eq_some_iff.mp hq
    refine jw_getR (o := (some x0)) dX1_begin_91 ev4 fl_X1_9 rfl ?_
    refine jw_iload_n dX1_begin_94 rfl ?_
    obtain ⟨a5, ea5, hq⟩ := Option.bind_eq_some_iff.mp hq
    obtain ⟨eoa5, eta5⟩ := jw_rc_spec ea5
    obtain ⟨w7, h6, ew7, hq⟩ := jw_b2_spec hq
    refine jw_callV (As := [.int x1]) (S := []) (a := a5) (v := some (va_rf w7)) dX1_begin_95 mt_X6_orderAt in_X6_orderAt se_X6_orderAt lk_X1_121 (c_X6_orderAt ew7) eta5 (by decide) rfl rfl (by decide) (Nat.le_of_ble_eq_true rfl) (by cases eoa5; rfl) ?_
    refine jw_astore_n (o := w7) (L' := [some (.ref x0), some (.int x1), some (va_rf w7), none]) dX1_begin_98 (Nat.le_of_ble_eq_true rfl) rfl ?_
    refine jw_aload_n dX1_begin_99 (o := w7) rfl ?_
    rcases jw_if hq with ⟨c8, hq⟩ | ⟨c8, hq⟩
    · refine jw_ifnull_t (o := w7) (tgt := 112) dX1_begin_100 (by decide) c8 ?_
      refine jw_forget [true, true, false, true] (L' := [some (.ref x0), some (.int x1), none, none]) rfl ?_
      exact l_X1_begin_b112 hk79 hq
    · refine jw_ifnull_f (o := w7) dX1_begin_100 c8 ?_
      refine jw_aload_n dX1_begin_103 (o := w7) rfl ?_
      obtain ⟨v9, ev9, hq⟩ := Option.bind_eq_some_iff.mp hq
      refine jw_getI (o := w7) dX1_begin_104 ev9 fl_X1_125 rfl ?_
      refine jw_bipush dX1_begin_107 (v := (119 : Int32)) (by decide) ?_
      rcases jw_if hq with ⟨c10, hq⟩ | ⟨c10, hq⟩
      · refine jw_icmp_eq_t (tgt := 116) dX1_begin_109 (by decide) c10 ?_
        refine jw_aload_n dX1_begin_116 (o := (some x0)) rfl ?_
        obtain ⟨v11, ev11, hq⟩ := Option.bind_eq_some_iff.mp hq
        refine jw_getR (o := (some x0)) dX1_begin_117 ev11 fl_X1_19 rfl ?_
        refine jw_aload_n dX1_begin_120 (o := w7) rfl ?_
        obtain ⟨v12, ev12, hq⟩ := Option.bind_eq_some_iff.mp hq
        refine jw_getI (o := w7) dX1_begin_121 ev12 fl_X1_130 rfl ?_
        obtain ⟨a13, ea13, hq⟩ := Option.bind_eq_some_iff.mp hq
        obtain ⟨eoa13, eta13⟩ := jw_rc_spec ea13
        obtain ⟨w15, h14, ew15, hq⟩ := jw_b2_spec hq
        refine jw_callV (As := [.int v12]) (S := []) (a := a13) (v := some (va_rf w15)) dX1_begin_124 mt_X8_file in_X8_file se_X8_file lk_X1_133 (c_X8_file ew15) eta13 (by decide) rfl rfl (by decide) (Nat.le_of_ble_eq_true rfl) (by cases eoa13; rfl) ?_
        refine jw_forget [true, true, false, true] (L' := [some (.ref x0), some (.int x1), none, none]) rfl ?_
        exact l_X1_begin_b127 hk79 hq
      · refine jw_icmp_eq_f (tgt := 116) dX1_begin_109 (by decide) c10 ?_
        refine jw_forget [true, true, false, true] (L' := [some (.ref x0), some (.int x1), none, none]) rfl ?_
        exact l_X1_begin_b112 hk79 hq

theorem l_X1_begin_b79 {hi : jw_H} : ∀ (n : Nat) (h : jw_H) (x0 : Nat) (x1 : Int32) (r : Unit) (h' : jw_H), f_X1_begin_b79  n h x0 x1 = some (r, h') → jw_E 3 uX1_begin hi 79 [some (.ref x0), some (.int x1), none, none] [] h (.inl none) h' := by
  intro n
  induction n with
  | zero => intro h x0 x1 r h' hq; exact nomatch hq
  | succ n ih => intro h x0 x1 r h' hq; exact l_X1_begin_b79g ih hq

set_option maxRecDepth 100000 in
set_option maxHeartbeats 4000000 in
theorem l_X1_begin {hi : jw_H} {h : jw_H} {x0 : Nat} {r : Unit} {h' : jw_H} (hq : f_X1_begin  h x0 = some (r, h')) : jw_E 3 uX1_begin hi 0 [some (.ref x0), none, none, none] [] h (.inl none) h' := by
  unfold f_X1_begin at hq
  refine jw_aload_n dX1_begin_0 (o := (some x0)) rfl ?_
  obtain ⟨v1, ev1, hq⟩ := Option.bind_eq_some_iff.mp hq
  refine jw_getR (o := (some x0)) dX1_begin_1 ev1 fl_X1_23 rfl ?_
  refine jw_aload_n dX1_begin_4 (o := (some x0)) rfl ?_
  obtain ⟨v2, ev2, hq⟩ := Option.bind_eq_some_iff.mp hq
  refine jw_getR (o := (some x0)) dX1_begin_5 ev2 fl_X1_19 rfl ?_
  obtain ⟨a3, ea3, hq⟩ := Option.bind_eq_some_iff.mp hq
  obtain ⟨eoa3, eta3⟩ := jw_rc_spec ea3
  obtain ⟨w5, h4, ew5, hq⟩ := jw_b2_spec hq
  refine jw_callV (As := [va_rf v2]) (S := []) (a := a3) (v := none) dX1_begin_8 mt_X8_copy in_X8_copy se_X8_copy lk_X1_90 (c_X8_copy ew5) eta3 (by decide) rfl rfl (by decide) (Nat.le_of_ble_eq_true rfl) (by cases eoa3; rfl) ?_
  refine jw_aload_n dX1_begin_11 (o := (some x0)) rfl ?_
  obtain ⟨v6, ev6, hq⟩ := Option.bind_eq_some_iff.mp hq
  refine jw_getR (o := (some x0)) dX1_begin_12 ev6 fl_X1_37 rfl ?_
  refine jw_aload_n dX1_begin_15 (o := (some x0)) rfl ?_
  obtain ⟨v7, ev7, hq⟩ := Option.bind_eq_some_iff.mp hq
  refine jw_getR (o := (some x0)) dX1_begin_16 ev7 fl_X1_15 rfl ?_
  obtain ⟨a8, ea8, hq⟩ := Option.bind_eq_some_iff.mp hq
  obtain ⟨eoa8, eta8⟩ := jw_rc_spec ea8
  obtain ⟨w10, h9, ew10, hq⟩ := jw_b2_spec hq
  refine jw_callV (As := [va_rf v7]) (S := []) (a := a8) (v := none) dX1_begin_19 mt_X9_copy in_X9_copy se_X9_copy lk_X1_103 (c_X9_copy ew10) eta8 (by decide) rfl rfl (by decide) (Nat.le_of_ble_eq_true rfl) (by cases eoa8; rfl) ?_
  refine jw_aload_n dX1_begin_22 (o := (some x0)) rfl ?_
  obtain ⟨v11, ev11, hq⟩ := Option.bind_eq_some_iff.mp hq
  refine jw_getR (o := (some x0)) dX1_begin_23 ev11 fl_X1_37 rfl ?_
  obtain ⟨v12, ev12, hq⟩ := Option.bind_eq_some_iff.mp hq
  refine jw_getR (o := v11) dX1_begin_26 ev12 fl_X1_96 rfl ?_
  refine jw_iconst dX1_begin_29 (v := (0 : Int32)) (by decide) ?_
  obtain ⟨a13, ea13, hq⟩ := Option.bind_eq_some_iff.mp hq
  obtain ⟨eoa13, eta13⟩ := jw_rc_spec ea13
  obtain ⟨w15, h14, ew15, hq⟩ := jw_b2_spec hq
  refine jw_callV (As := [.int (0 : Int32)]) (S := []) (a := a13) (v := none) dX1_begin_30 mt_X7_shrink in_X7_shrink se_X7_shrink lk_X1_112 (c_X7_shrink ew15) eta13 (by decide) rfl rfl (by decide) (Nat.le_of_ble_eq_true rfl) (by cases eoa13; rfl) ?_
  refine jw_aload_n dX1_begin_33 (o := (some x0)) rfl ?_
  obtain ⟨v16, ev16, hq⟩ := Option.bind_eq_some_iff.mp hq
  refine jw_getR (o := (some x0)) dX1_begin_34 ev16 fl_X1_37 rfl ?_
  refine jw_aload_n dX1_begin_37 (o := (some x0)) rfl ?_
  obtain ⟨v17, ev17, hq⟩ := Option.bind_eq_some_iff.mp hq
  refine jw_getR (o := (some x0)) dX1_begin_38 ev17 fl_X1_15 rfl ?_
  obtain ⟨v18, ev18, hq⟩ := Option.bind_eq_some_iff.mp hq
  refine jw_getI (o := v17) dX1_begin_41 ev18 fl_X1_106 rfl ?_
  obtain ⟨h19, eh19, hq⟩ := Option.bind_eq_some_iff.mp hq
  refine jw_putI (o := v16) dX1_begin_44 eh19 fl_X1_106 rfl rfl ?_
  refine jw_aload_n dX1_begin_47 (o := (some x0)) rfl ?_
  refine jw_iconst dX1_begin_48 (v := (0 : Int32)) (by decide) ?_
  obtain ⟨h20, eh20, hq⟩ := Option.bind_eq_some_iff.mp hq
  refine jw_putI (o := (some x0)) dX1_begin_49 eh20 fl_X1_115 rfl rfl ?_
  refine jw_aload_n dX1_begin_52 (o := (some x0)) rfl ?_
  refine jw_iconst dX1_begin_53 (v := (0 : Int32)) (by decide) ?_
  obtain ⟨h21, eh21, hq⟩ := Option.bind_eq_some_iff.mp hq
  refine jw_putI (o := (some x0)) dX1_begin_54 eh21 fl_X1_118 rfl rfl ?_
  refine jw_aload_n dX1_begin_57 (o := (some x0)) rfl ?_
  refine jw_iconst dX1_begin_58 (v := (0 : Int32)) (by decide) ?_
  obtain ⟨h22, eh22, hq⟩ := Option.bind_eq_some_iff.mp hq
  refine jw_putI (o := (some x0)) dX1_begin_59 eh22 fl_X1_109 rfl rfl ?_
  refine jw_aload_n dX1_begin_62 (o := (some x0)) rfl ?_
  refine jw_iconst dX1_begin_63 (v := (0 : Int32)) (by decide) ?_
  obtain ⟨h23, eh23, hq⟩ := Option.bind_eq_some_iff.mp hq
  refine jw_putI (o := (some x0)) dX1_begin_64 eh23 fl_X1_65 rfl rfl ?_
  refine jw_aload_n dX1_begin_67 (o := (some x0)) rfl ?_
  refine jw_iconst dX1_begin_68 (v := (0 : Int32)) (by decide) ?_
  obtain ⟨h24, eh24, hq⟩ := Option.bind_eq_some_iff.mp hq
  refine jw_putB (o := (some x0)) dX1_begin_69 eh24 fl_X1_69 rfl rfl ?_
  refine jw_aload_n dX1_begin_72 (o := (some x0)) rfl ?_
  refine jw_iconst dX1_begin_73 (v := (0 : Int32)) (by decide) ?_
  obtain ⟨h25, eh25, hq⟩ := Option.bind_eq_some_iff.mp hq
  refine jw_putB (o := (some x0)) dX1_begin_74 eh25 fl_X1_84 rfl rfl ?_
  refine jw_iconst dX1_begin_77 (v := (0 : Int32)) (by decide) ?_
  refine jw_istore_n (L' := [some (.ref x0), some (.int (0 : Int32)), none, none]) dX1_begin_78 (Nat.le_of_ble_eq_true rfl) rfl ?_
  exact l_X1_begin_b79  jw_FU _ _ _ _ _ hq

theorem c_X1_begin {h : jw_H} {x0 : Nat} {r : Unit} {h' : jw_H} (hq : f_X1_begin h x0 = some (r, h')) : jw_Con (Cond.code yX1_begin cX1_begin 4 none) yX1_begin 3 [.ref x0] h (.inl none) h' :=
  jw_con false (plainFor_of_name (by decide +kernel)) (fun z => nomatch z) (by simp [jw_ent, jw_sl0_nil, jw_sl0_int, jw_sl0_long, jw_sl0_ref, jw_sl0_rf, jw_sl0_scr, List.replicate]) (by simp [jw_sl0_nil, jw_sl0_int, jw_sl0_long, jw_sl0_ref, jw_sl0_rf, jw_sl0_scr]) (l_X1_begin hq)


/-! X1_takeNext -/
noncomputable def g_X1_takeNext_b23 (h : jw_H) (x0 : Nat) (t0 : Nat) (t1 : Int32) : Option (Unit × jw_H) :=
 (jw_pB h 1 (some t0) 17 t1).bind fun h1 =>
 (jw_gI h1 1 (some x0) 17).bind fun v2 =>
 if v2 = 0 then (some ((), h1))
 else ((jw_gI h1 1 (some x0) 12).bind fun v4 =>
 (jw_pI h1 1 (some x0) 12 (v4 + (1 : Int32))).bind fun h5 =>
 (jw_gI h5 1 (some x0) 13).bind fun v6 =>
 (jw_pI h5 1 (some x0) 13 (v6 + (1 : Int32))).bind fun h7 =>
 (jw_gI h7 1 (some x0) 12).bind fun v8 =>
 (jw_pI h7 1 (some x0) 11 v8).bind fun h9 =>
 (jw_gR h9 1 (some x0) 1).bind fun v10 =>
 (jw_gI h9 1 (some x0) 12).bind fun v11 =>
 (jw_rc h9 9 v10).bind fun a12 =>
 jw_b2 (f_X9_idOf h9 a12 v11) fun w14 h13 =>
 (jw_pI h13 1 (some x0) 10 w14).bind fun h15 =>
 (jw_gR h15 1 (some x0) 7).bind fun v16 =>
 (jw_rc h15 7 v16).bind fun a17 =>
 jw_b2 (f_X7_shrink h15 a17 (0 : Int32)) fun w19 h18 =>
 (jw_gR h18 1 (some x0) 7).bind fun v20 =>
 (jw_gR h18 1 (some x0) 1).bind fun v21 =>
 (jw_gR h18 9 v21 0).bind fun v22 =>
 (jw_gI h18 1 (some x0) 12).bind fun v23 =>
 (jw_rc h18 7 v20).bind fun a24 =>
 jw_b2 (f_X7_addRow h18 a24 v22 v23) fun w26 h25 =>
 (jw_gR h25 1 (some x0) 8).bind fun v27 =>
 (jw_rc h25 7 v27).bind fun a28 =>
 jw_b2 (f_X7_shrink h25 a28 (0 : Int32)) fun w30 h29 =>
 (jw_pB h29 1 (some x0) 16 (0 : Int32)).bind fun h31 =>
 (jw_gR h31 1 (some x0) 5).bind fun v32 =>
 (jw_pB h31 2 v32 5 (0 : Int32)).bind fun h33 =>
 some ((), h33))

noncomputable def f_X1_takeNext (h : jw_H) (x0 : Nat) : Option (Unit × jw_H) :=
 (jw_gI h 1 (some x0) 12).bind fun v1 =>
 (jw_gR h 1 (some x0) 1).bind fun v2 =>
 (jw_gR h 9 v2 0).bind fun v3 =>
 (jw_gI h 7 v3 2).bind fun v4 =>
 if v4 ≤ v1 then (g_X1_takeNext_b23  h x0 x0 (0 : Int32))
 else (g_X1_takeNext_b23  h x0 x0 (1 : Int32))

set_option maxRecDepth 100000 in
set_option maxHeartbeats 4000000 in
theorem l_X1_takeNext_b23 {hi : jw_H} {h : jw_H} {x0 : Nat} {t0 : Nat} {t1 : Int32} {r : Unit} {h' : jw_H} (hq : g_X1_takeNext_b23  h x0 t0 t1 = some (r, h')) : jw_E 3 uX1_takeNext hi 23 [some (.ref x0)] [.int t1, .ref t0] h (.inl none) h' := by
  unfold g_X1_takeNext_b23 at hq
  obtain ⟨h1, eh1, hq⟩ := Option.bind_eq_some_iff.mp hq
  refine jw_putB (o := (some t0)) dX1_takeNext_23 eh1 fl_X1_61 rfl rfl ?_
  refine jw_aload_n dX1_takeNext_26 (o := (some x0)) rfl ?_
  obtain ⟨v2, ev2, hq⟩ := Option.bind_eq_some_iff.mp hq
  refine jw_getI (o := (some x0)) dX1_takeNext_27 ev2 fl_X1_61 rfl ?_
  rcases jw_if hq with ⟨c3, hq⟩ | ⟨c3, hq⟩
  · refine jw_if_ne_f (tgt := 34) dX1_takeNext_30 (by decide) c3 ?_
    cases hq
    exact jw_vret dX1_takeNext_33 rfl
  · refine jw_if_ne_t (tgt := 34) dX1_takeNext_30 (by decide) c3 ?_
    refine jw_aload_n dX1_takeNext_34 (o := (some x0)) rfl ?_
    refine jw_dup dX1_takeNext_35 rfl ?_
    obtain ⟨v4, ev4, hq⟩ := Option.bind_eq_some_iff.mp hq
    refine jw_getI (o := (some x0)) dX1_takeNext_36 ev4 fl_X1_115 rfl ?_
    refine jw_iconst dX1_takeNext_39 (v := (1 : Int32)) (by decide) ?_
    refine jw_iadd dX1_takeNext_40 ?_
    obtain ⟨h5, eh5, hq⟩ := Option.bind_eq_some_iff.mp hq
    refine jw_putI (o := (some x0)) dX1_takeNext_41 eh5 fl_X1_115 rfl rfl ?_
    refine jw_aload_n dX1_takeNext_44 (o := (some x0)) rfl ?_
    refine jw_dup dX1_takeNext_45 rfl ?_
    obtain ⟨v6, ev6, hq⟩ := Option.bind_eq_some_iff.mp hq
    refine jw_getI (o := (some x0)) dX1_takeNext_46 ev6 fl_X1_118 rfl ?_
    refine jw_iconst dX1_takeNext_49 (v := (1 : Int32)) (by decide) ?_
    refine jw_iadd dX1_takeNext_50 ?_
    obtain ⟨h7, eh7, hq⟩ := Option.bind_eq_some_iff.mp hq
    refine jw_putI (o := (some x0)) dX1_takeNext_51 eh7 fl_X1_118 rfl rfl ?_
    refine jw_aload_n dX1_takeNext_54 (o := (some x0)) rfl ?_
    refine jw_aload_n dX1_takeNext_55 (o := (some x0)) rfl ?_
    obtain ⟨v8, ev8, hq⟩ := Option.bind_eq_some_iff.mp hq
    refine jw_getI (o := (some x0)) dX1_takeNext_56 ev8 fl_X1_115 rfl ?_
    obtain ⟨h9, eh9, hq⟩ := Option.bind_eq_some_iff.mp hq
    refine jw_putI (o := (some x0)) dX1_takeNext_59 eh9 fl_X1_137 rfl rfl ?_
    refine jw_aload_n dX1_takeNext_62 (o := (some x0)) rfl ?_
    refine jw_aload_n dX1_takeNext_63 (o := (some x0)) rfl ?_
    obtain ⟨v10, ev10, hq⟩ := Option.bind_eq_some_iff.mp hq
    refine jw_getR (o := (some x0)) dX1_takeNext_64 ev10 fl_X1_15 rfl ?_
    refine jw_aload_n dX1_takeNext_67 (o := (some x0)) rfl ?_
    obtain ⟨v11, ev11, hq⟩ := Option.bind_eq_some_iff.mp hq
    refine jw_getI (o := (some x0)) dX1_takeNext_68 ev11 fl_X1_115 rfl ?_
    obtain ⟨a12, ea12, hq⟩ := Option.bind_eq_some_iff.mp hq
    obtain ⟨eoa12, eta12⟩ := jw_rc_spec ea12
    obtain ⟨w14, h13, ew14, hq⟩ := jw_b2_spec hq
    refine jw_callV (As := [.int v11]) (S := [.ref x0]) (a := a12) (v := some (.int w14)) dX1_takeNext_71 mt_X9_idOf in_X9_idOf se_X9_idOf lk_X1_138 (c_X9_idOf ew14) eta12 (by decide) rfl rfl (by decide) (Nat.le_of_ble_eq_true rfl) (by cases eoa12; rfl) ?_
    obtain ⟨h15, eh15, hq⟩ := Option.bind_eq_some_iff.mp hq
    refine jw_putI (o := (some x0)) dX1_takeNext_74 eh15 fl_X1_141 rfl rfl ?_
    refine jw_aload_n dX1_takeNext_77 (o := (some x0)) rfl ?_
    obtain ⟨v16, ev16, hq⟩ := Option.bind_eq_some_iff.mp hq
    refine jw_getR (o := (some x0)) dX1_takeNext_78 ev16 fl_X1_45 rfl ?_
    refine jw_iconst dX1_takeNext_81 (v := (0 : Int32)) (by decide) ?_
    obtain ⟨a17, ea17, hq⟩ := Option.bind_eq_some_iff.mp hq
    obtain ⟨eoa17, eta17⟩ := jw_rc_spec ea17
    obtain ⟨w19, h18, ew19, hq⟩ := jw_b2_spec hq
    refine jw_callV (As := [.int (0 : Int32)]) (S := []) (a := a17) (v := none) dX1_takeNext_82 mt_X7_shrink in_X7_shrink se_X7_shrink lk_X1_112 (c_X7_shrink ew19) eta17 (by decide) rfl rfl (by decide) (Nat.le_of_ble_eq_true rfl) (by cases eoa17; rfl) ?_
    refine jw_aload_n dX1_takeNext_85 (o := (some x0)) rfl ?_
    obtain ⟨v20, ev20, hq⟩ := Option.bind_eq_some_iff.mp hq
    refine jw_getR (o := (some x0)) dX1_takeNext_86 ev20 fl_X1_45 rfl ?_
    refine jw_aload_n dX1_takeNext_89 (o := (some x0)) rfl ?_
    obtain ⟨v21, ev21, hq⟩ := Option.bind_eq_some_iff.mp hq
    refine jw_getR (o := (some x0)) dX1_takeNext_90 ev21 fl_X1_15 rfl ?_
    obtain ⟨v22, ev22, hq⟩ := Option.bind_eq_some_iff.mp hq
    refine jw_getR (o := v21) dX1_takeNext_93 ev22 fl_X1_96 rfl ?_
    refine jw_aload_n dX1_takeNext_96 (o := (some x0)) rfl ?_
    obtain ⟨v23, ev23, hq⟩ := Option.bind_eq_some_iff.mp hq
    refine jw_getI (o := (some x0)) dX1_takeNext_97 ev23 fl_X1_115 rfl ?_
    obtain ⟨a24, ea24, hq⟩ := Option.bind_eq_some_iff.mp hq
    obtain ⟨eoa24, eta24⟩ := jw_rc_spec ea24
    obtain ⟨w26, h25, ew26, hq⟩ := jw_b2_spec hq
    refine jw_callV (As := [va_rf v22, .int v23]) (S := []) (a := a24) (v := some (.int w26)) dX1_takeNext_100 mt_X7_addRow in_X7_addRow se_X7_addRow lk_X1_144 (c_X7_addRow ew26) eta24 (by decide) rfl rfl (by decide) (Nat.le_of_ble_eq_true rfl) (by cases eoa24; rfl) ?_
    refine jw_pop dX1_takeNext_103 rfl ?_
    refine jw_aload_n dX1_takeNext_104 (o := (some x0)) rfl ?_
    obtain ⟨v27, ev27, hq⟩ := Option.bind_eq_some_iff.mp hq
    refine jw_getR (o := (some x0)) dX1_takeNext_105 ev27 fl_X1_49 rfl ?_
    refine jw_iconst dX1_takeNext_108 (v := (0 : Int32)) (by decide) ?_
    obtain ⟨a28, ea28, hq⟩ := Option.bind_eq_some_iff.mp hq
    obtain ⟨eoa28, eta28⟩ := jw_rc_spec ea28
    obtain ⟨w30, h29, ew30, hq⟩ := jw_b2_spec hq
    refine jw_callV (As := [.int (0 : Int32)]) (S := []) (a := a28) (v := none) dX1_takeNext_109 mt_X7_shrink in_X7_shrink se_X7_shrink lk_X1_112 (c_X7_shrink ew30) eta28 (by decide) rfl rfl (by decide) (Nat.le_of_ble_eq_true rfl) (by cases eoa28; rfl) ?_
    refine jw_aload_n dX1_takeNext_112 (o := (some x0)) rfl ?_
    refine jw_iconst dX1_takeNext_113 (v := (0 : Int32)) (by decide) ?_
    obtain ⟨h31, eh31, hq⟩ := Option.bind_eq_some_iff.mp hq
    refine jw_putB (o := (some x0)) dX1_takeNext_114 eh31 fl_X1_148 rfl rfl ?_
    refine jw_aload_n dX1_takeNext_117 (o := (some x0)) rfl ?_
    obtain ⟨v32, ev32, hq⟩ := Option.bind_eq_some_iff.mp hq
    refine jw_getR (o := (some x0)) dX1_takeNext_118 ev32 fl_X1_30 rfl ?_
    refine jw_iconst dX1_takeNext_121 (v := (0 : Int32)) (by decide) ?_
    obtain ⟨h33, eh33, hq⟩ := Option.bind_eq_some_iff.mp hq
    refine jw_putB (o := v32) dX1_takeNext_122 eh33 fl_X1_151 rfl rfl ?_
    cases hq
    exact jw_vret dX1_takeNext_125 rfl

set_option maxRecDepth 100000 in
set_option maxHeartbeats 4000000 in
theorem l_X1_takeNext {hi : jw_H} {h : jw_H} {x0 : Nat} {r : Unit} {h' : jw_H} (hq : f_X1_takeNext  h x0 = some (r, h')) : jw_E 3 uX1_takeNext hi 0 [some (.ref x0)] [] h (.inl none) h' := by
  unfold f_X1_takeNext at hq
  refine jw_aload_n dX1_takeNext_0 (o := (some x0)) rfl ?_
  refine jw_aload_n dX1_takeNext_1 (o := (some x0)) rfl ?_
  obtain ⟨v1, ev1, hq⟩ := Option.bind_eq_some_iff.mp hq
  refine jw_getI (o := (some x0)) dX1_takeNext_2 ev1 fl_X1_115 rfl ?_
  refine jw_aload_n dX1_takeNext_5 (o := (some x0)) rfl ?_
  obtain ⟨v2, ev2, hq⟩ := Option.bind_eq_some_iff.mp hq
  refine jw_getR (o := (some x0)) dX1_takeNext_6 ev2 fl_X1_15 rfl ?_
  obtain ⟨v3, ev3, hq⟩ := Option.bind_eq_some_iff.mp hq
  refine jw_getR (o := v2) dX1_takeNext_9 ev3 fl_X1_96 rfl ?_
  obtain ⟨v4, ev4, hq⟩ := Option.bind_eq_some_iff.mp hq
  refine jw_getI (o := v3) dX1_takeNext_12 ev4 fl_X1_99 rfl ?_
  rcases jw_if hq with ⟨c5, hq⟩ | ⟨c5, hq⟩
  · refine jw_icmp_ge_t (tgt := 22) dX1_takeNext_15 (by decide) c5 ?_
    refine jw_iconst dX1_takeNext_22 (v := (0 : Int32)) (by decide) ?_
    exact l_X1_takeNext_b23  hq
  · refine jw_icmp_ge_f (tgt := 22) dX1_takeNext_15 (by decide) c5 ?_
    refine jw_iconst dX1_takeNext_18 (v := (1 : Int32)) (by decide) ?_
    refine jw_goto (tgt := 23) dX1_takeNext_19 (by decide) ?_
    exact l_X1_takeNext_b23  hq

theorem c_X1_takeNext {h : jw_H} {x0 : Nat} {r : Unit} {h' : jw_H} (hq : f_X1_takeNext h x0 = some (r, h')) : jw_Con (Cond.code yX1_takeNext cX1_takeNext 1 none) yX1_takeNext 3 [.ref x0] h (.inl none) h' :=
  jw_con false (plainFor_of_name (by decide +kernel)) (fun z => nomatch z) (by simp [jw_ent, jw_sl0_nil, jw_sl0_int, jw_sl0_long, jw_sl0_ref, jw_sl0_rf, jw_sl0_scr, List.replicate]) (by simp [jw_sl0_nil, jw_sl0_int, jw_sl0_long, jw_sl0_ref, jw_sl0_rf, jw_sl0_scr]) (l_X1_takeNext hq)


/-! X0_isNotByLine -/
noncomputable def g_X0_isNotByLine_b30 (h : jw_H) (t0 : Int32) : Option (Int32 × jw_H) :=
 (jw_rb t0).bind fun v1 =>
 some (t0, h)

noncomputable def g_X0_isNotByLine_b29 (h : jw_H)  : Option (Int32 × jw_H) :=
 g_X0_isNotByLine_b30  h (0 : Int32)

noncomputable def f_X0_isNotByLine (h : jw_H) (x0 : Nat) : Option (Int32 × jw_H) :=
 (jw_gI h 0 (some x0) 3).bind fun v1 =>
 if v1 = 0 then (g_X0_isNotByLine_b29  h )
 else ((jw_gI h 0 (some x0) 0).bind fun v3 =>
 if v3 = (48 : Int32) then (g_X0_isNotByLine_b29  h )
 else ((jw_gI h 0 (some x0) 0).bind fun v5 =>
 if v5 = (36 : Int32) then (g_X0_isNotByLine_b29  h )
 else (g_X0_isNotByLine_b30  h (1 : Int32))))

set_option maxRecDepth 100000 in
set_option maxHeartbeats 4000000 in
theorem l_X0_isNotByLine_b30 {hi : jw_H} {h : jw_H} {t0 : Int32} {r : Int32} {h' : jw_H} (hq : g_X0_isNotByLine_b30  h t0 = some (r, h')) : jw_E 0 uX0_isNotByLine hi 30 [none] [.int t0] h (.inl (some (.int r))) h' := by
  unfold g_X0_isNotByLine_b30 at hq
  obtain ⟨v1, ev1, hq⟩ := Option.bind_eq_some_iff.mp hq
  cases hq
  exact jw_iret (ty := .boolean) dX0_isNotByLine_30 rfl (jw_rb_spec ev1)

set_option maxRecDepth 100000 in
set_option maxHeartbeats 4000000 in
theorem l_X0_isNotByLine_b29 {hi : jw_H} {h : jw_H}  {r : Int32} {h' : jw_H} (hq : g_X0_isNotByLine_b29  h  = some (r, h')) : jw_E 0 uX0_isNotByLine hi 29 [none] [] h (.inl (some (.int r))) h' := by
  unfold g_X0_isNotByLine_b29 at hq
  refine jw_iconst dX0_isNotByLine_29 (v := (0 : Int32)) (by decide) ?_
  exact l_X0_isNotByLine_b30  hq

set_option maxRecDepth 100000 in
set_option maxHeartbeats 4000000 in
theorem l_X0_isNotByLine {hi : jw_H} {h : jw_H} {x0 : Nat} {r : Int32} {h' : jw_H} (hq : f_X0_isNotByLine  h x0 = some (r, h')) : jw_E 0 uX0_isNotByLine hi 0 [some (.ref x0)] [] h (.inl (some (.int r))) h' := by
  unfold f_X0_isNotByLine at hq
  refine jw_aload_n dX0_isNotByLine_0 (o := (some x0)) rfl ?_
  obtain ⟨v1, ev1, hq⟩ := Option.bind_eq_some_iff.mp hq
  refine jw_getI (o := (some x0)) dX0_isNotByLine_1 ev1 fl_X0_19 rfl ?_
  rcases jw_if hq with ⟨c2, hq⟩ | ⟨c2, hq⟩
  · refine jw_if_eq_t (tgt := 29) dX0_isNotByLine_4 (by decide) c2 ?_
    refine jw_forget [false] (L' := [none]) rfl ?_
    exact l_X0_isNotByLine_b29  hq
  · refine jw_if_eq_f (tgt := 29) dX0_isNotByLine_4 (by decide) c2 ?_
    refine jw_aload_n dX0_isNotByLine_7 (o := (some x0)) rfl ?_
    obtain ⟨v3, ev3, hq⟩ := Option.bind_eq_some_iff.mp hq
    refine jw_getI (o := (some x0)) dX0_isNotByLine_8 ev3 fl_X0_7 rfl ?_
    refine jw_bipush dX0_isNotByLine_11 (v := (48 : Int32)) (by decide) ?_
    rcases jw_if hq with ⟨c4, hq⟩ | ⟨c4, hq⟩
    · refine jw_icmp_eq_t (tgt := 29) dX0_isNotByLine_13 (by decide) c4 ?_
      refine jw_forget [false] (L' := [none]) rfl ?_
      exact l_X0_isNotByLine_b29  hq
    · refine jw_icmp_eq_f (tgt := 29) dX0_isNotByLine_13 (by decide) c4 ?_
      refine jw_aload_n dX0_isNotByLine_16 (o := (some x0)) rfl ?_
      obtain ⟨v5, ev5, hq⟩ := Option.bind_eq_some_iff.mp hq
      refine jw_getI (o := (some x0)) dX0_isNotByLine_17 ev5 fl_X0_7 rfl ?_
      refine jw_bipush dX0_isNotByLine_20 (v := (36 : Int32)) (by decide) ?_
      rcases jw_if hq with ⟨c6, hq⟩ | ⟨c6, hq⟩
      · refine jw_icmp_eq_t (tgt := 29) dX0_isNotByLine_22 (by decide) c6 ?_
        refine jw_forget [false] (L' := [none]) rfl ?_
        exact l_X0_isNotByLine_b29  hq
      · refine jw_icmp_eq_f (tgt := 29) dX0_isNotByLine_22 (by decide) c6 ?_
        refine jw_iconst dX0_isNotByLine_25 (v := (1 : Int32)) (by decide) ?_
        refine jw_goto (tgt := 30) dX0_isNotByLine_26 (by decide) ?_
        refine jw_forget [false] (L' := [none]) rfl ?_
        exact l_X0_isNotByLine_b30  hq

theorem c_X0_isNotByLine {h : jw_H} {x0 : Nat} {r : Int32} {h' : jw_H} (hq : f_X0_isNotByLine h x0 = some (r, h')) : jw_Con (Cond.code yX0_isNotByLine cX0_isNotByLine 1 (some .boolean)) yX0_isNotByLine 0 [.ref x0] h (.inl (some (.int r))) h' :=
  jw_con false (plainFor_of_name (by decide +kernel)) (fun z => nomatch z) (by simp [jw_ent, jw_sl0_nil, jw_sl0_int, jw_sl0_long, jw_sl0_ref, jw_sl0_rf, jw_sl0_scr, List.replicate]) (by simp [jw_sl0_nil, jw_sl0_int, jw_sl0_long, jw_sl0_ref, jw_sl0_rf, jw_sl0_scr]) (l_X0_isNotByLine hq)


/-! X5_isNotByLine -/
noncomputable def g_X5_isNotByLine_b88 (h : jw_H) (t0 : Int32) : Option (Int32 × jw_H) :=
 (jw_rb t0).bind fun v1 =>
 some (t0, h)

noncomputable def g_X5_isNotByLine_b83 (h : jw_H)  : Option (Int32 × jw_H) :=
 g_X5_isNotByLine_b88  h (1 : Int32)

noncomputable def g_X5_isNotByLine_b87 (h : jw_H)  : Option (Int32 × jw_H) :=
 g_X5_isNotByLine_b88  h (0 : Int32)

noncomputable def g_X5_isNotByLine_b65 (h : jw_H) (x0 : Nat) : Option (Int32 × jw_H) :=
 (jw_gI h 5 (some x0) 4).bind fun v1 =>
 if v1 = (3 : Int32) then ((jw_gR h 5 (some x0) 1).bind fun v3 =>
 (jw_rc h 0 v3).bind fun a4 =>
 jw_b2 (f_X0_isNotByLine h a4) fun w6 h5 =>
 if w6 = 0 then (g_X5_isNotByLine_b87  h5 )
 else (g_X5_isNotByLine_b83  h5 ))
 else (g_X5_isNotByLine_b87  h )

noncomputable def f_X5_isNotByLine (h : jw_H) (x0 : Nat) : Option (Int32 × jw_H) :=
 (jw_gI h 5 (some x0) 3).bind fun v1 =>
 if v1 = (108 : Int32) then (some ((1 : Int32), h))
 else ((jw_gI h 5 (some x0) 3).bind fun v3 =>
 if v3 = (111 : Int32) then (some ((1 : Int32), h))
 else ((jw_gI h 5 (some x0) 3).bind fun v5 =>
 if v5 = (79 : Int32) then (some ((1 : Int32), h))
 else ((jw_gI h 5 (some x0) 3).bind fun v7 =>
 if v7 = (109 : Int32) then (some ((1 : Int32), h))
 else ((jw_gI h 5 (some x0) 3).bind fun v9 =>
 if v9 = (116 : Int32) then (some ((1 : Int32), h))
 else ((jw_gI h 5 (some x0) 4).bind fun v11 =>
 if v11 < (2 : Int32) then (g_X5_isNotByLine_b65  h x0)
 else ((jw_gR h 5 (some x0) 0).bind fun v13 =>
 (jw_rc h 0 v13).bind fun a14 =>
 jw_b2 (f_X0_isNotByLine h a14) fun w16 h15 =>
 if w16 = 0 then (g_X5_isNotByLine_b65  h15 x0)
 else (g_X5_isNotByLine_b83  h15 )))))))

set_option maxRecDepth 100000 in
set_option maxHeartbeats 4000000 in
theorem l_X5_isNotByLine_b88 {hi : jw_H} {h : jw_H} {t0 : Int32} {r : Int32} {h' : jw_H} (hq : g_X5_isNotByLine_b88  h t0 = some (r, h')) : jw_E 1 uX5_isNotByLine hi 88 [none] [.int t0] h (.inl (some (.int r))) h' := by
  unfold g_X5_isNotByLine_b88 at hq
  obtain ⟨v1, ev1, hq⟩ := Option.bind_eq_some_iff.mp hq
  cases hq
  exact jw_iret (ty := .boolean) dX5_isNotByLine_88 rfl (jw_rb_spec ev1)

set_option maxRecDepth 100000 in
set_option maxHeartbeats 4000000 in
theorem l_X5_isNotByLine_b83 {hi : jw_H} {h : jw_H}  {r : Int32} {h' : jw_H} (hq : g_X5_isNotByLine_b83  h  = some (r, h')) : jw_E 1 uX5_isNotByLine hi 83 [none] [] h (.inl (some (.int r))) h' := by
  unfold g_X5_isNotByLine_b83 at hq
  refine jw_iconst dX5_isNotByLine_83 (v := (1 : Int32)) (by decide) ?_
  refine jw_goto (tgt := 88) dX5_isNotByLine_84 (by decide) ?_
  exact l_X5_isNotByLine_b88  hq

set_option maxRecDepth 100000 in
set_option maxHeartbeats 4000000 in
theorem l_X5_isNotByLine_b87 {hi : jw_H} {h : jw_H}  {r : Int32} {h' : jw_H} (hq : g_X5_isNotByLine_b87  h  = some (r, h')) : jw_E 1 uX5_isNotByLine hi 87 [none] [] h (.inl (some (.int r))) h' := by
  unfold g_X5_isNotByLine_b87 at hq
  refine jw_iconst dX5_isNotByLine_87 (v := (0 : Int32)) (by decide) ?_
  exact l_X5_isNotByLine_b88  hq

set_option maxRecDepth 100000 in
set_option maxHeartbeats 4000000 in
theorem l_X5_isNotByLine_b65 {hi : jw_H} {h : jw_H} {x0 : Nat} {r : Int32} {h' : jw_H} (hq : g_X5_isNotByLine_b65  h x0 = some (r, h')) : jw_E 1 uX5_isNotByLine hi 65 [some (.ref x0)] [] h (.inl (some (.int r))) h' := by
  unfold g_X5_isNotByLine_b65 at hq
  refine jw_aload_n dX5_isNotByLine_65 (o := (some x0)) rfl ?_
  obtain ⟨v1, ev1, hq⟩ := Option.bind_eq_some_iff.mp hq
  refine jw_getI (o := (some x0)) dX5_isNotByLine_66 ev1 fl_X5_31 rfl ?_
  refine jw_iconst dX5_isNotByLine_69 (v := (3 : Int32)) (by decide) ?_
  rcases jw_if hq with ⟨c2, hq⟩ | ⟨c2, hq⟩
  · refine jw_icmp_ne_f (tgt := 87) dX5_isNotByLine_70 (by decide) c2 ?_
    refine jw_aload_n dX5_isNotByLine_73 (o := (some x0)) rfl ?_
    obtain ⟨v3, ev3, hq⟩ := Option.bind_eq_some_iff.mp hq
    refine jw_getR (o := (some x0)) dX5_isNotByLine_74 ev3 fl_X5_18 rfl ?_
    obtain ⟨a4, ea4, hq⟩ := Option.bind_eq_some_iff.mp hq
    obtain ⟨eoa4, eta4⟩ := jw_rc_spec ea4
    obtain ⟨w6, h5, ew6, hq⟩ := jw_b2_spec hq
    refine jw_callV (As := []) (S := []) (a := a4) (v := some (.int w6)) dX5_isNotByLine_77 mt_X0_isNotByLine in_X0_isNotByLine se_X0_isNotByLine lk_X5_62 (c_X0_isNotByLine ew6) eta4 (by decide) rfl rfl (by decide) (Nat.le_of_ble_eq_true rfl) (by cases eoa4; rfl) ?_
    rcases jw_if hq with ⟨c7, hq⟩ | ⟨c7, hq⟩
    · refine jw_if_eq_t (tgt := 87) dX5_isNotByLine_80 (by decide) c7 ?_
      refine jw_forget [false] (L' := [none]) rfl ?_
      exact l_X5_isNotByLine_b87  hq
    · refine jw_if_eq_f (tgt := 87) dX5_isNotByLine_80 (by decide) c7 ?_
      refine jw_forget [false] (L' := [none]) rfl ?_
      exact l_X5_isNotByLine_b83  hq
  · refine jw_icmp_ne_t (tgt := 87) dX5_isNotByLine_70 (by decide) c2 ?_
    refine jw_forget [false] (L' := [none]) rfl ?_
    exact l_X5_isNotByLine_b87  hq

set_option maxRecDepth 100000 in
set_option maxHeartbeats 4000000 in
theorem l_X5_isNotByLine {hi : jw_H} {h : jw_H} {x0 : Nat} {r : Int32} {h' : jw_H} (hq : f_X5_isNotByLine  h x0 = some (r, h')) : jw_E 1 uX5_isNotByLine hi 0 [some (.ref x0)] [] h (.inl (some (.int r))) h' := by
  unfold f_X5_isNotByLine at hq
  refine jw_aload_n dX5_isNotByLine_0 (o := (some x0)) rfl ?_
  obtain ⟨v1, ev1, hq⟩ := Option.bind_eq_some_iff.mp hq
  refine jw_getI (o := (some x0)) dX5_isNotByLine_1 ev1 fl_X5_27 rfl ?_
  refine jw_bipush dX5_isNotByLine_4 (v := (108 : Int32)) (by decide) ?_
  rcases jw_if hq with ⟨c2, hq⟩ | ⟨c2, hq⟩
  · refine jw_icmp_eq_t (tgt := 45) dX5_isNotByLine_6 (by decide) c2 ?_
    refine jw_iconst dX5_isNotByLine_45 (v := (1 : Int32)) (by decide) ?_
    cases hq
    exact jw_iret (ty := .boolean) dX5_isNotByLine_46 rfl rfl
  · refine jw_icmp_eq_f (tgt := 45) dX5_isNotByLine_6 (by decide) c2 ?_
    refine jw_aload_n dX5_isNotByLine_9 (o := (some x0)) rfl ?_
    obtain ⟨v3, ev3, hq⟩ := Option.bind_eq_some_iff.mp hq
    refine jw_getI (o := (some x0)) dX5_isNotByLine_10 ev3 fl_X5_27 rfl ?_
    refine jw_bipush dX5_isNotByLine_13 (v := (111 : Int32)) (by decide) ?_
    rcases jw_if hq with ⟨c4, hq⟩ | ⟨c4, hq⟩
    · refine jw_icmp_eq_t (tgt := 45) dX5_isNotByLine_15 (by decide) c4 ?_
      refine jw_iconst dX5_isNotByLine_45 (v := (1 : Int32)) (by decide) ?_
      cases hq
      exact jw_iret (ty := .boolean) dX5_isNotByLine_46 rfl rfl
    · refine jw_icmp_eq_f (tgt := 45) dX5_isNotByLine_15 (by decide) c4 ?_
      refine jw_aload_n dX5_isNotByLine_18 (o := (some x0)) rfl ?_
      obtain ⟨v5, ev5, hq⟩ := Option.bind_eq_some_iff.mp hq
      refine jw_getI (o := (some x0)) dX5_isNotByLine_19 ev5 fl_X5_27 rfl ?_
      refine jw_bipush dX5_isNotByLine_22 (v := (79 : Int32)) (by decide) ?_
      rcases jw_if hq with ⟨c6, hq⟩ | ⟨c6, hq⟩
      · refine jw_icmp_eq_t (tgt := 45) dX5_isNotByLine_24 (by decide) c6 ?_
        refine jw_iconst dX5_isNotByLine_45 (v := (1 : Int32)) (by decide) ?_
        cases hq
        exact jw_iret (ty := .boolean) dX5_isNotByLine_46 rfl rfl
      · refine jw_icmp_eq_f (tgt := 45) dX5_isNotByLine_24 (by decide) c6 ?_
        refine jw_aload_n dX5_isNotByLine_27 (o := (some x0)) rfl ?_
        obtain ⟨v7, ev7, hq⟩ := Option.bind_eq_some_iff.mp hq
        refine jw_getI (o := (some x0)) dX5_isNotByLine_28 ev7 fl_X5_27 rfl ?_
        refine jw_bipush dX5_isNotByLine_31 (v := (109 : Int32)) (by decide) ?_
        rcases jw_if hq with ⟨c8, hq⟩ | ⟨c8, hq⟩
        · refine jw_icmp_eq_t (tgt := 45) dX5_isNotByLine_33 (by decide) c8 ?_
          refine jw_iconst dX5_isNotByLine_45 (v := (1 : Int32)) (by decide) ?_
          cases hq
          exact jw_iret (ty := .boolean) dX5_isNotByLine_46 rfl rfl
        · refine jw_icmp_eq_f (tgt := 45) dX5_isNotByLine_33 (by decide) c8 ?_
          refine jw_aload_n dX5_isNotByLine_36 (o := (some x0)) rfl ?_
          obtain ⟨v9, ev9, hq⟩ := Option.bind_eq_some_iff.mp hq
          refine jw_getI (o := (some x0)) dX5_isNotByLine_37 ev9 fl_X5_27 rfl ?_
          refine jw_bipush dX5_isNotByLine_40 (v := (116 : Int32)) (by decide) ?_
          rcases jw_if hq with ⟨c10, hq⟩ | ⟨c10, hq⟩
          · refine jw_icmp_ne_f (tgt := 47) dX5_isNotByLine_42 (by decide) c10 ?_
            refine jw_iconst dX5_isNotByLine_45 (v := (1 : Int32)) (by decide) ?_
            cases hq
            exact jw_iret (ty := .boolean) dX5_isNotByLine_46 rfl rfl
          · refine jw_icmp_ne_t (tgt := 47) dX5_isNotByLine_42 (by decide) c10 ?_
            refine jw_aload_n dX5_isNotByLine_47 (o := (some x0)) rfl ?_
            obtain ⟨v11, ev11, hq⟩ := Option.bind_eq_some_iff.mp hq
            refine jw_getI (o := (some x0)) dX5_isNotByLine_48 ev11 fl_X5_31 rfl ?_
            refine jw_iconst dX5_isNotByLine_51 (v := (2 : Int32)) (by decide) ?_
            rcases jw_if hq with ⟨c12, hq⟩ | ⟨c12, hq⟩
            · refine jw_icmp_lt_t (tgt := 65) dX5_isNotByLine_52 (by decide) c12 ?_
              exact l_X5_isNotByLine_b65  hq
            · refine jw_icmp_lt_f (tgt := 65) dX5_isNotByLine_52 (by decide) c12 ?_
              refine jw_aload_n dX5_isNotByLine_55 (o := (some x0)) rfl ?_
              obtain ⟨v13, ev13, hq⟩ := Option.bind_eq_some_iff.mp hq
              refine jw_getR (o := (some x0)) dX5_isNotByLine_56 ev13 fl_X5_12 rfl ?_
              obtain ⟨a14, ea14, hq⟩ := Option.bind_eq_some_iff.mp hq
              obtain ⟨eoa14, eta14⟩ := jw_rc_spec ea14
              obtain ⟨w16, h15, ew16, hq⟩ := jw_b2_spec hq
              refine jw_callV (As := []) (S := []) (a := a14) (v := some (.int w16)) dX5_isNotByLine_59 mt_X0_isNotByLine in_X0_isNotByLine se_X0_isNotByLine lk_X5_62 (c_X0_isNotByLine ew16) eta14 (by decide) rfl rfl (by decide) (Nat.le_of_ble_eq_true rfl) (by cases eoa14; rfl) ?_
              rcases jw_if hq with ⟨c17, hq⟩ | ⟨c17, hq⟩
              · refine jw_if_ne_f (tgt := 83) dX5_isNotByLine_62 (by decide) c17 ?_
                exact l_X5_isNotByLine_b65  hq
              · refine jw_if_ne_t (tgt := 83) dX5_isNotByLine_62 (by decide) c17 ?_
                refine jw_forget [false] (L' := [none]) rfl ?_
                exact l_X5_isNotByLine_b83  hq

theorem c_X5_isNotByLine {h : jw_H} {x0 : Nat} {r : Int32} {h' : jw_H} (hq : f_X5_isNotByLine h x0 = some (r, h')) : jw_Con (Cond.code yX5_isNotByLine cX5_isNotByLine 1 (some .boolean)) yX5_isNotByLine 1 [.ref x0] h (.inl (some (.int r))) h' :=
  jw_con false (plainFor_of_name (by decide +kernel)) (fun z => nomatch z) (by simp [jw_ent, jw_sl0_nil, jw_sl0_int, jw_sl0_long, jw_sl0_ref, jw_sl0_rf, jw_sl0_scr, List.replicate]) (by simp [jw_sl0_nil, jw_sl0_int, jw_sl0_long, jw_sl0_ref, jw_sl0_rf, jw_sl0_scr]) (l_X5_isNotByLine hq)


/-! X1_numberOf -/
noncomputable def g_X1_numberOf_b26 (h : jw_H) (x1 : Option Nat) (t0 : Int32) : Option (Int32 × jw_H) :=
 (jw_gI h 0 x1 2).bind fun v1 =>
 some ((t0 + v1), h)

noncomputable def f_X1_numberOf (h : jw_H) (x0 : Nat) (x1 : Option Nat) : Option (Int32 × jw_H) :=
 (jw_gI h 0 x1 0).bind fun v1 =>
 if v1 = (36 : Int32) then ((jw_gR h 1 (some x0) 1).bind fun v4 =>
 (jw_gR h 9 v4 0).bind fun v5 =>
 (jw_gI h 7 v5 2).bind fun v6 =>
 g_X1_numberOf_b26  h x1 v6)
 else ((jw_gI h 0 x1 1).bind fun v3 =>
 g_X1_numberOf_b26  h x1 v3)

set_option maxRecDepth 100000 in
set_option maxHeartbeats 4000000 in
theorem l_X1_numberOf_b26 {hi : jw_H} {h : jw_H} {x1 : Option Nat} {t0 : Int32} {r : Int32} {h' : jw_H} (hq : g_X1_numberOf_b26  h x1 t0 = some (r, h')) : jw_E 0 uX1_numberOf hi 26 [none, some (va_rf x1)] [.int t0] h (.inl (some (.int r))) h' := by
  unfold g_X1_numberOf_b26 at hq
  refine jw_aload_n dX1_numberOf_26 (o := x1) rfl ?_
  obtain ⟨v1, ev1, hq⟩ := Option.bind_eq_some_iff.mp hq
  refine jw_getI (o := x1) dX1_numberOf_27 ev1 fl_X1_237 rfl ?_
  refine jw_iadd dX1_numberOf_30 ?_
  cases hq
  exact jw_iret (ty := .int) dX1_numberOf_31 rfl rfl

set_option maxRecDepth 100000 in
set_option maxHeartbeats 4000000 in
theorem l_X1_numberOf {hi : jw_H} {h : jw_H} {x0 : Nat} {x1 : Option Nat} {r : Int32} {h' : jw_H} (hq : f_X1_numberOf  h x0 x1 = some (r, h')) : jw_E 0 uX1_numberOf hi 0 [some (.ref x0), some (va_rf x1)] [] h (.inl (some (.int r))) h' := by
  unfold f_X1_numberOf at hq
  refine jw_aload_n dX1_numberOf_0 (o := x1) rfl ?_
  obtain ⟨v1, ev1, hq⟩ := Option.bind_eq_some_iff.mp hq
  refine jw_getI (o := x1) dX1_numberOf_1 ev1 fl_X1_231 rfl ?_
  refine jw_bipush dX1_numberOf_4 (v := (36 : Int32)) (by decide) ?_
  rcases jw_if hq with ⟨c2, hq⟩ | ⟨c2, hq⟩
  · refine jw_icmp_ne_f (tgt := 22) dX1_numberOf_6 (by decide) c2 ?_
    refine jw_aload_n dX1_numberOf_9 (o := (some x0)) rfl ?_
    obtain ⟨v4, ev4, hq⟩ := Option.bind_eq_some_iff.mp hq
    refine jw_getR (o := (some x0)) dX1_numberOf_10 ev4 fl_X1_15 rfl ?_
    obtain ⟨v5, ev5, hq⟩ := Option.bind_eq_some_iff.mp hq
    refine jw_getR (o := v4) dX1_numberOf_13 ev5 fl_X1_96 rfl ?_
    obtain ⟨v6, ev6, hq⟩ := Option.bind_eq_some_iff.mp hq
    refine jw_getI (o := v5) dX1_numberOf_16 ev6 fl_X1_99 rfl ?_
    refine jw_goto (tgt := 26) dX1_numberOf_19 (by decide) ?_
    refine jw_forget [false, true] (L' := [none, some (va_rf x1)]) rfl ?_
    exact l_X1_numberOf_b26  hq
  · refine jw_icmp_ne_t (tgt := 22) dX1_numberOf_6 (by decide) c2 ?_
    refine jw_aload_n dX1_numberOf_22 (o := x1) rfl ?_
    obtain ⟨v3, ev3, hq⟩ := Option.bind_eq_some_iff.mp hq
    refine jw_getI (o := x1) dX1_numberOf_23 ev3 fl_X1_234 rfl ?_
    refine jw_forget [false, true] (L' := [none, some (va_rf x1)]) rfl ?_
    exact l_X1_numberOf_b26  hq

theorem c_X1_numberOf {h : jw_H} {x0 : Nat} {x1 : Option Nat} {r : Int32} {h' : jw_H} (hq : f_X1_numberOf h x0 x1 = some (r, h')) : jw_Con (Cond.code yX1_numberOf cX1_numberOf 2 (some .int)) yX1_numberOf 0 [.ref x0, va_rf x1] h (.inl (some (.int r))) h' :=
  jw_con false (plainFor_of_name (by decide +kernel)) (fun z => nomatch z) (by simp [jw_ent, jw_sl0_nil, jw_sl0_int, jw_sl0_long, jw_sl0_ref, jw_sl0_rf, jw_sl0_scr, List.replicate]) (by simp [jw_sl0_nil, jw_sl0_int, jw_sl0_long, jw_sl0_ref, jw_sl0_rf, jw_sl0_scr]) (l_X1_numberOf hq)


/-! X1_holdsAt -/
noncomputable def g_X1_holdsAt_b73 (h : jw_H) (t0 : Int32) : Option (Int32 × jw_H) :=
 (jw_rb t0).bind fun v1 =>
 some (t0, h)

noncomputable def g_X1_holdsAt_b56 (h : jw_H) (x0 : Nat) (x1 : Option Nat) : Option (Int32 × jw_H) :=
 (jw_gI h 1 (some x0) 11).bind fun v1 =>
 (jw_rc h 1 (some x0)).bind fun a2 =>
 jw_b2 (f_X1_numberOf h a2 x1) fun w4 h3 =>
 if v1 = w4 then (g_X1_holdsAt_b73  h3 (1 : Int32))
 else (g_X1_holdsAt_b73  h3 (0 : Int32))

noncomputable def g_X1_holdsAt_b97 (h : jw_H) (t0 : Int32) : Option (Int32 × jw_H) :=
 (jw_rb t0).bind fun v1 =>
 some (t0, h)

noncomputable def g_X1_holdsAt_b98 (h : jw_H) (x0 : Nat) (x1 : Option Nat) : Option (Int32 × jw_H) :=
 (jw_gR h 1 (some x0) 4).bind fun v1 =>
 (jw_gR h 1 (some x0) 7).bind fun v2 =>
 (jw_gI h 0 x1 1).bind fun v3 =>
 (jw_rc h 4 v1).bind fun a4 =>
 jw_b2 (f_X4_holds h a4 v2 (1 : Int32) v3) fun w6 h5 =>
 (jw_rb w6).bind fun v7 =>
 some (w6, h5)

noncomputable def f_X1_holdsAt (h : jw_H) (x0 : Nat) (x1 : Option Nat) : Option (Int32 × jw_H) :=
 (jw_gI h 0 x1 0).bind fun v1 =>
 if v1 = (36 : Int32) then (g_X1_holdsAt_b56  h x0 x1)
 else (if v1 = (39 : Int32) then ((jw_gR h 1 (some x0) 6).bind fun v4 =>
 (jw_gI h 0 x1 1).bind fun v5 =>
 (jw_rc h 9 v4).bind fun a6 =>
 jw_b2 (f_X9_markedId h a6 v5) fun w8 h7 =>
 (jw_gI h7 1 (some x0) 10).bind fun v9 =>
 if w8 = v9 then (g_X1_holdsAt_b97  h7 (1 : Int32))
 else (g_X1_holdsAt_b97  h7 (0 : Int32)))
 else (if v1 = (47 : Int32) then (g_X1_holdsAt_b98  h x0 x1)
 else (if v1 = (48 : Int32) then (g_X1_holdsAt_b56  h x0 x1)
 else (if v1 = (63 : Int32) then (g_X1_holdsAt_b98  h x0 x1)
 else (some ((1 : Int32), h))))))

set_option maxRecDepth 100000 in
set_option maxHeartbeats 4000000 in
theorem l_X1_holdsAt_b73 {hi : jw_H} {h : jw_H} {t0 : Int32} {r : Int32} {h' : jw_H} (hq : g_X1_holdsAt_b73  h t0 = some (r, h')) : jw_E 9 uX1_holdsAt hi 73 [none, none] [.int t0] h (.inl (some (.int r))) h' := by
  unfold g_X1_holdsAt_b73 at hq
  obtain ⟨v1, ev1, hq⟩ := Option.bind_eq_some_iff.mp hq
  cases hq
  exact jw_iret (ty := .boolean) dX1_holdsAt_73 rfl (jw_rb_spec ev1)

set_option maxRecDepth 100000 in
set_option maxHeartbeats 4000000 in
theorem l_X1_holdsAt_b56 {hi : jw_H} {h : jw_H} {x0 : Nat} {x1 : Option Nat} {r : Int32} {h' : jw_H} (hq : g_X1_holdsAt_b56  h x0 x1 = some (r, h')) : jw_E 9 uX1_holdsAt hi 56 [some (.ref x0), some (va_rf x1)] [] h (.inl (some (.int r))) h' := by
  unfold g_X1_holdsAt_b56 at hq
  refine jw_aload_n dX1_holdsAt_56 (o := (some x0)) rfl ?_
  obtain ⟨v1, ev1, hq⟩ := Option.bind_eq_some_iff.mp hq
  refine jw_getI (o := (some x0)) dX1_holdsAt_57 ev1 fl_X1_137 rfl ?_
  refine jw_aload_n dX1_holdsAt_60 (o := (some x0)) rfl ?_
  refine jw_aload_n dX1_holdsAt_61 (o := x1) rfl ?_
  obtain ⟨a2, ea2, hq⟩ := Option.bind_eq_some_iff.mp hq
  obtain ⟨eoa2, eta2⟩ := jw_rc_spec ea2
  obtain ⟨w4, h3, ew4, hq⟩ := jw_b2_spec hq
  refine jw_callV (As := [va_rf x1]) (S := [.int v1]) (a := a2) (v := some (.int w4)) dX1_holdsAt_62 mt_X1_numberOf in_X1_numberOf se_X1_numberOf lk_X1_221 (c_X1_numberOf ew4) eta2 (by decide) rfl rfl (by decide) (Nat.le_of_ble_eq_true rfl) (by cases eoa2; rfl) ?_
  rcases jw_if hq with ⟨c5, hq⟩ | ⟨c5, hq⟩
  · refine jw_icmp_ne_f (tgt := 72) dX1_holdsAt_65 (by decide) c5 ?_
    refine jw_iconst dX1_holdsAt_68 (v := (1 : Int32)) (by decide) ?_
    refine jw_goto (tgt := 73) dX1_holdsAt_69 (by decide) ?_
    refine jw_forget [false, false] (L' := [none, none]) rfl ?_
    exact l_X1_holdsAt_b73  hq
  · refine jw_icmp_ne_t (tgt := 72) dX1_holdsAt_65 (by decide) c5 ?_
    refine jw_iconst dX1_holdsAt_72 (v := (0 : Int32)) (by decide) ?_
    refine jw_forget [false, false] (L' := [none, none]) rfl ?_
    exact l_X1_holdsAt_b73  hq

set_option maxRecDepth 100000 in
set_option maxHeartbeats 4000000 in
theorem l_X1_holdsAt_b97 {hi : jw_H} {h : jw_H} {t0 : Int32} {r : Int32} {h' : jw_H} (hq : g_X1_holdsAt_b97  h t0 = some (r, h')) : jw_E 9 uX1_holdsAt hi 97 [none, none] [.int t0] h (.inl (some (.int r))) h' := by
  unfold g_X1_holdsAt_b97 at hq
  obtain ⟨v1, ev1, hq⟩ := Option.bind_eq_some_iff.mp hq
  cases hq
  exact jw_iret (ty := .boolean) dX1_holdsAt_97 rfl (jw_rb_spec ev1)

set_option maxRecDepth 100000 in
set_option maxHeartbeats 4000000 in
theorem l_X1_holdsAt_b98 {hi : jw_H} {h : jw_H} {x0 : Nat} {x1 : Option Nat} {r : Int32} {h' : jw_H} (hq : g_X1_holdsAt_b98  h x0 x1 = some (r, h')) : jw_E 9 uX1_holdsAt hi 98 [some (.ref x0), some (va_rf x1)] [] h (.inl (some (.int r))) h' := by
  unfold g_X1_holdsAt_b98 at hq
  refine jw_aload_n dX1_holdsAt_98 (o := (some x0)) rfl ?_
  obtain ⟨v1, ev1, hq⟩ := Option.bind_eq_some_iff.mp hq
  refine jw_getR (o := (some x0)) dX1_holdsAt_99 ev1 fl_X1_26 rfl ?_
  refine jw_aload_n dX1_holdsAt_102 (o := (some x0)) rfl ?_
  obtain ⟨v2, ev2, hq⟩ := Option.bind_eq_some_iff.mp hq
  refine jw_getR (o := (some x0)) dX1_holdsAt_103 ev2 fl_X1_45 rfl ?_
  refine jw_iconst dX1_holdsAt_106 (v := (1 : Int32)) (by decide) ?_
  refine jw_aload_n dX1_holdsAt_107 (o := x1) rfl ?_
  obtain ⟨v3, ev3, hq⟩ := Option.bind_eq_some_iff.mp hq
  refine jw_getI (o := x1) dX1_holdsAt_108 ev3 fl_X1_234 rfl ?_
  obtain ⟨a4, ea4, hq⟩ := Option.bind_eq_some_iff.mp hq
  obtain ⟨eoa4, eta4⟩ := jw_rc_spec ea4
  obtain ⟨w6, h5, ew6, hq⟩ := jw_b2_spec hq
  refine jw_callV (As := [va_rf v2, .int (1 : Int32), .int v3]) (S := []) (a := a4) (v := some (.int w6)) dX1_holdsAt_111 mt_X4_holds in_X4_holds se_X4_holds lk_X1_181 (c_X4_holds ew6) eta4 (by decide) rfl rfl (by decide) (Nat.le_of_ble_eq_true rfl) (by cases eoa4; rfl) ?_
  obtain ⟨v7, ev7, hq⟩ := Option.bind_eq_some_iff.mp hq
  cases hq
  exact jw_iret (ty := .boolean) dX1_holdsAt_114 rfl (jw_rb_spec ev7)

set_option maxRecDepth 100000 in
set_option maxHeartbeats 4000000 in
theorem l_X1_holdsAt {hi : jw_H} {h : jw_H} {x0 : Nat} {x1 : Option Nat} {r : Int32} {h' : jw_H} (hq : f_X1_holdsAt  h x0 x1 = some (r, h')) : jw_E 9 uX1_holdsAt hi 0 [some (.ref x0), some (va_rf x1)] [] h (.inl (some (.int r))) h' := by
  unfold f_X1_holdsAt at hq
  refine jw_aload_n dX1_holdsAt_0 (o := x1) rfl ?_
  obtain ⟨v1, ev1, hq⟩ := Option.bind_eq_some_iff.mp hq
  refine jw_getI (o := x1) dX1_holdsAt_1 ev1 fl_X1_231 rfl ?_
  rcases jw_if hq with ⟨c2, hq⟩ | ⟨c2, hq⟩
  · refine jw_lookup (off := 52) (tgt := 56) dX1_holdsAt_4 (by decide) (jw_lks (l := [(36, 52), (39, 70), (47, 94), (48, 52), (63, 94)]) (by rw [c2]; rfl)) (by decide) ?_
    exact l_X1_holdsAt_b56  hq
  · rcases jw_if hq with ⟨c3, hq⟩ | ⟨c3, hq⟩
    · refine jw_lookup (off := 70) (tgt := 74) dX1_holdsAt_4 (by decide) (jw_lks (l := [(36, 52), (39, 70), (47, 94), (48, 52), (63, 94)]) (by rw [lv_osw (a := 36) c2 rfl]; rw [c3]; rfl)) (by decide) ?_
      refine jw_aload_n dX1_holdsAt_74 (o := (some x0)) rfl ?_
      obtain ⟨v4, ev4, hq⟩ := Option.bind_eq_some_iff.mp hq
      refine jw_getR (o := (some x0)) dX1_holdsAt_75 ev4 fl_X1_37 rfl ?_
      refine jw_aload_n dX1_holdsAt_78 (o := x1) rfl ?_
      obtain ⟨v5, ev5, hq⟩ := Option.bind_eq_some_iff.mp hq
      refine jw_getI (o := x1) dX1_holdsAt_79 ev5 fl_X1_234 rfl ?_
      obtain ⟨a6, ea6, hq⟩ := Option.bind_eq_some_iff.mp hq
      obtain ⟨eoa6, eta6⟩ := jw_rc_spec ea6
      obtain ⟨w8, h7, ew8, hq⟩ := jw_b2_spec hq
      refine jw_callV (As := [.int v5]) (S := []) (a := a6) (v := some (.int w8)) dX1_holdsAt_82 mt_X9_markedId in_X9_markedId se_X9_markedId lk_X1_240 (c_X9_markedId ew8) eta6 (by decide) rfl rfl (by decide) (Nat.le_of_ble_eq_true rfl) (by cases eoa6; rfl) ?_
      refine jw_aload_n dX1_holdsAt_85 (o := (some x0)) rfl ?_
      obtain ⟨v9, ev9, hq⟩ := Option.bind_eq_some_iff.mp hq
      refine jw_getI (o := (some x0)) dX1_holdsAt_86 ev9 fl_X1_141 rfl ?_
      rcases jw_if hq with ⟨c10, hq⟩ | ⟨c10, hq⟩
      · refine jw_icmp_ne_f (tgt := 96) dX1_holdsAt_89 (by decide) c10 ?_
        refine jw_iconst dX1_holdsAt_92 (v := (1 : Int32)) (by decide) ?_
        refine jw_goto (tgt := 97) dX1_holdsAt_93 (by decide) ?_
        refine jw_forget [false, false] (L' := [none, none]) rfl ?_
        exact l_X1_holdsAt_b97  hq
      · refine jw_icmp_ne_t (tgt := 96) dX1_holdsAt_89 (by decide) c10 ?_
        refine jw_iconst dX1_holdsAt_96 (v := (0 : Int32)) (by decide) ?_
        refine jw_forget [false, false] (L' := [none, none]) rfl ?_
        exact l_X1_holdsAt_b97  hq
    · rcases jw_if hq with ⟨c11, hq⟩ | ⟨c11, hq⟩
      · refine jw_lookup (off := 94) (tgt := 98) dX1_holdsAt_4 (by decide) (jw_lks (l := [(36, 52), (39, 70), (47, 94), (48, 52), (63, 94)]) (by rw [lv_osw (a := 36) c2 rfl]; rw [lv_osw (a := 39) c3 rfl]; rw [c11]; rfl)) (by decide) ?_
        exact l_X1_holdsAt_b98  hq
      · rcases jw_if hq with ⟨c12, hq⟩ | ⟨c12, hq⟩
        · refine jw_lookup (off := 52) (tgt := 56) dX1_holdsAt_4 (by decide) (jw_lks (l := [(36, 52), (39, 70), (47, 94), (48, 52), (63, 94)]) (by rw [lv_osw (a := 36) c2 rfl]; rw [lv_osw (a := 39) c3 rfl]; rw [lv_osw (a := 47) c11 rfl]; rw [c12]; rfl)) (by decide) ?_
          exact l_X1_holdsAt_b56  hq
        · rcases jw_if hq with ⟨c13, hq⟩ | ⟨c13, hq⟩
          · refine jw_lookup (off := 94) (tgt := 98) dX1_holdsAt_4 (by decide) (jw_lks (l := [(36, 52), (39, 70), (47, 94), (48, 52), (63, 94)]) (by rw [lv_osw (a := 36) c2 rfl]; rw [lv_osw (a := 39) c3 rfl]; rw [lv_osw (a := 47) c11 rfl]; rw [lv_osw (a := 48) c12 rfl]; rw [c13]; rfl)) (by decide) ?_
            exact l_X1_holdsAt_b98  hq
          · refine jw_lookup (off := 111) (tgt := 115) dX1_holdsAt_4 (by decide) (jw_lks (l := [(36, 52), (39, 70), (47, 94), (48, 52), (63, 94)]) (by rw [lv_osw (a := 36) c2 rfl]; rw [lv_osw (a := 39) c3 rfl]; rw [lv_osw (a := 47) c11 rfl]; rw [lv_osw (a := 48) c12 rfl]; rw [lv_osw (a := 63) c13 rfl]; rfl)) (by decide) ?_
            refine jw_iconst dX1_holdsAt_115 (v := (1 : Int32)) (by decide) ?_
            cases hq
            exact jw_iret (ty := .boolean) dX1_holdsAt_116 rfl rfl

theorem c_X1_holdsAt {h : jw_H} {x0 : Nat} {x1 : Option Nat} {r : Int32} {h' : jw_H} (hq : f_X1_holdsAt h x0 x1 = some (r, h')) : jw_Con (Cond.code yX1_holdsAt cX1_holdsAt 2 (some .boolean)) yX1_holdsAt 9 [.ref x0, va_rf x1] h (.inl (some (.int r))) h' :=
  jw_con false (plainFor_of_name (by decide +kernel)) (fun z => nomatch z) (by simp [jw_ent, jw_sl0_nil, jw_sl0_int, jw_sl0_long, jw_sl0_ref, jw_sl0_rf, jw_sl0_scr, List.replicate]) (by simp [jw_sl0_nil, jw_sl0_int, jw_sl0_long, jw_sl0_ref, jw_sl0_rf, jw_sl0_scr]) (l_X1_holdsAt hq)


/-! X0_isNumber -/
noncomputable def g_X0_isNumber_b23 (h : jw_H) (t0 : Int32) : Option (Int32 × jw_H) :=
 (jw_rb t0).bind fun v1 =>
 some (t0, h)

noncomputable def g_X0_isNumber_b18 (h : jw_H)  : Option (Int32 × jw_H) :=
 g_X0_isNumber_b23  h (1 : Int32)

noncomputable def f_X0_isNumber (h : jw_H) (x0 : Nat) : Option (Int32 × jw_H) :=
 (jw_gI h 0 (some x0) 0).bind fun v1 =>
 if v1 = (48 : Int32) then (g_X0_isNumber_b18  h )
 else ((jw_gI h 0 (some x0) 0).bind fun v3 =>
 if v3 = (36 : Int32) then (g_X0_isNumber_b18  h )
 else (g_X0_isNumber_b23  h (0 : Int32)))

set_option maxRecDepth 100000 in
set_option maxHeartbeats 4000000 in
theorem l_X0_isNumber_b23 {hi : jw_H} {h : jw_H} {t0 : Int32} {r : Int32} {h' : jw_H} (hq : g_X0_isNumber_b23  h t0 = some (r, h')) : jw_E 0 uX0_isNumber hi 23 [none] [.int t0] h (.inl (some (.int r))) h' := by
  unfold g_X0_isNumber_b23 at hq
  obtain ⟨v1, ev1, hq⟩ := Option.bind_eq_some_iff.mp hq
  cases hq
  exact jw_iret (ty := .boolean) dX0_isNumber_23 rfl (jw_rb_spec ev1)

set_option maxRecDepth 100000 in
set_option maxHeartbeats 4000000 in
theorem l_X0_isNumber_b18 {hi : jw_H} {h : jw_H}  {r : Int32} {h' : jw_H} (hq : g_X0_isNumber_b18  h  = some (r, h')) : jw_E 0 uX0_isNumber hi 18 [none] [] h (.inl (some (.int r))) h' := by
  unfold g_X0_isNumber_b18 at hq
  refine jw_iconst dX0_isNumber_18 (v := (1 : Int32)) (by decide) ?_
  refine jw_goto (tgt := 23) dX0_isNumber_19 (by decide) ?_
  exact l_X0_isNumber_b23  hq

set_option maxRecDepth 100000 in
set_option maxHeartbeats 4000000 in
theorem l_X0_isNumber {hi : jw_H} {h : jw_H} {x0 : Nat} {r : Int32} {h' : jw_H} (hq : f_X0_isNumber  h x0 = some (r, h')) : jw_E 0 uX0_isNumber hi 0 [some (.ref x0)] [] h (.inl (some (.int r))) h' := by
  unfold f_X0_isNumber at hq
  refine jw_aload_n dX0_isNumber_0 (o := (some x0)) rfl ?_
  obtain ⟨v1, ev1, hq⟩ := Option.bind_eq_some_iff.mp hq
  refine jw_getI (o := (some x0)) dX0_isNumber_1 ev1 fl_X0_7 rfl ?_
  refine jw_bipush dX0_isNumber_4 (v := (48 : Int32)) (by decide) ?_
  rcases jw_if hq with ⟨c2, hq⟩ | ⟨c2, hq⟩
  · refine jw_icmp_eq_t (tgt := 18) dX0_isNumber_6 (by decide) c2 ?_
    refine jw_forget [false] (L' := [none]) rfl ?_
    exact l_X0_isNumber_b18  hq
  · refine jw_icmp_eq_f (tgt := 18) dX0_isNumber_6 (by decide) c2 ?_
    refine jw_aload_n dX0_isNumber_9 (o := (some x0)) rfl ?_
    obtain ⟨v3, ev3, hq⟩ := Option.bind_eq_some_iff.mp hq
    refine jw_getI (o := (some x0)) dX0_isNumber_10 ev3 fl_X0_7 rfl ?_
    refine jw_bipush dX0_isNumber_13 (v := (36 : Int32)) (by decide) ?_
    rcases jw_if hq with ⟨c4, hq⟩ | ⟨c4, hq⟩
    · refine jw_icmp_ne_f (tgt := 22) dX0_isNumber_15 (by decide) c4 ?_
      refine jw_forget [false] (L' := [none]) rfl ?_
      exact l_X0_isNumber_b18  hq
    · refine jw_icmp_ne_t (tgt := 22) dX0_isNumber_15 (by decide) c4 ?_
      refine jw_iconst dX0_isNumber_22 (v := (0 : Int32)) (by decide) ?_
      refine jw_forget [false] (L' := [none]) rfl ?_
      exact l_X0_isNumber_b23  hq

theorem c_X0_isNumber {h : jw_H} {x0 : Nat} {r : Int32} {h' : jw_H} (hq : f_X0_isNumber h x0 = some (r, h')) : jw_Con (Cond.code yX0_isNumber cX0_isNumber 1 (some .boolean)) yX0_isNumber 0 [.ref x0] h (.inl (some (.int r))) h' :=
  jw_con false (plainFor_of_name (by decide +kernel)) (fun z => nomatch z) (by simp [jw_ent, jw_sl0_nil, jw_sl0_int, jw_sl0_long, jw_sl0_ref, jw_sl0_rf, jw_sl0_scr, List.replicate]) (by simp [jw_sl0_nil, jw_sl0_int, jw_sl0_long, jw_sl0_ref, jw_sl0_rf, jw_sl0_scr]) (l_X0_isNumber hq)


/-! X1_holds -/
noncomputable def g_X1_holds_b187 (h : jw_H) (x1 : Option Nat) (t0 : Option Nat) (t1 : Int32) : Option (Int32 × jw_H) :=
 (jw_pB h 5 t0 10 t1).bind fun h1 =>
 (jw_gI h1 5 x1 11).bind fun v2 =>
 (jw_rb v2).bind fun v3 =>
 some (v2, h1)

noncomputable def g_X1_holds_b186 (h : jw_H) (x1 : Option Nat) (t0 : Option Nat) : Option (Int32 × jw_H) :=
 g_X1_holds_b187  h x1 t0 (0 : Int32)

noncomputable def g_X1_holds_b167 (h : jw_H) (x1 : Option Nat) : Option (Int32 × jw_H) :=
 (jw_gI h 5 x1 11).bind fun v1 =>
 if v1 = 0 then (g_X1_holds_b186  h x1 x1)
 else ((jw_gI h 5 x1 12).bind fun v3 =>
 if v3 = 0 then (g_X1_holds_b187  h x1 x1 (1 : Int32))
 else (g_X1_holds_b186  h x1 x1))

noncomputable def g_X1_holds_b128 (h : jw_H) (x1 : Option Nat) (t0 : Option Nat) (t1 : Int32) : Option (Int32 × jw_H) :=
 (jw_pB h 5 t0 12 t1).bind fun h1 =>
 g_X1_holds_b167  h1 x1

noncomputable def g_X1_holds_b94 (h : jw_H) (x0 : Nat) (x1 : Option Nat) (x2 : Int32) (x3 : Int32) : Option (Int32 × jw_H) :=
 (jw_pB h 5 x1 11 (1 : Int32)).bind fun h1 =>
 if x2 = 0 then ((jw_gR h1 5 x1 1).bind fun v3 =>
 (jw_rc h1 1 (some x0)).bind fun a4 =>
 jw_b2 (f_X1_holdsAt h1 a4 v3) fun w6 h5 =>
 g_X1_holds_b128  h5 x1 x1 w6)
 else ((jw_gI h1 1 (some x0) 11).bind fun v7 =>
 if v7 = x3 then (g_X1_holds_b128  h1 x1 x1 (1 : Int32))
 else (g_X1_holds_b128  h1 x1 x1 (0 : Int32)))

noncomputable def g_X1_holds_b164 (h : jw_H) (x1 : Option Nat) (t0 : Option Nat) (t1 : Int32) : Option (Int32 × jw_H) :=
 (jw_pB h 5 t0 12 t1).bind fun h1 =>
 g_X1_holds_b167  h1 x1

noncomputable def g_X1_holds_b163 (h : jw_H) (x1 : Option Nat) (t0 : Option Nat) : Option (Int32 × jw_H) :=
 g_X1_holds_b164  h x1 t0 (0 : Int32)

noncomputable def g_X1_holds_b134 (h : jw_H) (x0 : Nat) (x1 : Option Nat) (x2 : Int32) (x3 : Int32) : Option (Int32 × jw_H) :=
 (jw_gR h 5 x1 0).bind fun v1 =>
 (jw_rc h 1 (some x0)).bind fun a2 =>
 jw_b2 (f_X1_holdsAt h a2 v1) fun w4 h3 =>
 (jw_pB h3 5 x1 11 w4).bind fun h5 =>
 if x2 = 0 then (g_X1_holds_b163  h5 x1 x1)
 else ((jw_gI h5 1 (some x0) 11).bind fun v7 =>
 if v7 < x3 then (g_X1_holds_b163  h5 x1 x1)
 else (g_X1_holds_b164  h5 x1 x1 (1 : Int32)))

noncomputable def f_X1_holds (h : jw_H) (x0 : Nat) (x1 : Option Nat) : Option (Int32 × jw_H) :=
 (jw_gI h 5 x1 4).bind fun v1 =>
 if v1 = 0 then (some ((1 : Int32), h))
 else ((jw_gI h 5 x1 4).bind fun v3 =>
 if v3 = (1 : Int32) then (some ((1 : Int32), h))
 else ((jw_gI h 5 x1 4).bind fun v5 =>
 if v5 = (2 : Int32) then ((jw_gR h 5 x1 0).bind fun v27 =>
 (jw_rc h 1 (some x0)).bind fun a28 =>
 jw_b2 (f_X1_holdsAt h a28 v27) fun w30 h29 =>
 (jw_rb w30).bind fun v31 =>
 some (w30, h29))
 else ((jw_gI h 5 x1 13).bind fun v7 =>
 (jw_gI h 1 (some x0) 13).bind fun v8 =>
 if v7 = v8 then ((jw_gI h 5 x1 11).bind fun v25 =>
 (jw_rb v25).bind fun v26 =>
 some (v25, h))
 else ((jw_gI h 1 (some x0) 13).bind fun v10 =>
 (jw_pI h 5 x1 13 v10).bind fun h11 =>
 (jw_gR h11 5 x1 1).bind fun v12 =>
 (jw_rc h11 0 v12).bind fun a13 =>
 jw_b2 (f_X0_isNumber h11 a13) fun w15 h14 =>
 (jw_gR h14 5 x1 1).bind fun v16 =>
 (jw_rc h14 1 (some x0)).bind fun a17 =>
 jw_b2 (f_X1_numberOf h14 a17 v16) fun w19 h18 =>
 (jw_gI h18 5 x1 10).bind fun v20 =>
 if v20 = 0 then (g_X1_holds_b134  h18 x0 x1 w15 w19)
 else (if w15 = 0 then (g_X1_holds_b94  h18 x0 x1 w15 w19)
 else ((jw_gI h18 1 (some x0) 11).bind fun v23 =>
 if w19 < v23 then (g_X1_holds_b134  h18 x0 x1 w15 w19)
 else (g_X1_holds_b94  h18 x0 x1 w15 w19)))))))

set_option maxRecDepth 100000 in
set_option maxHeartbeats 4000000 in
theorem l_X1_holds_b187 {hi : jw_H} {h : jw_H} {x1 : Option Nat} {t0 : Option Nat} {t1 : Int32} {r : Int32} {h' : jw_H} (hq : g_X1_holds_b187  h x1 t0 t1 = some (r, h')) : jw_E 10 uX1_holds hi 187 [none, some (va_rf x1), none, none] [.int t1, va_rf t0] h (.inl (some (.int r))) h' := by
  unfold g_X1_holds_b187 at hq
  obtain ⟨h1, eh1, hq⟩ := Option.bind_eq_some_iff.mp hq
  refine jw_putB (o := t0) dX1_holds_187 eh1 fl_X1_225 rfl rfl ?_
  refine jw_aload_n dX1_holds_190 (o := x1) rfl ?_
  obtain ⟨v2, ev2, hq⟩ := Option.bind_eq_some_iff.mp hq
  refine jw_getI (o := x1) dX1_holds_191 ev2 fl_X1_210 rfl ?_
  obtain ⟨v3, ev3, hq⟩ := Option.bind_eq_some_iff.mp hq
  cases hq
  exact jw_iret (ty := .boolean) dX1_holds_194 rfl (jw_rb_spec ev3)

set_option maxRecDepth 100000 in
set_option maxHeartbeats 4000000 in
theorem l_X1_holds_b186 {hi : jw_H} {h : jw_H} {x1 : Option Nat} {t0 : Option Nat} {r : Int32} {h' : jw_H} (hq : g_X1_holds_b186  h x1 t0 = some (r, h')) : jw_E 10 uX1_holds hi 186 [none, some (va_rf x1), none, none] [va_rf t0] h (.inl (some (.int r))) h' := by
  unfold g_X1_holds_b186 at hq
  refine jw_iconst dX1_holds_186 (v := (0 : Int32)) (by decide) ?_
  exact l_X1_holds_b187  hq

set_option maxRecDepth 100000 in
set_option maxHeartbeats 4000000 in
theorem l_X1_holds_b167 {hi : jw_H} {h : jw_H} {x1 : Option Nat} {r : Int32} {h' : jw_H} (hq : g_X1_holds_b167  h x1 = some (r, h')) : jw_E 10 uX1_holds hi 167 [none, some (va_rf x1), none, none] [] h (.inl (some (.int r))) h' := by
  unfold g_X1_holds_b167 at hq
  refine jw_aload_n dX1_holds_167 (o := x1) rfl ?_
  refine jw_aload_n dX1_holds_168 (o := x1) rfl ?_
  obtain ⟨v1, ev1, hq⟩ := Option.bind_eq_some_iff.mp hq
  refine jw_getI (o := x1) dX1_holds_169 ev1 fl_X1_210 rfl ?_
  rcases jw_if hq with ⟨c2, hq⟩ | ⟨c2, hq⟩
  · refine jw_if_eq_t (tgt := 186) dX1_holds_172 (by decide) c2 ?_
    exact l_X1_holds_b186  hq
  · refine jw_if_eq_f (tgt := 186) dX1_holds_172 (by decide) c2 ?_
    refine jw_aload_n dX1_holds_175 (o := x1) rfl ?_
    obtain ⟨v3, ev3, hq⟩ := Option.bind_eq_some_iff.mp hq
    refine jw_getI (o := x1) dX1_holds_176 ev3 fl_X1_228 rfl ?_
    rcases jw_if hq with ⟨c4, hq⟩ | ⟨c4, hq⟩
    · refine jw_if_ne_f (tgt := 186) dX1_holds_179 (by decide) c4 ?_
      refine jw_iconst dX1_holds_182 (v := (1 : Int32)) (by decide) ?_
      refine jw_goto (tgt := 187) dX1_holds_183 (by decide) ?_
      exact l_X1_holds_b187  hq
    · refine jw_if_ne_t (tgt := 186) dX1_holds_179 (by decide) c4 ?_
      exact l_X1_holds_b186  hq

set_option maxRecDepth 100000 in
set_option maxHeartbeats 4000000 in
theorem l_X1_holds_b128 {hi : jw_H} {h : jw_H} {x1 : Option Nat} {t0 : Option Nat} {t1 : Int32} {r : Int32} {h' : jw_H} (hq : g_X1_holds_b128  h x1 t0 t1 = some (r, h')) : jw_E 10 uX1_holds hi 128 [none, some (va_rf x1), none, none] [.int t1, va_rf t0] h (.inl (some (.int r))) h' := by
  unfold g_X1_holds_b128 at hq
  obtain ⟨h1, eh1, hq⟩ := Option.bind_eq_some_iff.mp hq
  refine jw_putB (o := t0) dX1_holds_128 eh1 fl_X1_228 rfl rfl ?_
  refine jw_goto (tgt := 167) dX1_holds_131 (by decide) ?_
  exact l_X1_holds_b167  hq

set_option maxRecDepth 100000 in
set_option maxHeartbeats 4000000 in
theorem l_X1_holds_b94 {hi : jw_H} {h : jw_H} {x0 : Nat} {x1 : Option Nat} {x2 : Int32} {x3 : Int32} {r : Int32} {h' : jw_H} (hq : g_X1_holds_b94  h x0 x1 x2 x3 = some (r, h')) : jw_E 10 uX1_holds hi 94 [some (.ref x0), some (va_rf x1), some (.int x2), some (.int x3)] [] h (.inl (some (.int r))) h' := by
  unfold g_X1_holds_b94 at hq
  refine jw_aload_n dX1_holds_94 (o := x1) rfl ?_
  refine jw_iconst dX1_holds_95 (v := (1 : Int32)) (by decide) ?_
  obtain ⟨h1, eh1, hq⟩ := Option.bind_eq_some_iff.mp hq
  refine jw_putB (o := x1) dX1_holds_96 eh1 fl_X1_210 rfl rfl ?_
  refine jw_aload_n dX1_holds_99 (o := x1) rfl ?_
  refine jw_iload_n dX1_holds_100 rfl ?_
  rcases jw_if hq with ⟨c2, hq⟩ | ⟨c2, hq⟩
  · refine jw_if_eq_t (tgt := 120) dX1_holds_101 (by decide) c2 ?_
    refine jw_aload_n dX1_holds_120 (o := (some x0)) rfl ?_
    refine jw_aload_n dX1_holds_121 (o := x1) rfl ?_
    obtain ⟨v3, ev3, hq⟩ := Option.bind_eq_some_iff.mp hq
    refine jw_getR (o := x1) dX1_holds_122 ev3 fl_X1_213 rfl ?_
    obtain ⟨a4, ea4, hq⟩ := Option.bind_eq_some_iff.mp hq
    obtain ⟨eoa4, eta4⟩ := jw_rc_spec ea4
    obtain ⟨w6, h5, ew6, hq⟩ := jw_b2_spec hq
    refine jw_callV (As := [va_rf v3]) (S := [va_rf x1]) (a := a4) (v := some (.int w6)) dX1_holds_125 mt_X1_holdsAt in_X1_holdsAt se_X1_holdsAt lk_X1_203 (c_X1_holdsAt ew6) eta4 (by decide) rfl rfl (by decide) (by simp only [List.map_cons, List.map_nil, List.sum_cons, List.sum_nil, jw_cat_rf, jw_cat_i, jw_cat_l, jw_cat_a, jw_cat_s] <;> decide) (by cases eoa4; rfl) ?_
    refine jw_forget [false, true, false, false] (L' := [none, some (va_rf x1), none, none]) rfl ?_
    exact l_X1_holds_b128  hq
  · refine jw_if_eq_f (tgt := 120) dX1_holds_101 (by decide) c2 ?_
    refine jw_aload_n dX1_holds_104 (o := (some x0)) rfl ?_
    obtain ⟨v7, ev7, hq⟩ := Option.bind_eq_some_iff.mp hq
    refine jw_getI (o := (some x0)) dX1_holds_105 ev7 fl_X1_137 rfl ?_
    refine jw_iload_n dX1_holds_108 rfl ?_
    rcases jw_if hq with ⟨c8, hq⟩ | ⟨c8, hq⟩
    · refine jw_icmp_ne_f (tgt := 116) dX1_holds_109 (by decide) c8 ?_
      refine jw_iconst dX1_holds_112 (v := (1 : Int32)) (by decide) ?_
      refine jw_goto (tgt := 128) dX1_holds_113 (by decide) ?_
      refine jw_forget [false, true, false, false] (L' := [none, some (va_rf x1), none, none]) rfl ?_
      exact l_X1_holds_b128  hq
    · refine jw_icmp_ne_t (tgt := 116) dX1_holds_109 (by decide) c8 ?_
      refine jw_iconst dX1_holds_116 (v := (0 : Int32)) (by decide) ?_
      refine jw_goto (tgt := 128) dX1_holds_117 (by decide) ?_
      refine jw_forget [false, true, false, false] (L' := [none, some (va_rf x1), none, none]) rfl ?_
      exact l_X1_holds_b128  hq

set_option maxRecDepth 100000 in
set_option maxHeartbeats 4000000 in
theorem l_X1_holds_b164 {hi : jw_H} {h : jw_H} {x1 : Option Nat} {t0 : Option Nat} {t1 : Int32} {r : Int32} {h' : jw_H} (hq : g_X1_holds_b164  h x1 t0 t1 = some (r, h')) : jw_E 10 uX1_holds hi 164 [none, some (va_rf x1), none, none] [.int t1, va_rf t0] h (.inl (some (.int r))) h' := by
  unfold g_X1_holds_b164 at hq
  obtain ⟨h1, eh1, hq⟩ := Option.bind_eq_some_iff.mp hq
  refine jw_putB (o := t0) dX1_holds_164 eh1 fl_X1_228 rfl rfl ?_
  exact l_X1_holds_b167  hq

set_option maxRecDepth 100000 in
set_option maxHeartbeats 4000000 in
theorem l_X1_holds_b163 {hi : jw_H} {h : jw_H} {x1 : Option Nat} {t0 : Option Nat} {r : Int32} {h' : jw_H} (hq : g_X1_holds_b163  h x1 t0 = some (r, h')) : jw_E 10 uX1_holds hi 163 [none, some (va_rf x1), none, none] [va_rf t0] h (.inl (some (.int r))) h' := by
  unfold g_X1_holds_b163 at hq
  refine jw_iconst dX1_holds_163 (v := (0 : Int32)) (by decide) ?_
  exact l_X1_holds_b164  hq

set_option maxRecDepth 100000 in
set_option maxHeartbeats 4000000 in
theorem l_X1_holds_b134 {hi : jw_H} {h : jw_H} {x0 : Nat} {x1 : Option Nat} {x2 : Int32} {x3 : Int32} {r : Int32} {h' : jw_H} (hq : g_X1_holds_b134  h x0 x1 x2 x3 = some (r, h')) : jw_E 10 uX1_holds hi 134 [some (.ref x0), some (va_rf x1), some (.int x2), some (.int x3)] [] h (.inl (some (.int r))) h' := by
  unfold g_X1_holds_b134 at hq
  refine jw_aload_n dX1_holds_134 (o := x1) rfl ?_
  refine jw_aload_n dX1_holds_135 (o := (some x0)) rfl ?_
  refine jw_aload_n dX1_holds_136 (o := x1) rfl ?_
  obtain ⟨v1, ev1, hq⟩ := Option.bind_eq_some_iff.mp hq
  refine jw_getR (o := x1) dX1_holds_137 ev1 fl_X1_199 rfl ?_
  obtain ⟨a2, ea2, hq⟩ := Option.bind_eq_some_iff.mp hq
  obtain ⟨eoa2, eta2⟩ := jw_rc_spec ea2
  obtain ⟨w4, h3, ew4, hq⟩ := jw_b2_spec hq
  refine jw_callV (As := [va_rf v1]) (S := [va_rf x1]) (a := a2) (v := some (.int w4)) dX1_holds_140 mt_X1_holdsAt in_X1_holdsAt se_X1_holdsAt lk_X1_203 (c_X1_holdsAt ew4) eta2 (by decide) rfl rfl (by decide) (by simp only [List.map_cons, List.map_nil, List.sum_cons, List.sum_nil, jw_cat_rf, jw_cat_i, jw_cat_l, jw_cat_a, jw_cat_s] <;> decide) (by cases eoa2; rfl) ?_
  obtain ⟨h5, eh5, hq⟩ := Option.bind_eq_some_iff.mp hq
  refine jw_putB (o := x1) dX1_holds_143 eh5 fl_X1_210 rfl rfl ?_
  refine jw_aload_n dX1_holds_146 (o := x1) rfl ?_
  refine jw_iload_n dX1_holds_147 rfl ?_
  rcases jw_if hq with ⟨c6, hq⟩ | ⟨c6, hq⟩
  · refine jw_if_eq_t (tgt := 163) dX1_holds_148 (by decide) c6 ?_
    refine jw_forget [false, true, false, false] (L' := [none, some (va_rf x1), none, none]) rfl ?_
    exact l_X1_holds_b163  hq
  · refine jw_if_eq_f (tgt := 163) dX1_holds_148 (by decide) c6 ?_
    refine jw_aload_n dX1_holds_151 (o := (some x0)) rfl ?_
    obtain ⟨v7, ev7, hq⟩ := Option.bind_eq_some_iff.mp hq
    refine jw_getI (o := (some x0)) dX1_holds_152 ev7 fl_X1_137 rfl ?_
    refine jw_iload_n dX1_holds_155 rfl ?_
    rcases jw_if hq with ⟨c8, hq⟩ | ⟨c8, hq⟩
    · refine jw_icmp_lt_t (tgt := 163) dX1_holds_156 (by decide) c8 ?_
      refine jw_forget [false, true, false, false] (L' := [none, some (va_rf x1), none, none]) rfl ?_
      exact l_X1_holds_b163  hq
    · refine jw_icmp_lt_f (tgt := 163) dX1_holds_156 (by decide) c8 ?_
      refine jw_iconst dX1_holds_159 (v := (1 : Int32)) (by decide) ?_
      refine jw_goto (tgt := 164) dX1_holds_160 (by decide) ?_
      refine jw_forget [false, true, false, false] (L' := [none, some (va_rf x1), none, none]) rfl ?_
      exact l_X1_holds_b164  hq

set_option maxRecDepth 100000 in
set_option maxHeartbeats 4000000 in
theorem l_X1_holds {hi : jw_H} {h : jw_H} {x0 : Nat} {x1 : Option Nat} {r : Int32} {h' : jw_H} (hq : f_X1_holds  h x0 x1 = some (r, h')) : jw_E 10 uX1_holds hi 0 [some (.ref x0), some (va_rf x1), none, none] [] h (.inl (some (.int r))) h' := by
  unfold f_X1_holds at hq
  refine jw_aload_n dX1_holds_0 (o := x1) rfl ?_
  obtain ⟨v1, ev1, hq⟩ := Option.bind_eq_some_iff.mp hq
  refine jw_getI (o := x1) dX1_holds_1 ev1 fl_X1_196 rfl ?_
  rcases jw_if hq with ⟨c2, hq⟩ | ⟨c2, hq⟩
  · refine jw_if_eq_t (tgt := 15) dX1_holds_4 (by decide) c2 ?_
    refine jw_iconst dX1_holds_15 (v := (1 : Int32)) (by decide) ?_
    cases hq
    exact jw_iret (ty := .boolean) dX1_holds_16 rfl rfl
  · refine jw_if_eq_f (tgt := 15) dX1_holds_4 (by decide) c2 ?_
    refine jw_aload_n dX1_holds_7 (o := x1) rfl ?_
    obtain ⟨v3, ev3, hq⟩ := Option.bind_eq_some_iff.mp hq
    refine jw_getI (o := x1) dX1_holds_8 ev3 fl_X1_196 rfl ?_
    refine jw_iconst dX1_holds_11 (v := (1 : Int32)) (by decide) ?_
    rcases jw_if hq with ⟨c4, hq⟩ | ⟨c4, hq⟩
    · refine jw_icmp_ne_f (tgt := 17) dX1_holds_12 (by decide) c4 ?_
      refine jw_iconst dX1_holds_15 (v := (1 : Int32)) (by decide) ?_
      cases hq
      exact jw_iret (ty := .boolean) dX1_holds_16 rfl rfl
    · refine jw_icmp_ne_t (tgt := 17) dX1_holds_12 (by decide) c4 ?_
      refine jw_aload_n dX1_holds_17 (o := x1) rfl ?_
      obtain ⟨v5, ev5, hq⟩ := Option.bind_eq_some_iff.mp hq
      refine jw_getI (o := x1) dX1_holds_18 ev5 fl_X1_196 rfl ?_
      refine jw_iconst dX1_holds_21 (v := (2 : Int32)) (by decide) ?_
      rcases jw_if hq with ⟨c6, hq⟩ | ⟨c6, hq⟩
      · refine jw_icmp_ne_f (tgt := 34) dX1_holds_22 (by decide) c6 ?_
        refine jw_aload_n dX1_holds_25 (o := (some x0)) rfl ?_
        refine jw_aload_n dX1_holds_26 (o := x1) rfl ?_
        obtain ⟨v27, ev27, hq⟩ := Option.bind_eq_some_iff.mp hq
        refine jw_getR (o := x1) dX1_holds_27 ev27 fl_X1_199 rfl ?_
        obtain ⟨a28, ea28, hq⟩ := Option.bind_eq_some_iff.mp hq
        obtain ⟨eoa28, eta28⟩ := jw_rc_spec ea28
        obtain ⟨w30, h29, ew30, hq⟩ := jw_b2_spec hq
        refine jw_callV (As := [va_rf v27]) (S := []) (a := a28) (v := some (.int w30)) dX1_holds_30 mt_X1_holdsAt in_X1_holdsAt se_X1_holdsAt lk_X1_203 (c_X1_holdsAt ew30) eta28 (by decide) rfl rfl (by decide) (Nat.le_of_ble_eq_true rfl) (by cases eoa28; rfl) ?_
        obtain ⟨v31, ev31, hq⟩ := Option.bind_eq_some_iff.mp hq
        cases hq
        exact jw_iret (ty := .boolean) dX1_holds_33 rfl (jw_rb_spec ev31)
      · refine jw_icmp_ne_t (tgt := 34) dX1_holds_22 (by decide) c6 ?_
        refine jw_aload_n dX1_holds_34 (o := x1) rfl ?_
        obtain ⟨v7, ev7, hq⟩ := Option.bind_eq_some_iff.mp hq
        refine jw_getI (o := x1) dX1_holds_35 ev7 fl_X1_207 rfl ?_
        refine jw_aload_n dX1_holds_38 (o := (some x0)) rfl ?_
        obtain ⟨v8, ev8, hq⟩ := Option.bind_eq_some_iff.mp hq
        refine jw_getI (o := (some x0)) dX1_holds_39 ev8 fl_X1_118 rfl ?_
        rcases jw_if hq with ⟨c9, hq⟩ | ⟨c9, hq⟩
        · refine jw_icmp_ne_f (tgt := 50) dX1_holds_42 (by decide) c9 ?_
          refine jw_aload_n dX1_holds_45 (o := x1) rfl ?_
          obtain ⟨v25, ev25, hq⟩ := Option.bind_eq_some_iff.mp hq
          refine jw_getI (o := x1) dX1_holds_46 ev25 fl_X1_210 rfl ?_
          obtain ⟨v26, ev26, hq⟩ := Option.bind_eq_some_iff.mp hq
          cases hq
          exact jw_iret (ty := .boolean) dX1_holds_49 rfl (jw_rb_spec ev26)
        · refine jw_icmp_ne_t (tgt := 50) dX1_holds_42 (by decide) c9 ?_
          refine jw_aload_n dX1_holds_50 (o := x1) rfl ?_
          refine jw_aload_n dX1_holds_51 (o := (some x0)) rfl ?_
          obtain ⟨v10, ev10, hq⟩ := Option.bind_eq_some_iff.mp hq
          refine jw_getI (o := (some x0)) dX1_holds_52 ev10 fl_X1_118 rfl ?_
          obtain ⟨h11, eh11, hq⟩ := Option.bind_eq_some_iff.mp hq
          refine jw_putI (o := x1) dX1_holds_55 eh11 fl_X1_207 rfl rfl ?_
          refine jw_aload_n dX1_holds_58 (o := x1) rfl ?_
          obtain ⟨v12, ev12, hq⟩ := Option.bind_eq_some_iff.mp hq
          refine jw_getR (o := x1) dX1_holds_59 ev12 fl_X1_213 rfl ?_
          obtain ⟨a13, ea13, hq⟩ := Option.bind_eq_some_iff.mp hq
          obtain ⟨eoa13, eta13⟩ := jw_rc_spec ea13
          obtain ⟨w15, h14, ew15, hq⟩ := jw_b2_spec hq
          refine jw_callV (As := []) (S := []) (a := a13) (v := some (.int w15)) dX1_holds_62 mt_X0_isNumber in_X0_isNumber se_X0_isNumber lk_X1_216 (c_X0_isNumber ew15) eta13 (by decide) rfl rfl (by decide) (Nat.le_of_ble_eq_true rfl) (by cases eoa13; rfl) ?_
          refine jw_istore_n (L' := [some (.ref x0), some (va_rf x1), some (.int w15), none]) dX1_holds_65 (Nat.le_of_ble_eq_true rfl) ((jw_st1_of (j := 1) jw_long_rf).trans rfl) ?_
          refine jw_aload_n dX1_holds_66 (o := (some x0)) rfl ?_
          refine jw_aload_n dX1_holds_67 (o := x1) rfl ?_
          obtain ⟨v16, ev16, hq⟩ := Option.bind_eq_some_iff.mp hq
          refine jw_getR (o := x1) dX1_holds_68 ev16 fl_X1_213 rfl ?_
          obtain ⟨a17, ea17, hq⟩ := Option.bind_eq_some_iff.mp hq
          obtain ⟨eoa17, eta17⟩ := jw_rc_spec ea17
          obtain ⟨w19, h18, ew19, hq⟩ := jw_b2_spec hq
          refine jw_callV (As := [va_rf v16]) (S := []) (a := a17) (v := some (.int w19)) dX1_holds_71 mt_X1_numberOf in_X1_numberOf se_X1_numberOf lk_X1_221 (c_X1_numberOf ew19) eta17 (by decide) rfl rfl (by decide) (Nat.le_of_ble_eq_true rfl) (by cases eoa17; rfl) ?_
          refine jw_istore_n (L' := [some (.ref x0), some (va_rf x1), some (.int w15), some (.int w19)]) dX1_holds_74 (Nat.le_of_ble_eq_true rfl) rfl ?_
          refine jw_aload_n dX1_holds_75 (o := x1) rfl ?_
          obtain ⟨v20, ev20, hq⟩ := Option.bind_eq_some_iff.mp hq
          refine jw_getI (o := x1) dX1_holds_76 ev20 fl_X1_225 rfl ?_
          rcases jw_if hq with ⟨c21, hq⟩ | ⟨c21, hq⟩
          · refine jw_if_eq_t (tgt := 134) dX1_holds_79 (by decide) c21 ?_
            exact l_X1_holds_b134  hq
          · refine jw_if_eq_f (tgt := 134) dX1_holds_79 (by decide) c21 ?_
            refine jw_iload_n dX1_holds_82 rfl ?_
            rcases jw_if hq with ⟨c22, hq⟩ | ⟨c22, hq⟩
            · refine jw_if_eq_t (tgt := 94) dX1_holds_83 (by decide) c22 ?_
              exact l_X1_holds_b94  hq
            · refine jw_if_eq_f (tgt := 94) dX1_holds_83 (by decide) c22 ?_
              refine jw_aload_n dX1_holds_86 (o := (some x0)) rfl ?_
              obtain ⟨v23, ev23, hq⟩ := Option.bind_eq_some_iff.mp hq
              refine jw_getI (o := (some x0)) dX1_holds_87 ev23 fl_X1_137 rfl ?_
              refine jw_iload_n dX1_holds_90 rfl ?_
              rcases jw_if hq with ⟨c24, hq⟩ | ⟨c24, hq⟩
              · refine jw_icmp_gt_t (tgt := 134) dX1_holds_91 (by decide) c24 ?_
                exact l_X1_holds_b134  hq
              · refine jw_icmp_gt_f (tgt := 134) dX1_holds_91 (by decide) c24 ?_
                exact l_X1_holds_b94  hq

theorem c_X1_holds {h : jw_H} {x0 : Nat} {x1 : Option Nat} {r : Int32} {h' : jw_H} (hq : f_X1_holds h x0 x1 = some (r, h')) : jw_Con (Cond.code yX1_holds cX1_holds 4 (some .boolean)) yX1_holds 10 [.ref x0, va_rf x1] h (.inl (some (.int r))) h' :=
  jw_con false (plainFor_of_name (by decide +kernel)) (fun z => nomatch z) (by simp [jw_ent, jw_sl0_nil, jw_sl0_int, jw_sl0_long, jw_sl0_ref, jw_sl0_rf, jw_sl0_scr, List.replicate]) (by simp [jw_sl0_nil, jw_sl0_int, jw_sl0_long, jw_sl0_ref, jw_sl0_rf, jw_sl0_scr]) (l_X1_holds hq)


/-! X1_steer -/
noncomputable def g_X1_steer_b69 (h : jw_H) (x1 : Option Nat) : Option (Int32 × jw_H) :=
 (jw_gI h 5 x1 9).bind fun v1 =>
 some (v1, h)

noncomputable def g_X1_steer_b113 (h : jw_H) (x0 : Nat) (x1 : Option Nat) (x2 : Int32) : Option (Int32 × jw_H) :=
 (jw_gI h 5 x1 3).bind fun v1 =>
 if v1 = (84 : Int32) then ((jw_gR h 1 (some x0) 5).bind fun v3 =>
 (jw_pB h 2 v3 5 (0 : Int32)).bind fun h4 =>
 some (x2, h4))
 else (some (x2, h))

noncomputable def g_X1_steer_b74 (h : jw_H) (x0 : Nat) (x1 : Option Nat) : Option (Int32 × jw_H) :=
 (jw_gI h 5 x1 5).bind fun v1 =>
 if v1 = (-1 : Int32) then ((jw_gR h 1 (some x0) 0).bind fun v10 =>
 (jw_gI h 6 v10 6).bind fun v11 =>
 some (v11, h))
 else ((jw_gR h 1 (some x0) 0).bind fun v3 =>
 (jw_gI h 5 x1 5).bind fun v4 =>
 (jw_rc h 6 v3).bind fun a5 =>
 jw_b2 (f_X6_placeBehind h a5 v4) fun w7 h6 =>
 if w7 = (-1 : Int32) then ((jw_pI h6 1 (some x0) 15 (6 : Int32)).bind fun h9 =>
 g_X1_steer_b113  h9 x0 x1 w7)
 else (g_X1_steer_b113  h6 x0 x1 w7))

noncomputable def f_X1_steer (h : jw_H) (x0 : Nat) (x1 : Option Nat) : Option (Int32 × jw_H) :=
 (jw_gI h 5 x1 3).bind fun v1 =>
 if v1 = (113 : Int32) then ((jw_pB h 1 (some x0) 19 (1 : Int32)).bind fun h14 =>
 (jw_gR h14 1 (some x0) 0).bind fun v15 =>
 (jw_gI h14 6 v15 6).bind fun v16 =>
 some (v16, h14))
 else ((jw_gI h 5 x1 3).bind fun v3 =>
 if v3 = (78 : Int32) then ((jw_pB h 1 (some x0) 18 (1 : Int32)).bind fun h12 =>
 (jw_gI h12 5 x1 9).bind fun v13 =>
 some (v13, h12))
 else ((jw_gI h 5 x1 3).bind fun v5 =>
 if v5 = (58 : Int32) then (g_X1_steer_b69  h x1)
 else ((jw_gI h 5 x1 3).bind fun v7 =>
 if v7 = (84 : Int32) then ((jw_gR h 1 (some x0) 5).bind fun v9 =>
 (jw_gI h 2 v9 5).bind fun v10 =>
 if v10 = 0 then (g_X1_steer_b69  h x1)
 else (g_X1_steer_b74  h x0 x1))
 else (g_X1_steer_b74  h x0 x1))))

set_option maxRecDepth 100000 in
set_option maxHeartbeats 4000000 in
theorem l_X1_steer_b69 {hi : jw_H} {h : jw_H} {x1 : Option Nat} {r : Int32} {h' : jw_H} (hq : g_X1_steer_b69  h x1 = some (r, h')) : jw_E 2 uX1_steer hi 69 [none, some (va_rf x1), none] [] h (.inl (some (.int r))) h' := by
  unfold g_X1_steer_b69 at hq
  refine jw_aload_n dX1_steer_69 (o := x1) rfl ?_
  obtain ⟨v1, ev1, hq⟩ := Option.bind_eq_some_iff.mp hq
  refine jw_getI (o := x1) dX1_steer_70 ev1 fl_X1_172 rfl ?_
  cases hq
  exact jw_iret (ty := .int) dX1_steer_73 rfl rfl

set_option maxRecDepth 100000 in
set_option maxHeartbeats 4000000 in
theorem l_X1_steer_b113 {hi : jw_H} {h : jw_H} {x0 : Nat} {x1 : Option Nat} {x2 : Int32} {r : Int32} {h' : jw_H} (hq : g_X1_steer_b113  h x0 x1 x2 = some (r, h')) : jw_E 2 uX1_steer hi 113 [some (.ref x0), some (va_rf x1), some (.int x2)] [] h (.inl (some (.int r))) h' := by
  unfold g_X1_steer_b113 at hq
  refine jw_aload_n dX1_steer_113 (o := x1) rfl ?_
  obtain ⟨v1, ev1, hq⟩ := Option.bind_eq_some_iff.mp hq
  refine jw_getI (o := x1) dX1_steer_114 ev1 fl_X1_125 rfl ?_
  refine jw_bipush dX1_steer_117 (v := (84 : Int32)) (by decide) ?_
  rcases jw_if hq with ⟨c2, hq⟩ | ⟨c2, hq⟩
  · refine jw_icmp_ne_f (tgt := 130) dX1_steer_119 (by decide) c2 ?_
    refine jw_aload_n dX1_steer_122 (o := (some x0)) rfl ?_
    obtain ⟨v3, ev3, hq⟩ := Option.bind_eq_some_iff.mp hq
    refine jw_getR (o := (some x0)) dX1_steer_123 ev3 fl_X1_30 rfl ?_
    refine jw_iconst dX1_steer_126 (v := (0 : Int32)) (by decide) ?_
    obtain ⟨h4, eh4, hq⟩ := Option.bind_eq_some_iff.mp hq
    refine jw_putB (o := v3) dX1_steer_127 eh4 fl_X1_151 rfl rfl ?_
    refine jw_iload_n dX1_steer_130 rfl ?_
    cases hq
    exact jw_iret (ty := .int) dX1_steer_131 rfl rfl
  · refine jw_icmp_ne_t (tgt := 130) dX1_steer_119 (by decide) c2 ?_
    refine jw_iload_n dX1_steer_130 rfl ?_
    cases hq
    exact jw_iret (ty := .int) dX1_steer_131 rfl rfl

set_option maxRecDepth 100000 in
set_option maxHeartbeats 4000000 in
theorem l_X1_steer_b74 {hi : jw_H} {h : jw_H} {x0 : Nat} {x1 : Option Nat} {r : Int32} {h' : jw_H} (hq : g_X1_steer_b74  h x0 x1 = some (r, h')) : jw_E 2 uX1_steer hi 74 [some (.ref x0), some (va_rf x1), none] [] h (.inl (some (.int r))) h' := by
  unfold g_X1_steer_b74 at hq
  refine jw_aload_n dX1_steer_74 (o := x1) rfl ?_
  obtain ⟨v1, ev1, hq⟩ := Option.bind_eq_some_iff.mp hq
  refine jw_getI (o := x1) dX1_steer_75 ev1 fl_X1_130 rfl ?_
  refine jw_iconst dX1_steer_78 (v := (-1 : Int32)) (by decide) ?_
  rcases jw_if hq with ⟨c2, hq⟩ | ⟨c2, hq⟩
  · refine jw_icmp_ne_f (tgt := 90) dX1_steer_79 (by decide) c2 ?_
    refine jw_aload_n dX1_steer_82 (o := (some x0)) rfl ?_
    obtain ⟨v10, ev10, hq⟩ := Option.bind_eq_some_iff.mp hq
    refine jw_getR (o := (some x0)) dX1_steer_83 ev10 fl_X1_9 rfl ?_
    obtain ⟨v11, ev11, hq⟩ := Option.bind_eq_some_iff.mp hq
    refine jw_getI (o := v10) dX1_steer_86 ev11 fl_X1_72 rfl ?_
    cases hq
    exact jw_iret (ty := .int) dX1_steer_89 rfl rfl
  · refine jw_icmp_ne_t (tgt := 90) dX1_steer_79 (by decide) c2 ?_
    refine jw_aload_n dX1_steer_90 (o := (some x0)) rfl ?_
    obtain ⟨v3, ev3, hq⟩ := Option.bind_eq_some_iff.mp hq
    refine jw_getR (o := (some x0)) dX1_steer_91 ev3 fl_X1_9 rfl ?_
    refine jw_aload_n dX1_steer_94 (o := x1) rfl ?_
    obtain ⟨v4, ev4, hq⟩ := Option.bind_eq_some_iff.mp hq
    refine jw_getI (o := x1) dX1_steer_95 ev4 fl_X1_130 rfl ?_
    obtain ⟨a5, ea5, hq⟩ := Option.bind_eq_some_iff.mp hq
    obtain ⟨eoa5, eta5⟩ := jw_rc_spec ea5
    obtain ⟨w7, h6, ew7, hq⟩ := jw_b2_spec hq
    refine jw_callV (As := [.int v4]) (S := []) (a := a5) (v := some (.int w7)) dX1_steer_98 mt_X6_placeBehind in_X6_placeBehind se_X6_placeBehind lk_X1_243 (c_X6_placeBehind ew7) eta5 (by decide) rfl rfl (by decide) (Nat.le_of_ble_eq_true rfl) (by cases eoa5; rfl) ?_
    refine jw_istore_n (L' := [some (.ref x0), some (va_rf x1), some (.int w7)]) dX1_steer_101 (Nat.le_of_ble_eq_true rfl) ((jw_st1_of (j := 1) jw_long_rf).trans rfl) ?_
    refine jw_iload_n dX1_steer_102 rfl ?_
    refine jw_iconst dX1_steer_103 (v := (-1 : Int32)) (by decide) ?_
    rcases jw_if hq with ⟨c8, hq⟩ | ⟨c8, hq⟩
    · refine jw_icmp_ne_f (tgt := 113) dX1_steer_104 (by decide) c8 ?_
      refine jw_aload_n dX1_steer_107 (o := (some x0)) rfl ?_
      refine jw_bipush dX1_steer_108 (v := (6 : Int32)) (by decide) ?_
      obtain ⟨h9, eh9, hq⟩ := Option.bind_eq_some_iff.mp hq
      refine jw_putI (o := (some x0)) dX1_steer_110 eh9 fl_X1_65 rfl rfl ?_
      exact l_X1_steer_b113  hq
    · refine jw_icmp_ne_t (tgt := 113) dX1_steer_104 (by decide) c8 ?_
      exact l_X1_steer_b113  hq

set_option maxRecDepth 100000 in
set_option maxHeartbeats 4000000 in
theorem l_X1_steer {hi : jw_H} {h : jw_H} {x0 : Nat} {x1 : Option Nat} {r : Int32} {h' : jw_H} (hq : f_X1_steer  h x0 x1 = some (r, h')) : jw_E 2 uX1_steer hi 0 [some (.ref x0), some (va_rf x1), none] [] h (.inl (some (.int r))) h' := by
  unfold f_X1_steer at hq
  refine jw_aload_n dX1_steer_0 (o := x1) rfl ?_
  obtain ⟨v1, ev1, hq⟩ := Option.bind_eq_some_iff.mp hq
  refine jw_getI (o := x1) dX1_steer_1 ev1 fl_X1_125 rfl ?_
  refine jw_bipush dX1_steer_4 (v := (113 : Int32)) (by decide) ?_
  rcases jw_if hq with ⟨c2, hq⟩ | ⟨c2, hq⟩
  · refine jw_icmp_ne_f (tgt := 22) dX1_steer_6 (by decide) c2 ?_
    refine jw_aload_n dX1_steer_9 (o := (some x0)) rfl ?_
    refine jw_iconst dX1_steer_10 (v := (1 : Int32)) (by decide) ?_
    obtain ⟨h14, eh14, hq⟩ := Option.bind_eq_some_iff.mp hq
    refine jw_putB (o := (some x0)) dX1_steer_11 eh14 fl_X1_84 rfl rfl ?_
    refine jw_aload_n dX1_steer_14 (o := (some x0)) rfl ?_
    obtain ⟨v15, ev15, hq⟩ := Option.bind_eq_some_iff.mp hq
    refine jw_getR (o := (some x0)) dX1_steer_15 ev15 fl_X1_9 rfl ?_
    obtain ⟨v16, ev16, hq⟩ := Option.bind_eq_some_iff.mp hq
    refine jw_getI (o := v15) dX1_steer_18 ev16 fl_X1_72 rfl ?_
    cases hq
    exact jw_iret (ty := .int) dX1_steer_21 rfl rfl
  · refine jw_icmp_ne_t (tgt := 22) dX1_steer_6 (by decide) c2 ?_
    refine jw_aload_n dX1_steer_22 (o := x1) rfl ?_
    obtain ⟨v3, ev3, hq⟩ := Option.bind_eq_some_iff.mp hq
    refine jw_getI (o := x1) dX1_steer_23 ev3 fl_X1_125 rfl ?_
    refine jw_bipush dX1_steer_26 (v := (78 : Int32)) (by decide) ?_
    rcases jw_if hq with ⟨c4, hq⟩ | ⟨c4, hq⟩
    · refine jw_icmp_ne_f (tgt := 41) dX1_steer_28 (by decide) c4 ?_
      refine jw_aload_n dX1_steer_31 (o := (some x0)) rfl ?_
      refine jw_iconst dX1_steer_32 (v := (1 : Int32)) (by decide) ?_
      obtain ⟨h12, eh12, hq⟩ := Option.bind_eq_some_iff.mp hq
      refine jw_putB (o := (some x0)) dX1_steer_33 eh12 fl_X1_69 rfl rfl ?_
      refine jw_aload_n dX1_steer_36 (o := x1) rfl ?_
      obtain ⟨v13, ev13, hq⟩ := Option.bind_eq_some_iff.mp hq
      refine jw_getI (o := x1) dX1_steer_37 ev13 fl_X1_172 rfl ?_
      cases hq
      exact jw_iret (ty := .int) dX1_steer_40 rfl rfl
    · refine jw_icmp_ne_t (tgt := 41) dX1_steer_28 (by decide) c4 ?_
      refine jw_aload_n dX1_steer_41 (o := x1) rfl ?_
      obtain ⟨v5, ev5, hq⟩ := Option.bind_eq_some_iff.mp hq
      refine jw_getI (o := x1) dX1_steer_42 ev5 fl_X1_125 rfl ?_
      refine jw_bipush dX1_steer_45 (v := (58 : Int32)) (by decide) ?_
      rcases jw_if hq with ⟨c6, hq⟩ | ⟨c6, hq⟩
      · refine jw_icmp_eq_t (tgt := 69) dX1_steer_47 (by decide) c6 ?_
        refine jw_forget [false, true, true] (L' := [none, some (va_rf x1), none]) rfl ?_
        exact l_X1_steer_b69  hq
      · refine jw_icmp_eq_f (tgt := 69) dX1_steer_47 (by decide) c6 ?_
        refine jw_aload_n dX1_steer_50 (o := x1) rfl ?_
        obtain ⟨v7, ev7, hq⟩ := Option.bind_eq_some_iff.mp hq
        refine jw_getI (o := x1) dX1_steer_51 ev7 fl_X1_125 rfl ?_
        refine jw_bipush dX1_steer_54 (v := (84 : Int32)) (by decide) ?_
        rcases jw_if hq with ⟨c8, hq⟩ | ⟨c8, hq⟩
        · refine jw_icmp_ne_f (tgt := 74) dX1_steer_56 (by decide) c8 ?_
          refine jw_aload_n dX1_steer_59 (o := (some x0)) rfl ?_
          obtain ⟨v9, ev9, hq⟩ := Option.bind_eq_some_iff.mp hq
          refine jw_getR (o := (some x0)) dX1_steer_60 ev9 fl_X1_30 rfl ?_
          obtain ⟨v10, ev10, hq⟩ := Option.bind_eq_some_iff.mp hq
          refine jw_getI (o := v9) dX1_steer_63 ev10 fl_X1_151 rfl ?_
          rcases jw_if hq with ⟨c11, hq⟩ | ⟨c11, hq⟩
          · refine jw_if_ne_f (tgt := 74) dX1_steer_66 (by decide) c11 ?_
            refine jw_forget [false, true, true] (L' := [none, some (va_rf x1), none]) rfl ?_
            exact l_X1_steer_b69  hq
          · refine jw_if_ne_t (tgt := 74) dX1_steer_66 (by decide) c11 ?_
            exact l_X1_steer_b74  hq
        · refine jw_icmp_ne_t (tgt := 74) dX1_steer_56 (by decide) c8 ?_
          exact l_X1_steer_b74  hq

theorem c_X1_steer {h : jw_H} {x0 : Nat} {x1 : Option Nat} {r : Int32} {h' : jw_H} (hq : f_X1_steer h x0 x1 = some (r, h')) : jw_Con (Cond.code yX1_steer cX1_steer 3 (some .int)) yX1_steer 2 [.ref x0, va_rf x1] h (.inl (some (.int r))) h' :=
  jw_con false (plainFor_of_name (by decide +kernel)) (fun z => nomatch z) (by simp [jw_ent, jw_sl0_nil, jw_sl0_int, jw_sl0_long, jw_sl0_ref, jw_sl0_rf, jw_sl0_scr, List.replicate]) (by simp [jw_sl0_nil, jw_sl0_int, jw_sl0_long, jw_sl0_ref, jw_sl0_rf, jw_sl0_scr]) (l_X1_steer hq)


/-! X1_putDue -/
noncomputable def g_X1_putDue_b2 (k2 : jw_H → Nat → Option Nat → Int32 → Option (Unit × jw_H)) (h : jw_H) (x0 : Nat) (x1 : Option Nat) (x2 : Int32) : Option (Unit × jw_H) :=
 if x1 = none then (some ((), h))
 else ((jw_gI h 7 x1 2).bind fun v2 =>
 if v2 < x2 then (some ((), h))
 else ((jw_gR h 1 (some x0) 8).bind fun v4 =>
 (jw_rc h 7 v4).bind fun a5 =>
 jw_b2 (f_X7_addRow h a5 x1 x2) fun w7 h6 =>
 k2 h6 x0 x1 (x2 + (1 : Int32))))

noncomputable def f_X1_putDue_b2 (n : Nat) : jw_H → Nat → Option Nat → Int32 → Option (Unit × jw_H) :=
 Nat.rec (fun _ _ _ _ => none) (fun _ k2 => g_X1_putDue_b2 k2) n

noncomputable def f_X1_putDue (h : jw_H) (x0 : Nat) (x1 : Option Nat) : Option (Unit × jw_H) :=
 f_X1_putDue_b2  jw_FU h x0 x1 (1 : Int32)

set_option maxRecDepth 100000 in
set_option maxHeartbeats 4000000 in
theorem l_X1_putDue_b2g {hi : jw_H} {k2 : jw_H → Nat → Option Nat → Int32 → Option (Unit × jw_H)} (hk2 : ∀ (h : jw_H) (x0 : Nat) (x1 : Option Nat) (x2 : Int32) (r : Unit) (h' : jw_H), k2 h x0 x1 x2 = some (r, h') → jw_E 3 uX1_putDue hi 2 [some (.ref x0), some (va_rf x1), some (.int x2)] [] h (.inl none) h') {h : jw_H} {x0 : Nat} {x1 : Option Nat} {x2 : Int32} {r : Unit} {h' : jw_H} (hq : g_X1_putDue_b2 k2 h x0 x1 x2 = some (r, h')) : jw_E 3 uX1_putDue hi 2 [some (.ref x0), some (va_rf x1), some (.int x2)] [] h (.inl none) h' := by
  unfold g_X1_putDue_b2 at hq
  refine jw_aload_n dX1_putDue_2 (o := x1) rfl ?_
  rcases jw_if hq with ⟨c1, hq⟩ | ⟨c1, hq⟩
  · refine jw_ifnull_t (o := x1) (tgt := 30) dX1_putDue_3 (by decide) c1 ?_
    cases hq
    exact jw_vret dX1_putDue_30 rfl
  · refine jw_ifnull_f (o := x1) dX1_putDue_3 c1 ?_
    refine jw_iload_n dX1_putDue_6 rfl ?_
    refine jw_aload_n dX1_putDue_7 (o := x1) rfl ?_
    obtain ⟨v2, ev2, hq⟩ := Option.bind_eq_some_iff.mp hq
    refine jw_getI (o := x1) dX1_putDue_8 ev2 fl_X1_99 rfl ?_
    rcases jw_if hq with ⟨c3, hq⟩ | ⟨c3, hq⟩
    · refine jw_icmp_gt_t (tgt := 30) dX1_putDue_11 (by decide) c3 ?_
      cases hq
      exact jw_vret dX1_putDue_30 rfl
    · refine jw_icmp_gt_f (tgt := 30) dX1_putDue_11 (by decide) c3 ?_
      refine jw_aload_n dX1_putDue_14 (o := (some x0)) rfl ?_
      obtain ⟨v4, ev4, hq⟩ := Option.bind_eq_some_iff.mp hq
      refine jw_getR (o := (some x0)) dX1_putDue_15 ev4 fl_X1_49 rfl ?_
      refine jw_aload_n dX1_putDue_18 (o := x1) rfl ?_
      refine jw_iload_n dX1_putDue_19 rfl ?_
      obtain ⟨a5, ea5, hq⟩ := Option.bind_eq_some_iff.mp hq
      obtain ⟨eoa5, eta5⟩ := jw_rc_spec ea5
      obtain ⟨w7, h6, ew7, hq⟩ := jw_b2_spec hq
      refine jw_callV (As := [va_rf x1, .int x2]) (S := []) (a := a5) (v := some (.int w7)) dX1_putDue_20 mt_X7_addRow in_X7_addRow se_X7_addRow lk_X1_144 (c_X7_addRow ew7) eta5 (by decide) rfl rfl (by decide) (Nat.le_of_ble_eq_true rfl) (by cases eoa5; rfl) ?_
      refine jw_pop dX1_putDue_23 rfl ?_
      refine jw_iinc (L' := [some (.ref x0), some (va_rf x1), some (.int (x2 + (1 : Int32)))]) dX1_putDue_24 rfl (v := (1 : Int32)) (by decide) (Nat.le_of_ble_eq_true rfl) ((jw_st1_of (j := 1) jw_long_rf).trans rfl) ?_
      refine jw_goto (tgt := 2) dX1_putDue_27 (by decide) ?_
      exact hk2 _ _ _ _ _ _ hq

theorem l_X1_putDue_b2 {hi : jw_H} : ∀ (n : Nat) (h : jw_H) (x0 : Nat) (x1 : Option Nat) (x2 : Int32) (r : Unit) (h' : jw_H), f_X1_putDue_b2  n h x0 x1 x2 = some (r, h') → jw_E 3 uX1_putDue hi 2 [some (.ref x0), some (va_rf x1), some (.int x2)] [] h (.inl none) h' := by
  intro n
  induction n with
  | zero => intro h x0 x1 x2 r h' hq; exact nomatch hq
  | succ n ih => intro h x0 x1 x2 r h' hq; exact l_X1_putDue_b2g ih hq

set_option maxRecDepth 100000 in
set_option maxHeartbeats 4000000 in
theorem l_X1_putDue {hi : jw_H} {h : jw_H} {x0 : Nat} {x1 : Option Nat} {r : Unit} {h' : jw_H} (hq : f_X1_putDue  h x0 x1 = some (r, h')) : jw_E 3 uX1_putDue hi 0 [some (.ref x0), some (va_rf x1), none] [] h (.inl none) h' := by
  unfold f_X1_putDue at hq
  refine jw_iconst dX1_putDue_0 (v := (1 : Int32)) (by decide) ?_
  refine jw_istore_n (L' := [some (.ref x0), some (va_rf x1), some (.int (1 : Int32))]) dX1_putDue_1 (Nat.le_of_ble_eq_true rfl) ((jw_st1_of (j := 1) jw_long_rf).trans rfl) ?_
  exact l_X1_putDue_b2  jw_FU _ _ _ _ _ _ hq

theorem c_X1_putDue {h : jw_H} {x0 : Nat} {x1 : Option Nat} {r : Unit} {h' : jw_H} (hq : f_X1_putDue h x0 x1 = some (r, h')) : jw_Con (Cond.code yX1_putDue cX1_putDue 3 none) yX1_putDue 3 [.ref x0, va_rf x1] h (.inl none) h' :=
  jw_con false (plainFor_of_name (by decide +kernel)) (fun z => nomatch z) (by simp [jw_ent, jw_sl0_nil, jw_sl0_int, jw_sl0_long, jw_sl0_ref, jw_sl0_rf, jw_sl0_scr, List.replicate]) (by simp [jw_sl0_nil, jw_sl0_int, jw_sl0_long, jw_sl0_ref, jw_sl0_rf, jw_sl0_scr]) (l_X1_putDue hq)


/-! X9_append -/
noncomputable def f_X9_append (h : jw_H) (x0 : Nat) (x1 : Option Nat) (x2 : Int32) (x3 : Int32) : Option (Int32 × jw_H) :=
 (jw_gR h 9 (some x0) 0).bind fun v1 =>
 (jw_gI h 7 v1 2).bind fun v2 =>
 (jw_gR h 9 (some x0) 1).bind fun v3 =>
 (jw_ln h v3).bind fun v4 =>
 if v4 ≤ v2 then (some ((0 : Int32), h))
 else ((jw_gR h 9 (some x0) 0).bind fun v6 =>
 (jw_rc h 7 v6).bind fun a7 =>
 jw_b2 (f_X7_addRow h a7 x1 x2) fun w9 h8 =>
 if w9 = 0 then (some ((0 : Int32), h8))
 else ((jw_gR h8 9 (some x0) 0).bind fun v11 =>
 (jw_gI h8 7 v11 2).bind fun v12 =>
 if v12 < (1 : Int32) then (some ((1 : Int32), h8))
 else ((jw_gR h8 9 (some x0) 0).bind fun v14 =>
 (jw_gI h8 7 v14 2).bind fun v15 =>
 (jw_gR h8 9 (some x0) 1).bind fun v16 =>
 (jw_ln h8 v16).bind fun v17 =>
 if v17 < v15 then (some ((1 : Int32), h8))
 else ((jw_gR h8 9 (some x0) 1).bind fun v19 =>
 (jw_gR h8 9 (some x0) 0).bind fun v20 =>
 (jw_gI h8 7 v20 2).bind fun v21 =>
 (jw_si h8 20 v19 (v21 - (1 : Int32)) x3).bind fun h22 =>
 some ((1 : Int32), h22)))))

set_option maxRecDepth 100000 in
set_option maxHeartbeats 4000000 in
theorem l_X9_append {hi : jw_H} {h : jw_H} {x0 : Nat} {x1 : Option Nat} {x2 : Int32} {x3 : Int32} {r : Int32} {h' : jw_H} (hq : f_X9_append  h x0 x1 x2 x3 = some (r, h')) : jw_E 3 uX9_append hi 0 [some (.ref x0), some (va_rf x1), some (.int x2), some (.int x3)] [] h (.inl (some (.int r))) h' := by
  unfold f_X9_append at hq
  refine jw_aload_n dX9_append_0 (o := (some x0)) rfl ?_
  obtain ⟨v1, ev1, hq⟩ := Option.bind_eq_some_iff.mp hq
  refine jw_getR (o := (some x0)) dX9_append_1 ev1 fl_X9_14 rfl ?_
  obtain ⟨v2, ev2, hq⟩ := Option.bind_eq_some_iff.mp hq
  refine jw_getI (o := v1) dX9_append_4 ev2 fl_X9_41 rfl ?_
  refine jw_aload_n dX9_append_7 (o := (some x0)) rfl ?_
  obtain ⟨v3, ev3, hq⟩ := Option.bind_eq_some_iff.mp hq
  refine jw_getR (o := (some x0)) dX9_append_8 ev3 fl_X9_20 rfl ?_
  obtain ⟨v4, ev4, hq⟩ := Option.bind_eq_some_iff.mp hq
  refine jw_alen (o := v3) dX9_append_11 ev4 ?_
  rcases jw_if hq with ⟨c5, hq⟩ | ⟨c5, hq⟩
  · refine jw_icmp_ge_t (tgt := 27) dX9_append_12 (by decide) c5 ?_
    refine jw_iconst dX9_append_27 (v := (0 : Int32)) (by decide) ?_
    cases hq
    exact jw_iret (ty := .boolean) dX9_append_28 rfl rfl
  · refine jw_icmp_ge_f (tgt := 27) dX9_append_12 (by decide) c5 ?_
    refine jw_aload_n dX9_append_15 (o := (some x0)) rfl ?_
    obtain ⟨v6, ev6, hq⟩ := Option.bind_eq_some_iff.mp hq
    refine jw_getR (o := (some x0)) dX9_append_16 ev6 fl_X9_14 rfl ?_
    refine jw_aload_n dX9_append_19 (o := x1) rfl ?_
    refine jw_iload_n dX9_append_20 rfl ?_
    obtain ⟨a7, ea7, hq⟩ := Option.bind_eq_some_iff.mp hq
    obtain ⟨eoa7, eta7⟩ := jw_rc_spec ea7
    obtain ⟨w9, h8, ew9, hq⟩ := jw_b2_spec hq
    refine jw_callV (As := [va_rf x1, .int x2]) (S := []) (a := a7) (v := some (.int w9)) dX9_append_21 mt_X7_addRow in_X7_addRow se_X7_addRow lk_X9_65 (c_X7_addRow ew9) eta7 (by decide) rfl rfl (by decide) (Nat.le_of_ble_eq_true rfl) (by cases eoa7; rfl) ?_
    rcases jw_if hq with ⟨c10, hq⟩ | ⟨c10, hq⟩
    · refine jw_if_ne_f (tgt := 29) dX9_append_24 (by decide) c10 ?_
      refine jw_iconst dX9_append_27 (v := (0 : Int32)) (by decide) ?_
      cases hq
      exact jw_iret (ty := .boolean) dX9_append_28 rfl rfl
    · refine jw_if_ne_t (tgt := 29) dX9_append_24 (by decide) c10 ?_
      refine jw_aload_n dX9_append_29 (o := (some x0)) rfl ?_
      obtain ⟨v11, ev11, hq⟩ := Option.bind_eq_some_iff.mp hq
      refine jw_getR (o := (some x0)) dX9_append_30 ev11 fl_X9_14 rfl ?_
      obtain ⟨v12, ev12, hq⟩ := Option.bind_eq_some_iff.mp hq
      refine jw_getI (o := v11) dX9_append_33 ev12 fl_X9_41 rfl ?_
      refine jw_iconst dX9_append_36 (v := (1 : Int32)) (by decide) ?_
      rcases jw_if hq with ⟨c13, hq⟩ | ⟨c13, hq⟩
      · refine jw_icmp_lt_t (tgt := 70) dX9_append_37 (by decide) c13 ?_
        refine jw_iconst dX9_append_70 (v := (1 : Int32)) (by decide) ?_
        cases hq
        exact jw_iret (ty := .boolean) dX9_append_71 rfl rfl
      · refine jw_icmp_lt_f (tgt := 70) dX9_append_37 (by decide) c13 ?_
        refine jw_aload_n dX9_append_40 (o := (some x0)) rfl ?_
        obtain ⟨v14, ev14, hq⟩ := Option.bind_eq_some_iff.mp hq
        refine jw_getR (o := (some x0)) dX9_append_41 ev14 fl_X9_14 rfl ?_
        obtain ⟨v15, ev15, hq⟩ := Option.bind_eq_some_iff.mp hq
        refine jw_getI (o := v14) dX9_append_44 ev15 fl_X9_41 rfl ?_
        refine jw_aload_n dX9_append_47 (o := (some x0)) rfl ?_
        obtain ⟨v16, ev16, hq⟩ := Option.bind_eq_some_iff.mp hq
        refine jw_getR (o := (some x0)) dX9_append_48 ev16 fl_X9_20 rfl ?_
        obtain ⟨v17, ev17, hq⟩ := Option.bind_eq_some_iff.mp hq
        refine jw_alen (o := v16) dX9_append_51 ev17 ?_
        rcases jw_if hq with ⟨c18, hq⟩ | ⟨c18, hq⟩
        · refine jw_icmp_gt_t (tgt := 70) dX9_append_52 (by decide) c18 ?_
          refine jw_iconst dX9_append_70 (v := (1 : Int32)) (by decide) ?_
          cases hq
          exact jw_iret (ty := .boolean) dX9_append_71 rfl rfl
        · refine jw_icmp_gt_f (tgt := 70) dX9_append_52 (by decide) c18 ?_
          refine jw_aload_n dX9_append_55 (o := (some x0)) rfl ?_
          obtain ⟨v19, ev19, hq⟩ := Option.bind_eq_some_iff.mp hq
          refine jw_getR (o := (some x0)) dX9_append_56 ev19 fl_X9_20 rfl ?_
          refine jw_aload_n dX9_append_59 (o := (some x0)) rfl ?_
          obtain ⟨v20, ev20, hq⟩ := Option.bind_eq_some_iff.mp hq
          refine jw_getR (o := (some x0)) dX9_append_60 ev20 fl_X9_14 rfl ?_
          obtain ⟨v21, ev21, hq⟩ := Option.bind_eq_some_iff.mp hq
          refine jw_getI (o := v20) dX9_append_63 ev21 fl_X9_41 rfl ?_
          refine jw_iconst dX9_append_66 (v := (1 : Int32)) (by decide) ?_
          refine jw_isub dX9_append_67 ?_
          refine jw_iload_n dX9_append_68 rfl ?_
          obtain ⟨h22, eh22, hq⟩ := Option.bind_eq_some_iff.mp hq
          refine jw_iast (o := v19) dX9_append_69 eh22 ?_
          refine jw_iconst dX9_append_70 (v := (1 : Int32)) (by decide) ?_
          cases hq
          exact jw_iret (ty := .boolean) dX9_append_71 rfl rfl

theorem c_X9_append {h : jw_H} {x0 : Nat} {x1 : Option Nat} {x2 : Int32} {x3 : Int32} {r : Int32} {h' : jw_H} (hq : f_X9_append h x0 x1 x2 x3 = some (r, h')) : jw_Con (Cond.code yX9_append cX9_append 4 (some .boolean)) yX9_append 3 [.ref x0, va_rf x1, .int x2, .int x3] h (.inl (some (.int r))) h' :=
  jw_con false (plainFor_of_name (by decide +kernel)) (fun z => nomatch z) (by simp [jw_ent, jw_sl0_nil, jw_sl0_int, jw_sl0_long, jw_sl0_ref, jw_sl0_rf, jw_sl0_scr, List.replicate]) (by simp [jw_sl0_nil, jw_sl0_int, jw_sl0_long, jw_sl0_ref, jw_sl0_rf, jw_sl0_scr]) (l_X9_append hq)


/-! X1_putNew -/
noncomputable def g_X1_putNew_b2 (k2 : jw_H → Nat → Option Nat → Int32 → Option (Unit × jw_H)) (h : jw_H) (x0 : Nat) (x1 : Option Nat) (x2 : Int32) : Option (Unit × jw_H) :=
 (jw_gI h 7 x1 2).bind fun v1 =>
 if v1 < x2 then (some ((), h))
 else ((jw_gR h 1 (some x0) 6).bind fun v3 =>
 (jw_gR h 1 (some x0) 6).bind fun v4 =>
 (jw_gI h 9 v4 4).bind fun v5 =>
 (jw_rc h 9 v3).bind fun a6 =>
 jw_b2 (f_X9_append h a6 x1 x2 v5) fun w8 h7 =>
 if w8 = 0 then ((jw_pI h7 1 (some x0) 15 (4 : Int32)).bind fun h13 =>
 some ((), h13))
 else ((jw_gR h7 1 (some x0) 6).bind fun v10 =>
 (jw_gI h7 9 v10 4).bind fun v11 =>
 (jw_pI h7 9 v10 4 (v11 + (1 : Int32))).bind fun h12 =>
 k2 h12 x0 x1 (x2 + (1 : Int32))))

noncomputable def f_X1_putNew_b2 (n : Nat) : jw_H → Nat → Option Nat → Int32 → Option (Unit × jw_H) :=
 Nat.rec (fun _ _ _ _ => none) (fun _ k2 => g_X1_putNew_b2 k2) n

noncomputable def f_X1_putNew (h : jw_H) (x0 : Nat) (x1 : Option Nat) : Option (Unit × jw_H) :=
 f_X1_putNew_b2  jw_FU h x0 x1 (1 : Int32)

set_option maxRecDepth 100000 in
set_option maxHeartbeats 4000000 in
theorem l_X1_putNew_b2g {hi : jw_H} {k2 : jw_H → Nat → Option Nat → Int32 → Option (Unit × jw_H)} (hk2 : ∀ (h : jw_H) (x0 : Nat) (x1 : Option Nat) (x2 : Int32) (r : Unit) (h' : jw_H), k2 h x0 x1 x2 = some (r, h') → jw_E 4 uX1_putNew hi 2 [some (.ref x0), some (va_rf x1), some (.int x2)] [] h (.inl none) h') {h : jw_H} {x0 : Nat} {x1 : Option Nat} {x2 : Int32} {r : Unit} {h' : jw_H} (hq : g_X1_putNew_b2 k2 h x0 x1 x2 = some (r, h')) : jw_E 4 uX1_putNew hi 2 [some (.ref x0), some (va_rf x1), some (.int x2)] [] h (.inl none) h' := by
  unfold g_X1_putNew_b2 at hq
  refine jw_iload_n dX1_putNew_2 rfl ?_
  refine jw_aload_n dX1_putNew_3 (o := x1) rfl ?_
  obtain ⟨v1, ev1, hq⟩ := Option.bind_eq_some_iff.mp hq
  refine jw_getI (o := x1) dX1_putNew_4 ev1 fl_X1_99 rfl ?_
  rcases jw_if hq with ⟨c2, hq⟩ | ⟨c2, hq⟩
  · refine jw_icmp_gt_t (tgt := 54) dX1_putNew_7 (by decide) c2 ?_
    cases hq
    exact jw_vret dX1_putNew_54 rfl
  · refine jw_icmp_gt_f (tgt := 54) dX1_putNew_7 (by decide) c2 ?_
    refine jw_aload_n dX1_putNew_10 (o := (some x0)) rfl ?_
    obtain ⟨v3, ev3, hq⟩ := Option.bind_eq_some_iff.mp hq
    refine jw_getR (o := (some x0)) dX1_putNew_11 ev3 fl_X1_37 rfl ?_
    refine jw_aload_n dX1_putNew_14 (o := x1) rfl ?_
    refine jw_iload_n dX1_putNew_15 rfl ?_
    refine jw_aload_n dX1_putNew_16 (o := (some x0)) rfl ?_
    obtain ⟨v4, ev4, hq⟩ := Option.bind_eq_some_iff.mp hq
    refine jw_getR (o := (some x0)) dX1_putNew_17 ev4 fl_X1_37 rfl ?_
    obtain ⟨v5, ev5, hq⟩ := Option.bind_eq_some_iff.mp hq
    refine jw_getI (o := v4) dX1_putNew_20 ev5 fl_X1_106 rfl ?_
    obtain ⟨a6, ea6, hq⟩ := Option.bind_eq_some_iff.mp hq
    obtain ⟨eoa6, eta6⟩ := jw_rc_spec ea6
    obtain ⟨w8, h7, ew8, hq⟩ := jw_b2_spec hq
    refine jw_callV (As := [va_rf x1, .int x2, .int v5]) (S := []) (a := a6) (v := some (.int w8)) dX1_putNew_23 mt_X9_append in_X9_append se_X9_append lk_X1_156 (c_X9_append ew8) eta6 (by decide) rfl rfl (by decide) (Nat.le_of_ble_eq_true rfl) (by cases eoa6; rfl) ?_
    rcases jw_if hq with ⟨c9, hq⟩ | ⟨c9, hq⟩
    · refine jw_if_ne_f (tgt := 35) dX1_putNew_26 (by decide) c9 ?_
      refine jw_aload_n dX1_putNew_29 (o := (some x0)) rfl ?_
      refine jw_iconst dX1_putNew_30 (v := (4 : Int32)) (by decide) ?_
      obtain ⟨h13, eh13, hq⟩ := Option.bind_eq_some_iff.mp hq
      refine jw_putI (o := (some x0)) dX1_putNew_31 eh13 fl_X1_65 rfl rfl ?_
      cases hq
      exact jw_vret dX1_putNew_34 rfl
    · refine jw_if_ne_t (tgt := 35) dX1_putNew_26 (by decide) c9 ?_
      refine jw_aload_n dX1_putNew_35 (o := (some x0)) rfl ?_
      obtain ⟨v10, ev10, hq⟩ := Option.bind_eq_some_iff.mp hq
      refine jw_getR (o := (some x0)) dX1_putNew_36 ev10 fl_X1_37 rfl ?_
      refine jw_dup dX1_putNew_39 jw_cat_rf ?_
      obtain ⟨v11, ev11, hq⟩ := Option.bind_eq_some_iff.mp hq
      refine jw_getI (o := v10) dX1_putNew_40 ev11 fl_X1_106 rfl ?_
      refine jw_iconst dX1_putNew_43 (v := (1 : Int32)) (by decide) ?_
      refine jw_iadd dX1_putNew_44 ?_
      obtain ⟨h12, eh12, hq⟩ := Option.bind_eq_some_iff.mp hq
      refine jw_putI (o := v10) dX1_putNew_45 eh12 fl_X1_106 rfl rfl ?_
      refine jw_iinc (L' := [some (.ref x0), some (va_rf x1), some (.int (x2 + (1 : Int32)))]) dX1_putNew_48 rfl (v := (1 : Int32)) (by decide) (Nat.le_of_ble_eq_true rfl) ((jw_st1_of (j := 1) jw_long_rf).trans rfl) ?_
      refine jw_goto (tgt := 2) dX1_putNew_51 (by decide) ?_
      exact hk2 _ _ _ _ _ _ hq

theorem l_X1_putNew_b2 {hi : jw_H} : ∀ (n : Nat) (h : jw_H) (x0 : Nat) (x1 : Option Nat) (x2 : Int32) (r : Unit) (h' : jw_H), f_X1_putNew_b2  n h x0 x1 x2 = some (r, h') → jw_E 4 uX1_putNew hi 2 [some (.ref x0), some (va_rf x1), some (.int x2)] [] h (.inl none) h' := by
  intro n
  induction n with
  | zero => intro h x0 x1 x2 r h' hq; exact nomatch hq
  | succ n ih => intro h x0 x1 x2 r h' hq; exact l_X1_putNew_b2g ih hq

set_option maxRecDepth 100000 in
set_option maxHeartbeats 4000000 in
theorem l_X1_putNew {hi : jw_H} {h : jw_H} {x0 : Nat} {x1 : Option Nat} {r : Unit} {h' : jw_H} (hq : f_X1_putNew  h x0 x1 = some (r, h')) : jw_E 4 uX1_putNew hi 0 [some (.ref x0), some (va_rf x1), none] [] h (.inl none) h' := by
  unfold f_X1_putNew at hq
  refine jw_iconst dX1_putNew_0 (v := (1 : Int32)) (by decide) ?_
  refine jw_istore_n (L' := [some (.ref x0), some (va_rf x1), some (.int (1 : Int32))]) dX1_putNew_1 (Nat.le_of_ble_eq_true rfl) ((jw_st1_of (j := 1) jw_long_rf).trans rfl) ?_
  exact l_X1_putNew_b2  jw_FU _ _ _ _ _ _ hq

theorem c_X1_putNew {h : jw_H} {x0 : Nat} {x1 : Option Nat} {r : Unit} {h' : jw_H} (hq : f_X1_putNew h x0 x1 = some (r, h')) : jw_Con (Cond.code yX1_putNew cX1_putNew 3 none) yX1_putNew 4 [.ref x0, va_rf x1] h (.inl none) h' :=
  jw_con false (plainFor_of_name (by decide +kernel)) (fun z => nomatch z) (by simp [jw_ent, jw_sl0_nil, jw_sl0_int, jw_sl0_long, jw_sl0_ref, jw_sl0_rf, jw_sl0_scr, List.replicate]) (by simp [jw_sl0_nil, jw_sl0_int, jw_sl0_long, jw_sl0_ref, jw_sl0_rf, jw_sl0_scr]) (l_X1_putNew hq)


/-! X1_goAway -/
noncomputable def f_X1_goAway (h : jw_H) (x0 : Nat) : Option (Unit × jw_H) :=
 (jw_pB h 1 (some x0) 16 (1 : Int32)).bind fun h1 =>
 (jw_gR h1 1 (some x0) 6).bind fun v2 =>
 (jw_gI h1 1 (some x0) 10).bind fun v3 =>
 (jw_rc h1 9 v2).bind fun a4 =>
 jw_b2 (f_X9_dropMarks h1 a4 v3) fun w6 h5 =>
 some ((), h5)

set_option maxRecDepth 100000 in
set_option maxHeartbeats 4000000 in
theorem l_X1_goAway {hi : jw_H} {h : jw_H} {x0 : Nat} {r : Unit} {h' : jw_H} (hq : f_X1_goAway  h x0 = some (r, h')) : jw_E 1 uX1_goAway hi 0 [some (.ref x0)] [] h (.inl none) h' := by
  unfold f_X1_goAway at hq
  refine jw_aload_n dX1_goAway_0 (o := (some x0)) rfl ?_
  refine jw_iconst dX1_goAway_1 (v := (1 : Int32)) (by decide) ?_
  obtain ⟨h1, eh1, hq⟩ := Option.bind_eq_some_iff.mp hq
  refine jw_putB (o := (some x0)) dX1_goAway_2 eh1 fl_X1_148 rfl rfl ?_
  refine jw_aload_n dX1_goAway_5 (o := (some x0)) rfl ?_
  obtain ⟨v2, ev2, hq⟩ := Option.bind_eq_some_iff.mp hq
  refine jw_getR (o := (some x0)) dX1_goAway_6 ev2 fl_X1_37 rfl ?_
  refine jw_aload_n dX1_goAway_9 (o := (some x0)) rfl ?_
  obtain ⟨v3, ev3, hq⟩ := Option.bind_eq_some_iff.mp hq
  refine jw_getI (o := (some x0)) dX1_goAway_10 ev3 fl_X1_141 rfl ?_
  obtain ⟨a4, ea4, hq⟩ := Option.bind_eq_some_iff.mp hq
  obtain ⟨eoa4, eta4⟩ := jw_rc_spec ea4
  obtain ⟨w6, h5, ew6, hq⟩ := jw_b2_spec hq
  refine jw_callV (As := [.int v3]) (S := []) (a := a4) (v := none) dX1_goAway_13 mt_X9_dropMarks in_X9_dropMarks se_X9_dropMarks lk_X1_275 (c_X9_dropMarks ew6) eta4 (by decide) rfl rfl (by decide) (Nat.le_of_ble_eq_true rfl) (by cases eoa4; rfl) ?_
  cases hq
  exact jw_vret dX1_goAway_16 rfl

theorem c_X1_goAway {h : jw_H} {x0 : Nat} {r : Unit} {h' : jw_H} (hq : f_X1_goAway h x0 = some (r, h')) : jw_Con (Cond.code yX1_goAway cX1_goAway 1 none) yX1_goAway 1 [.ref x0] h (.inl none) h' :=
  jw_con false (plainFor_of_name (by decide +kernel)) (fun z => nomatch z) (by simp [jw_ent, jw_sl0_nil, jw_sl0_int, jw_sl0_long, jw_sl0_ref, jw_sl0_rf, jw_sl0_scr, List.replicate]) (by simp [jw_sl0_nil, jw_sl0_int, jw_sl0_long, jw_sl0_ref, jw_sl0_rf, jw_sl0_scr]) (l_X1_goAway hq)


/-! X7_cutTo -/
noncomputable def f_X7_cutTo (h : jw_H) (x0 : Nat) (x1 : Int32) (x2 : Int32) : Option (Unit × jw_H) :=
 (jw_rc h 7 (some x0)).bind fun a1 =>
 jw_b2 (f_X7_has h a1 x1) fun w3 h2 =>
 if w3 = 0 then (some ((), h2))
 else (if x2 < 0 then (some ((), h2))
 else ((jw_gR h2 7 (some x0) 0).bind fun v6 =>
 (jw_ai h2 20 v6 (x1 - (1 : Int32))).bind fun v7 =>
 if v7 ≤ x2 then (some ((), h2))
 else ((jw_gR h2 7 (some x0) 0).bind fun v9 =>
 (jw_si h2 20 v9 (x1 - (1 : Int32)) x2).bind fun h10 =>
 some ((), h10))))

set_option maxRecDepth 100000 in
set_option maxHeartbeats 4000000 in
theorem l_X7_cutTo {hi : jw_H} {h : jw_H} {x0 : Nat} {x1 : Int32} {x2 : Int32} {r : Unit} {h' : jw_H} (hq : f_X7_cutTo  h x0 x1 x2 = some (r, h')) : jw_E 1 uX7_cutTo hi 0 [some (.ref x0), some (.int x1), some (.int x2)] [] h (.inl none) h' := by
  unfold f_X7_cutTo at hq
  refine jw_aload_n dX7_cutTo_0 (o := (some x0)) rfl ?_
  refine jw_iload_n dX7_cutTo_1 rfl ?_
  obtain ⟨a1, ea1, hq⟩ := Option.bind_eq_some_iff.mp hq
  obtain ⟨eoa1, eta1⟩ := jw_rc_spec ea1
  obtain ⟨w3, h2, ew3, hq⟩ := jw_b2_spec hq
  refine jw_callV (As := [.int x1]) (S := []) (a := a1) (v := some (.int w3)) dX7_cutTo_2 mt_X7_has in_X7_has se_X7_has lk_X7_38 (c_X7_has ew3) eta1 (by decide) rfl rfl (by decide) (Nat.le_of_ble_eq_true rfl) (by cases eoa1; rfl) ?_
  rcases jw_if hq with ⟨c4, hq⟩ | ⟨c4, hq⟩
  · refine jw_if_eq_t (tgt := 33) dX7_cutTo_5 (by decide) c4 ?_
    cases hq
    exact jw_vret dX7_cutTo_33 rfl
  · refine jw_if_eq_f (tgt := 33) dX7_cutTo_5 (by decide) c4 ?_
    refine jw_iload_n dX7_cutTo_8 rfl ?_
    rcases jw_if hq with ⟨c5, hq⟩ | ⟨c5, hq⟩
    · refine jw_if_lt_t (tgt := 33) dX7_cutTo_9 (by decide) c5 ?_
      cases hq
      exact jw_vret dX7_cutTo_33 rfl
    · refine jw_if_lt_f (tgt := 33) dX7_cutTo_9 (by decide) c5 ?_
      refine jw_iload_n dX7_cutTo_12 rfl ?_
      refine jw_aload_n dX7_cutTo_13 (o := (some x0)) rfl ?_
      obtain ⟨v6, ev6, hq⟩ := Option.bind_eq_some_iff.mp hq
      refine jw_getR (o := (some x0)) dX7_cutTo_14 ev6 fl_X7_15 rfl ?_
      refine jw_iload_n dX7_cutTo_17 rfl ?_
      refine jw_iconst dX7_cutTo_18 (v := (1 : Int32)) (by decide) ?_
      refine jw_isub dX7_cutTo_19 ?_
      obtain ⟨v7, ev7, hq⟩ := Option.bind_eq_some_iff.mp hq
      refine jw_iald (o := v6) dX7_cutTo_20 ev7 ?_
      rcases jw_if hq with ⟨c8, hq⟩ | ⟨c8, hq⟩
      · refine jw_icmp_ge_t (tgt := 33) dX7_cutTo_21 (by decide) c8 ?_
        cases hq
        exact jw_vret dX7_cutTo_33 rfl
      · refine jw_icmp_ge_f (tgt := 33) dX7_cutTo_21 (by decide) c8 ?_
        refine jw_aload_n dX7_cutTo_24 (o := (some x0)) rfl ?_
        obtain ⟨v9, ev9, hq⟩ := Option.bind_eq_some_iff.mp hq
        refine jw_getR (o := (some x0)) dX7_cutTo_25 ev9 fl_X7_15 rfl ?_
        refine jw_iload_n dX7_cutTo_28 rfl ?_
        refine jw_iconst dX7_cutTo_29 (v := (1 : Int32)) (by decide) ?_
        refine jw_isub dX7_cutTo_30 ?_
        refine jw_iload_n dX7_cutTo_31 rfl ?_
        obtain ⟨h10, eh10, hq⟩ := Option.bind_eq_some_iff.mp hq
        refine jw_iast (o := v9) dX7_cutTo_32 eh10 ?_
        cases hq
        exact jw_vret dX7_cutTo_33 rfl

theorem c_X7_cutTo {h : jw_H} {x0 : Nat} {x1 : Int32} {x2 : Int32} {r : Unit} {h' : jw_H} (hq : f_X7_cutTo h x0 x1 x2 = some (r, h')) : jw_Con (Cond.code yX7_cutTo cX7_cutTo 3 none) yX7_cutTo 1 [.ref x0, .int x1, .int x2] h (.inl none) h' :=
  jw_con false (plainFor_of_name (by decide +kernel)) (fun z => nomatch z) (by simp [jw_ent, jw_sl0_nil, jw_sl0_int, jw_sl0_long, jw_sl0_ref, jw_sl0_rf, jw_sl0_scr, List.replicate]) (by simp [jw_sl0_nil, jw_sl0_int, jw_sl0_long, jw_sl0_ref, jw_sl0_rf, jw_sl0_scr]) (l_X7_cutTo hq)


/-! X1_part -/
noncomputable def f_X1_part (h : jw_H) (x0 : Nat) (x1 : Int32) : Option (Unit × jw_H) :=
 (jw_gR h 1 (some x0) 7).bind fun v1 =>
 (jw_rc h 7 v1).bind fun a2 =>
 jw_b2 (f_X7_lengthOf h a2 (1 : Int32)) fun w4 h3 =>
 if x1 < w4 then ((jw_gR h3 1 (some x0) 9).bind fun v6 =>
 (jw_rc h3 7 v6).bind fun a7 =>
 jw_b2 (f_X7_shrink h3 a7 (0 : Int32)) fun w9 h8 =>
 (jw_gR h8 1 (some x0) 9).bind fun v10 =>
 (jw_gR h8 1 (some x0) 7).bind fun v11 =>
 (jw_rc h8 7 v10).bind fun a12 =>
 jw_b2 (f_X7_addRow h8 a12 v11 (1 : Int32)) fun w14 h13 =>
 (jw_gR h13 1 (some x0) 9).bind fun v15 =>
 (jw_rc h13 7 v15).bind fun a16 =>
 jw_b2 (f_X7_open h13 a16 (2 : Int32) (1 : Int32)) fun w18 h17 =>
 (jw_gR h17 1 (some x0) 9).bind fun v19 =>
 (jw_rc h17 7 v19).bind fun a20 =>
 jw_b2 (f_X7_moveRest h17 a20 (1 : Int32) x1) fun w22 h21 =>
 (jw_gR h21 1 (some x0) 8).bind fun v23 =>
 (jw_gR h21 1 (some x0) 9).bind fun v24 =>
 (jw_rc h21 7 v23).bind fun a25 =>
 jw_b2 (f_X7_addRow h21 a25 v24 (2 : Int32)) fun w27 h26 =>
 (jw_gR h26 1 (some x0) 7).bind fun v28 =>
 (jw_rc h26 7 v28).bind fun a29 =>
 jw_b2 (f_X7_cutTo h26 a29 (1 : Int32) x1) fun w31 h30 =>
 some ((), h30))
 else (some ((), h3))

set_option maxRecDepth 100000 in
set_option maxHeartbeats 4000000 in
theorem l_X1_part {hi : jw_H} {h : jw_H} {x0 : Nat} {x1 : Int32} {r : Unit} {h' : jw_H} (hq : f_X1_part  h x0 x1 = some (r, h')) : jw_E 3 uX1_part hi 0 [some (.ref x0), some (.int x1)] [] h (.inl none) h' := by
  unfold f_X1_part at hq
  refine jw_aload_n dX1_part_0 (o := (some x0)) rfl ?_
  obtain ⟨v1, ev1, hq⟩ := Option.bind_eq_some_iff.mp hq
  refine jw_getR (o := (some x0)) dX1_part_1 ev1 fl_X1_45 rfl ?_
  refine jw_iconst dX1_part_4 (v := (1 : Int32)) (by decide) ?_
  obtain ⟨a2, ea2, hq⟩ := Option.bind_eq_some_iff.mp hq
  obtain ⟨eoa2, eta2⟩ := jw_rc_spec ea2
  obtain ⟨w4, h3, ew4, hq⟩ := jw_b2_spec hq
  refine jw_callV (As := [.int (1 : Int32)]) (S := []) (a := a2) (v := some (.int w4)) dX1_part_5 mt_X7_lengthOf in_X7_lengthOf se_X7_lengthOf lk_X1_278 (c_X7_lengthOf ew4) eta2 (by decide) rfl rfl (by decide) (Nat.le_of_ble_eq_true rfl) (by cases eoa2; rfl) ?_
  refine jw_iload_n dX1_part_8 rfl ?_
  rcases jw_if hq with ⟨c5, hq⟩ | ⟨c5, hq⟩
  · refine jw_icmp_gt_t (tgt := 13) dX1_part_9 (by decide) c5 ?_
    refine jw_aload_n dX1_part_13 (o := (some x0)) rfl ?_
    obtain ⟨v6, ev6, hq⟩ := Option.bind_eq_some_iff.mp hq
    refine jw_getR (o := (some x0)) dX1_part_14 ev6 fl_X1_52 rfl ?_
    refine jw_iconst dX1_part_17 (v := (0 : Int32)) (by decide) ?_
    obtain ⟨a7, ea7, hq⟩ := Option.bind_eq_some_iff.mp hq
    obtain ⟨eoa7, eta7⟩ := jw_rc_spec ea7
    obtain ⟨w9, h8, ew9, hq⟩ := jw_b2_spec hq
    refine jw_callV (As := [.int (0 : Int32)]) (S := []) (a := a7) (v := none) dX1_part_18 mt_X7_shrink in_X7_shrink se_X7_shrink lk_X1_112 (c_X7_shrink ew9) eta7 (by decide) rfl rfl (by decide) (Nat.le_of_ble_eq_true rfl) (by cases eoa7; rfl) ?_
    refine jw_aload_n dX1_part_21 (o := (some x0)) rfl ?_
    obtain ⟨v10, ev10, hq⟩ := Option.bind_eq_some_iff.mp hq
    refine jw_getR (o := (some x0)) dX1_part_22 ev10 fl_X1_52 rfl ?_
    refine jw_aload_n dX1_part_25 (o := (some x0)) rfl ?_
    obtain ⟨v11, ev11, hq⟩ := Option.bind_eq_some_iff.mp hq
    refine jw_getR (o := (some x0)) dX1_part_26 ev11 fl_X1_45 rfl ?_
    refine jw_iconst dX1_part_29 (v := (1 : Int32)) (by decide) ?_
    obtain ⟨a12, ea12, hq⟩ := Option.bind_eq_some_iff.mp hq
    obtain ⟨eoa12, eta12⟩ := jw_rc_spec ea12
    obtain ⟨w14, h13, ew14, hq⟩ := jw_b2_spec hq
    refine jw_callV (As := [va_rf v11, .int (1 : Int32)]) (S := []) (a := a12) (v := some (.int w14)) dX1_part_30 mt_X7_addRow in_X7_addRow se_X7_addRow lk_X1_144 (c_X7_addRow ew14) eta12 (by decide) rfl rfl (by decide) (Nat.le_of_ble_eq_true rfl) (by cases eoa12; rfl) ?_
    refine jw_pop dX1_part_33 rfl ?_
    refine jw_aload_n dX1_part_34 (o := (some x0)) rfl ?_
    obtain ⟨v15, ev15, hq⟩ := Option.bind_eq_some_iff.mp hq
    refine jw_getR (o := (some x0)) dX1_part_35 ev15 fl_X1_52 rfl ?_
    refine jw_iconst dX1_part_38 (v := (2 : Int32)) (by decide) ?_
    refine jw_iconst dX1_part_39 (v := (1 : Int32)) (by decide) ?_
    obtain ⟨a16, ea16, hq⟩ := Option.bind_eq_some_iff.mp hq
    obtain ⟨eoa16, eta16⟩ := jw_rc_spec ea16
    obtain ⟨w18, h17, ew18, hq⟩ := jw_b2_spec hq
    refine jw_callV (As := [.int (2 : Int32), .int (1 : Int32)]) (S := []) (a := a16) (v := some (.int w18)) dX1_part_40 mt_X7_open in_X7_open se_X7_open lk_X1_281 (c_X7_open ew18) eta16 (by decide) rfl rfl (by decide) (Nat.le_of_ble_eq_true rfl) (by cases eoa16; rfl) ?_
    refine jw_pop dX1_part_43 rfl ?_
    refine jw_aload_n dX1_part_44 (o := (some x0)) rfl ?_
    obtain ⟨v19, ev19, hq⟩ := Option.bind_eq_some_iff.mp hq
    refine jw_getR (o := (some x0)) dX1_part_45 ev19 fl_X1_52 rfl ?_
    refine jw_iconst dX1_part_48 (v := (1 : Int32)) (by decide) ?_
    refine jw_iload_n dX1_part_49 rfl ?_
    obtain ⟨a20, ea20, hq⟩ := Option.bind_eq_some_iff.mp hq
    obtain ⟨eoa20, eta20⟩ := jw_rc_spec ea20
    obtain ⟨w22, h21, ew22, hq⟩ := jw_b2_spec hq
    refine jw_callV (As := [.int (1 : Int32), .int x1]) (S := []) (a := a20) (v := none) dX1_part_50 mt_X7_moveRest in_X7_moveRest se_X7_moveRest lk_X1_285 (c_X7_moveRest ew22) eta20 (by decide) rfl rfl (by decide) (Nat.le_of_ble_eq_true rfl) (by cases eoa20; rfl) ?_
    refine jw_aload_n dX1_part_53 (o := (some x0)) rfl ?_
    obtain ⟨v23, ev23, hq⟩ := Option.bind_eq_some_iff.mp hq
    refine jw_getR (o := (some x0)) dX1_part_54 ev23 fl_X1_49 rfl ?_
    refine jw_aload_n dX1_part_57 (o := (some x0)) rfl ?_
    obtain ⟨v24, ev24, hq⟩ := Option.bind_eq_some_iff.mp hq
    refine jw_getR (o := (some x0)) dX1_part_58 ev24 fl_X1_52 rfl ?_
    refine jw_iconst dX1_part_61 (v := (2 : Int32)) (by decide) ?_
    obtain ⟨a25, ea25, hq⟩ := Option.bind_eq_some_iff.mp hq
    obtain ⟨eoa25, eta25⟩ := jw_rc_spec ea25
    obtain ⟨w27, h26, ew27, hq⟩ := jw_b2_spec hq
    refine jw_callV (As := [va_rf v24, .int (2 : Int32)]) (S := []) (a := a25) (v := some (.int w27)) dX1_part_62 mt_X7_addRow in_X7_addRow se_X7_addRow lk_X1_144 (c_X7_addRow ew27) eta25 (by decide) rfl rfl (by decide) (Nat.le_of_ble_eq_true rfl) (by cases eoa25; rfl) ?_
    refine jw_pop dX1_part_65 rfl ?_
    refine jw_aload_n dX1_part_66 (o := (some x0)) rfl ?_
    obtain ⟨v28, ev28, hq⟩ := Option.bind_eq_some_iff.mp hq
    refine jw_getR (o := (some x0)) dX1_part_67 ev28 fl_X1_45 rfl ?_
    refine jw_iconst dX1_part_70 (v := (1 : Int32)) (by decide) ?_
    refine jw_iload_n dX1_part_71 rfl ?_
    obtain ⟨a29, ea29, hq⟩ := Option.bind_eq_some_iff.mp hq
    obtain ⟨eoa29, eta29⟩ := jw_rc_spec ea29
    obtain ⟨w31, h30, ew31, hq⟩ := jw_b2_spec hq
    refine jw_callV (As := [.int (1 : Int32), .int x1]) (S := []) (a := a29) (v := none) dX1_part_72 mt_X7_cutTo in_X7_cutTo se_X7_cutTo lk_X1_289 (c_X7_cutTo ew31) eta29 (by decide) rfl rfl (by decide) (Nat.le_of_ble_eq_true rfl) (by cases eoa29; rfl) ?_
    cases hq
    exact jw_vret dX1_part_75 rfl
  · refine jw_icmp_gt_f (tgt := 13) dX1_part_9 (by decide) c5 ?_
    cases hq
    exact jw_vret dX1_part_12 rfl

theorem c_X1_part {h : jw_H} {x0 : Nat} {x1 : Int32} {r : Unit} {h' : jw_H} (hq : f_X1_part h x0 x1 = some (r, h')) : jw_Con (Cond.code yX1_part cX1_part 2 none) yX1_part 3 [.ref x0, .int x1] h (.inl none) h' :=
  jw_con false (plainFor_of_name (by decide +kernel)) (fun z => nomatch z) (by simp [jw_ent, jw_sl0_nil, jw_sl0_int, jw_sl0_long, jw_sl0_ref, jw_sl0_rf, jw_sl0_scr, List.replicate]) (by simp [jw_sl0_nil, jw_sl0_int, jw_sl0_long, jw_sl0_ref, jw_sl0_rf, jw_sl0_scr]) (l_X1_part hq)


/-! X1_join -/
noncomputable def f_X1_join (h : jw_H) (x0 : Nat) : Option (Unit × jw_H) :=
 (jw_gI h 1 (some x0) 12).bind fun v1 =>
 (jw_gR h 1 (some x0) 1).bind fun v2 =>
 (jw_gR h 9 v2 0).bind fun v3 =>
 (jw_gI h 7 v3 2).bind fun v4 =>
 if v1 < v4 then ((jw_gR h 1 (some x0) 7).bind fun v6 =>
 (jw_gR h 1 (some x0) 1).bind fun v7 =>
 (jw_gR h 9 v7 0).bind fun v8 =>
 (jw_gI h 1 (some x0) 12).bind fun v9 =>
 (jw_rc h 7 v6).bind fun a10 =>
 jw_b2 (f_X7_extend h a10 (1 : Int32) v8 (v9 + (1 : Int32))) fun w12 h11 =>
 if w12 = 0 then ((jw_pI h11 1 (some x0) 15 (4 : Int32)).bind fun h27 =>
 some ((), h27))
 else ((jw_gI h11 1 (some x0) 12).bind fun v14 =>
 (jw_pI h11 1 (some x0) 12 (v14 + (1 : Int32))).bind fun h15 =>
 (jw_gI h15 1 (some x0) 12).bind fun v16 =>
 (jw_pI h15 1 (some x0) 11 v16).bind fun h17 =>
 (jw_gR h17 1 (some x0) 6).bind fun v18 =>
 (jw_gR h17 1 (some x0) 1).bind fun v19 =>
 (jw_gI h17 1 (some x0) 12).bind fun v20 =>
 (jw_rc h17 9 v19).bind fun a21 =>
 jw_b2 (f_X9_idOf h17 a21 v20) fun w23 h22 =>
 (jw_rc h22 9 v18).bind fun a24 =>
 jw_b2 (f_X9_dropMarks h22 a24 w23) fun w26 h25 =>
 some ((), h25)))
 else (some ((), h))

set_option maxRecDepth 100000 in
set_option maxHeartbeats 4000000 in
theorem l_X1_join {hi : jw_H} {h : jw_H} {x0 : Nat} {r : Unit} {h' : jw_H} (hq : f_X1_join  h x0 = some (r, h')) : jw_E 2 uX1_join hi 0 [some (.ref x0)] [] h (.inl none) h' := by
  unfold f_X1_join at hq
  refine jw_aload_n dX1_join_0 (o := (some x0)) rfl ?_
  obtain ⟨v1, ev1, hq⟩ := Option.bind_eq_some_iff.mp hq
  refine jw_getI (o := (some x0)) dX1_join_1 ev1 fl_X1_115 rfl ?_
  refine jw_aload_n dX1_join_4 (o := (some x0)) rfl ?_
  obtain ⟨v2, ev2, hq⟩ := Option.bind_eq_some_iff.mp hq
  refine jw_getR (o := (some x0)) dX1_join_5 ev2 fl_X1_15 rfl ?_
  obtain ⟨v3, ev3, hq⟩ := Option.bind_eq_some_iff.mp hq
  refine jw_getR (o := v2) dX1_join_8 ev3 fl_X1_96 rfl ?_
  obtain ⟨v4, ev4, hq⟩ := Option.bind_eq_some_iff.mp hq
  refine jw_getI (o := v3) dX1_join_11 ev4 fl_X1_99 rfl ?_
  rcases jw_if hq with ⟨c5, hq⟩ | ⟨c5, hq⟩
  · refine jw_icmp_lt_t (tgt := 18) dX1_join_14 (by decide) c5 ?_
    refine jw_aload_n dX1_join_18 (o := (some x0)) rfl ?_
    obtain ⟨v6, ev6, hq⟩ := Option.bind_eq_some_iff.mp hq
    refine jw_getR (o := (some x0)) dX1_join_19 ev6 fl_X1_45 rfl ?_
    refine jw_iconst dX1_join_22 (v := (1 : Int32)) (by decide) ?_
    refine jw_aload_n dX1_join_23 (o := (some x0)) rfl ?_
    obtain ⟨v7, ev7, hq⟩ := Option.bind_eq_some_iff.mp hq
    refine jw_getR (o := (some x0)) dX1_join_24 ev7 fl_X1_15 rfl ?_
    obtain ⟨v8, ev8, hq⟩ := Option.bind_eq_some_iff.mp hq
    refine jw_getR (o := v7) dX1_join_27 ev8 fl_X1_96 rfl ?_
    refine jw_aload_n dX1_join_30 (o := (some x0)) rfl ?_
    obtain ⟨v9, ev9, hq⟩ := Option.bind_eq_some_iff.mp hq
    refine jw_getI (o := (some x0)) dX1_join_31 ev9 fl_X1_115 rfl ?_
    refine jw_iconst dX1_join_34 (v := (1 : Int32)) (by decide) ?_
    refine jw_iadd dX1_join_35 ?_
    obtain ⟨a10, ea10, hq⟩ := Option.bind_eq_some_iff.mp hq
    obtain ⟨eoa10, eta10⟩ := jw_rc_spec ea10
    obtain ⟨w12, h11, ew12, hq⟩ := jw_b2_spec hq
    refine jw_callV (As := [.int (1 : Int32), va_rf v8, .int (v9 + (1 : Int32))]) (S := []) (a := a10) (v := some (.int w12)) dX1_join_36 mt_X7_extend in_X7_extend se_X7_extend lk_X1_292 (c_X7_extend ew12) eta10 (by decide) rfl rfl (by decide) (Nat.le_of_ble_eq_true rfl) (by cases eoa10; rfl) ?_
    rcases jw_if hq with ⟨c13, hq⟩ | ⟨c13, hq⟩
    · refine jw_if_ne_f (tgt := 48) dX1_join_39 (by decide) c13 ?_
      refine jw_aload_n dX1_join_42 (o := (some x0)) rfl ?_
      refine jw_iconst dX1_join_43 (v := (4 : Int32)) (by decide) ?_
      obtain ⟨h27, eh27, hq⟩ := Option.bind_eq_some_iff.mp hq
      refine jw_putI (o := (some x0)) dX1_join_44 eh27 fl_X1_65 rfl rfl ?_
      cases hq
      exact jw_vret dX1_join_47 rfl
    · refine jw_if_ne_t (tgt := 48) dX1_join_39 (by decide) c13 ?_
      refine jw_aload_n dX1_join_48 (o := (some x0)) rfl ?_
      refine jw_dup dX1_join_49 rfl ?_
      obtain ⟨v14, ev14, hq⟩ := Option.bind_eq_some_iff.mp hq
      refine jw_getI (o := (some x0)) dX1_join_50 ev14 fl_X1_115 rfl ?_
      refine jw_iconst dX1_join_53 (v := (1 : Int32)) (by decide) ?_
      refine jw_iadd dX1_join_54 ?_
      obtain ⟨h15, eh15, hq⟩ := Option.bind_eq_some_iff.mp hq
      refine jw_putI (o := (some x0)) dX1_join_55 eh15 fl_X1_115 rfl rfl ?_
      refine jw_aload_n dX1_join_58 (o := (some x0)) rfl ?_
      refine jw_aload_n dX1_join_59 (o := (some x0)) rfl ?_
      obtain ⟨v16, ev16, hq⟩ := Option.bind_eq_some_iff.mp hq
      refine jw_getI (o := (some x0)) dX1_join_60 ev16 fl_X1_115 rfl ?_
      obtain ⟨h17, eh17, hq⟩ := Option.bind_eq_some_iff.mp hq
      refine jw_putI (o := (some x0)) dX1_join_63 eh17 fl_X1_137 rfl rfl ?_
      refine jw_aload_n dX1_join_66 (o := (some x0)) rfl ?_
      obtain ⟨v18, ev18, hq⟩ := Option.bind_eq_some_iff.mp hq
      refine jw_getR (o := (some x0)) dX1_join_67 ev18 fl_X1_37 rfl ?_
      refine jw_aload_n dX1_join_70 (o := (some x0)) rfl ?_
      obtain ⟨v19, ev19, hq⟩ := Option.bind_eq_some_iff.mp hq
      refine jw_getR (o := (some x0)) dX1_join_71 ev19 fl_X1_15 rfl ?_
      refine jw_aload_n dX1_join_74 (o := (some x0)) rfl ?_
      obtain ⟨v20, ev20, hq⟩ := Option.bind_eq_some_iff.mp hq
      refine jw_getI (o := (some x0)) dX1_join_75 ev20 fl_X1_115 rfl ?_
      obtain ⟨a21, ea21, hq⟩ := Option.bind_eq_some_iff.mp hq
      obtain ⟨eoa21, eta21⟩ := jw_rc_spec ea21
      obtain ⟨w23, h22, ew23, hq⟩ := jw_b2_spec hq
      refine jw_callV (As := [.int v20]) (S := [va_rf v18]) (a := a21) (v := some (.int w23)) dX1_join_78 mt_X9_idOf in_X9_idOf se_X9_idOf lk_X1_138 (c_X9_idOf ew23) eta21 (by decide) rfl rfl (by decide) (by simp only [List.map_cons, List.map_nil, List.sum_cons, List.sum_nil, jw_cat_rf, jw_cat_i, jw_cat_l, jw_cat_a, jw_cat_s] <;> decide) (by cases eoa21; rfl) ?_
      obtain ⟨a24, ea24, hq⟩ := Option.bind_eq_some_iff.mp hq
      obtain ⟨eoa24, eta24⟩ := jw_rc_spec ea24
      obtain ⟨w26, h25, ew26, hq⟩ := jw_b2_spec hq
      refine jw_callV (As := [.int w23]) (S := []) (a := a24) (v := none) dX1_join_81 mt_X9_dropMarks in_X9_dropMarks se_X9_dropMarks lk_X1_275 (c_X9_dropMarks ew26) eta24 (by decide) rfl rfl (by decide) (Nat.le_of_ble_eq_true rfl) (by cases eoa24; rfl) ?_
      cases hq
      exact jw_vret dX1_join_84 rfl
  · refine jw_icmp_lt_f (tgt := 18) dX1_join_14 (by decide) c5 ?_
    cases hq
    exact jw_vret dX1_join_17 rfl

theorem c_X1_join {h : jw_H} {x0 : Nat} {r : Unit} {h' : jw_H} (hq : f_X1_join h x0 = some (r, h')) : jw_Con (Cond.code yX1_join cX1_join 1 none) yX1_join 2 [.ref x0] h (.inl none) h' :=
  jw_con false (plainFor_of_name (by decide +kernel)) (fun z => nomatch z) (by simp [jw_ent, jw_sl0_nil, jw_sl0_int, jw_sl0_long, jw_sl0_ref, jw_sl0_rf, jw_sl0_scr, List.replicate]) (by simp [jw_sl0_nil, jw_sl0_int, jw_sl0_long, jw_sl0_ref, jw_sl0_rf, jw_sl0_scr]) (l_X1_join hq)


/-! X1_exchange -/
noncomputable def f_X1_exchange (h : jw_H) (x0 : Nat) : Option (Unit × jw_H) :=
 (jw_gR h 1 (some x0) 2).bind fun v1 =>
 (jw_gR h 8 v1 0).bind fun v2 =>
 (jw_gI h 7 v2 2).bind fun v3 =>
 if v3 = (1 : Int32) then ((jw_gR h 1 (some x0) 9).bind fun v5 =>
 (jw_gR h 1 (some x0) 7).bind fun v6 =>
 (jw_rc h 7 v5).bind fun a7 =>
 jw_b2 (f_X7_copy h a7 v6) fun w9 h8 =>
 (jw_gR h8 1 (some x0) 7).bind fun v10 =>
 (jw_gR h8 1 (some x0) 2).bind fun v11 =>
 (jw_gR h8 8 v11 0).bind fun v12 =>
 (jw_rc h8 7 v10).bind fun a13 =>
 jw_b2 (f_X7_take h8 a13 (1 : Int32) v12 (1 : Int32)) fun w15 h14 =>
 (jw_gR h14 1 (some x0) 2).bind fun v16 =>
 (jw_gR h14 8 v16 0).bind fun v17 =>
 (jw_gR h14 1 (some x0) 9).bind fun v18 =>
 (jw_rc h14 7 v17).bind fun a19 =>
 jw_b2 (f_X7_take h14 a19 (1 : Int32) v18 (1 : Int32)) fun w21 h20 =>
 some ((), h20))
 else ((jw_pI h 1 (some x0) 15 (5 : Int32)).bind fun h22 =>
 some ((), h22))

set_option maxRecDepth 100000 in
set_option maxHeartbeats 4000000 in
theorem l_X1_exchange {hi : jw_H} {h : jw_H} {x0 : Nat} {r : Unit} {h' : jw_H} (hq : f_X1_exchange  h x0 = some (r, h')) : jw_E 3 uX1_exchange hi 0 [some (.ref x0)] [] h (.inl none) h' := by
  unfold f_X1_exchange at hq
  refine jw_aload_n dX1_exchange_0 (o := (some x0)) rfl ?_
  obtain ⟨v1, ev1, hq⟩ := Option.bind_eq_some_iff.mp hq
  refine jw_getR (o := (some x0)) dX1_exchange_1 ev1 fl_X1_19 rfl ?_
  obtain ⟨v2, ev2, hq⟩ := Option.bind_eq_some_iff.mp hq
  refine jw_getR (o := v1) dX1_exchange_4 ev2 fl_X1_266 rfl ?_
  obtain ⟨v3, ev3, hq⟩ := Option.bind_eq_some_iff.mp hq
  refine jw_getI (o := v2) dX1_exchange_7 ev3 fl_X1_99 rfl ?_
  refine jw_iconst dX1_exchange_10 (v := (1 : Int32)) (by decide) ?_
  rcases jw_if hq with ⟨c4, hq⟩ | ⟨c4, hq⟩
  · refine jw_icmp_eq_t (tgt := 20) dX1_exchange_11 (by decide) c4 ?_
    refine jw_aload_n dX1_exchange_20 (o := (some x0)) rfl ?_
    obtain ⟨v5, ev5, hq⟩ := Option.bind_eq_some_iff.mp hq
    refine jw_getR (o := (some x0)) dX1_exchange_21 ev5 fl_X1_52 rfl ?_
    refine jw_aload_n dX1_exchange_24 (o := (some x0)) rfl ?_
    obtain ⟨v6, ev6, hq⟩ := Option.bind_eq_some_iff.mp hq
    refine jw_getR (o := (some x0)) dX1_exchange_25 ev6 fl_X1_45 rfl ?_
    obtain ⟨a7, ea7, hq⟩ := Option.bind_eq_some_iff.mp hq
    obtain ⟨eoa7, eta7⟩ := jw_rc_spec ea7
    obtain ⟨w9, h8, ew9, hq⟩ := jw_b2_spec hq
    refine jw_callV (As := [va_rf v6]) (S := []) (a := a7) (v := none) dX1_exchange_28 mt_X7_copy in_X7_copy se_X7_copy lk_X1_296 (c_X7_copy ew9) eta7 (by decide) rfl rfl (by decide) (Nat.le_of_ble_eq_true rfl) (by cases eoa7; rfl) ?_
    refine jw_aload_n dX1_exchange_31 (o := (some x0)) rfl ?_
    obtain ⟨v10, ev10, hq⟩ := Option.bind_eq_some_iff.mp hq
    refine jw_getR (o := (some x0)) dX1_exchange_32 ev10 fl_X1_45 rfl ?_
    refine jw_iconst dX1_exchange_35 (v := (1 : Int32)) (by decide) ?_
    refine jw_aload_n dX1_exchange_36 (o := (some x0)) rfl ?_
    obtain ⟨v11, ev11, hq⟩ := Option.bind_eq_some_iff.mp hq
    refine jw_getR (o := (some x0)) dX1_exchange_37 ev11 fl_X1_19 rfl ?_
    obtain ⟨v12, ev12, hq⟩ := Option.bind_eq_some_iff.mp hq
    refine jw_getR (o := v11) dX1_exchange_40 ev12 fl_X1_266 rfl ?_
    refine jw_iconst dX1_exchange_43 (v := (1 : Int32)) (by decide) ?_
    obtain ⟨a13, ea13, hq⟩ := Option.bind_eq_some_iff.mp hq
    obtain ⟨eoa13, eta13⟩ := jw_rc_spec ea13
    obtain ⟨w15, h14, ew15, hq⟩ := jw_b2_spec hq
    refine jw_callV (As := [.int (1 : Int32), va_rf v12, .int (1 : Int32)]) (S := []) (a := a13) (v := none) dX1_exchange_44 mt_X7_take in_X7_take se_X7_take lk_X1_298 (c_X7_take ew15) eta13 (by decide) rfl rfl (by decide) (Nat.le_of_ble_eq_true rfl) (by cases eoa13; rfl) ?_
    refine jw_aload_n dX1_exchange_47 (o := (some x0)) rfl ?_
    obtain ⟨v16, ev16, hq⟩ := Option.bind_eq_some_iff.mp hq
    refine jw_getR (o := (some x0)) dX1_exchange_48 ev16 fl_X1_19 rfl ?_
    obtain ⟨v17, ev17, hq⟩ := Option.bind_eq_some_iff.mp hq
    refine jw_getR (o := v16) dX1_exchange_51 ev17 fl_X1_266 rfl ?_
    refine jw_iconst dX1_exchange_54 (v := (1 : Int32)) (by decide) ?_
    refine jw_aload_n dX1_exchange_55 (o := (some x0)) rfl ?_
    obtain ⟨v18, ev18, hq⟩ := Option.bind_eq_some_iff.mp hq
    refine jw_getR (o := (some x0)) dX1_exchange_56 ev18 fl_X1_52 rfl ?_
    refine jw_iconst dX1_exchange_59 (v := (1 : Int32)) (by decide) ?_
    obtain ⟨a19, ea19, hq⟩ := Option.bind_eq_some_iff.mp hq
    obtain ⟨eoa19, eta19⟩ := jw_rc_spec ea19
    obtain ⟨w21, h20, ew21, hq⟩ := jw_b2_spec hq
    refine jw_callV (As := [.int (1 : Int32), va_rf v18, .int (1 : Int32)]) (S := []) (a := a19) (v := none) dX1_exchange_60 mt_X7_take in_X7_take se_X7_take lk_X1_298 (c_X7_take ew21) eta19 (by decide) rfl rfl (by decide) (Nat.le_of_ble_eq_true rfl) (by cases eoa19; rfl) ?_
    cases hq
    exact jw_vret dX1_exchange_63 rfl
  · refine jw_icmp_eq_f (tgt := 20) dX1_exchange_11 (by decide) c4 ?_
    refine jw_aload_n dX1_exchange_14 (o := (some x0)) rfl ?_
    refine jw_iconst dX1_exchange_15 (v := (5 : Int32)) (by decide) ?_
    obtain ⟨h22, eh22, hq⟩ := Option.bind_eq_some_iff.mp hq
    refine jw_putI (o := (some x0)) dX1_exchange_16 eh22 fl_X1_65 rfl rfl ?_
    cases hq
    exact jw_vret dX1_exchange_19 rfl

theorem c_X1_exchange {h : jw_H} {x0 : Nat} {r : Unit} {h' : jw_H} (hq : f_X1_exchange h x0 = some (r, h')) : jw_Con (Cond.code yX1_exchange cX1_exchange 1 none) yX1_exchange 3 [.ref x0] h (.inl none) h' :=
  jw_con false (plainFor_of_name (by decide +kernel)) (fun z => nomatch z) (by simp [jw_ent, jw_sl0_nil, jw_sl0_int, jw_sl0_long, jw_sl0_ref, jw_sl0_rf, jw_sl0_scr, List.replicate]) (by simp [jw_sl0_nil, jw_sl0_int, jw_sl0_long, jw_sl0_ref, jw_sl0_rf, jw_sl0_scr]) (l_X1_exchange hq)


/-! X1_writeFile -/
noncomputable def f_X1_writeFile (h : jw_H) (x0 : Nat) (x1 : Option Nat) : Option (Unit × jw_H) :=
 if x1 = none then (some ((), h))
 else ((jw_gR h 1 (some x0) 7).bind fun v2 =>
 (jw_rc h 7 x1).bind fun a3 =>
 jw_b2 (f_X7_addRow h a3 v2 (1 : Int32)) fun w5 h4 =>
 if w5 = 0 then ((jw_pI h4 1 (some x0) 15 (4 : Int32)).bind fun h7 =>
 some ((), h7))
 else (some ((), h4)))

set_option maxRecDepth 100000 in
set_option maxHeartbeats 4000000 in
theorem l_X1_writeFile {hi : jw_H} {h : jw_H} {x0 : Nat} {x1 : Option Nat} {r : Unit} {h' : jw_H} (hq : f_X1_writeFile  h x0 x1 = some (r, h')) : jw_E 3 uX1_writeFile hi 0 [some (.ref x0), some (va_rf x1)] [] h (.inl none) h' := by
  unfold f_X1_writeFile at hq
  refine jw_aload_n dX1_writeFile_0 (o := x1) rfl ?_
  rcases jw_if hq with ⟨c1, hq⟩ | ⟨c1, hq⟩
  · refine jw_ifnull_t (o := x1) (tgt := 21) dX1_writeFile_1 (by decide) c1 ?_
    cases hq
    exact jw_vret dX1_writeFile_21 rfl
  · refine jw_ifnull_f (o := x1) dX1_writeFile_1 c1 ?_
    refine jw_aload_n dX1_writeFile_4 (o := x1) rfl ?_
    refine jw_aload_n dX1_writeFile_5 (o := (some x0)) rfl ?_
    obtain ⟨v2, ev2, hq⟩ := Option.bind_eq_some_iff.mp hq
    refine jw_getR (o := (some x0)) dX1_writeFile_6 ev2 fl_X1_45 rfl ?_
    refine jw_iconst dX1_writeFile_9 (v := (1 : Int32)) (by decide) ?_
    obtain ⟨a3, ea3, hq⟩ := Option.bind_eq_some_iff.mp hq
    obtain ⟨eoa3, eta3⟩ := jw_rc_spec ea3
    obtain ⟨w5, h4, ew5, hq⟩ := jw_b2_spec hq
    refine jw_callV (As := [va_rf v2, .int (1 : Int32)]) (S := []) (a := a3) (v := some (.int w5)) dX1_writeFile_10 mt_X7_addRow in_X7_addRow se_X7_addRow lk_X1_144 (c_X7_addRow ew5) eta3 (by decide) rfl rfl (by decide) (Nat.le_of_ble_eq_true rfl) (by cases eoa3; rfl) ?_
    rcases jw_if hq with ⟨c6, hq⟩ | ⟨c6, hq⟩
    · refine jw_if_ne_f (tgt := 21) dX1_writeFile_13 (by decide) c6 ?_
      refine jw_aload_n dX1_writeFile_16 (o := (some x0)) rfl ?_
      refine jw_iconst dX1_writeFile_17 (v := (4 : Int32)) (by decide) ?_
      obtain ⟨h7, eh7, hq⟩ := Option.bind_eq_some_iff.mp hq
      refine jw_putI (o := (some x0)) dX1_writeFile_18 eh7 fl_X1_65 rfl rfl ?_
      cases hq
      exact jw_vret dX1_writeFile_21 rfl
    · refine jw_if_ne_t (tgt := 21) dX1_writeFile_13 (by decide) c6 ?_
      cases hq
      exact jw_vret dX1_writeFile_21 rfl

theorem c_X1_writeFile {h : jw_H} {x0 : Nat} {x1 : Option Nat} {r : Unit} {h' : jw_H} (hq : f_X1_writeFile h x0 x1 = some (r, h')) : jw_Con (Cond.code yX1_writeFile cX1_writeFile 2 none) yX1_writeFile 3 [.ref x0, va_rf x1] h (.inl none) h' :=
  jw_con false (plainFor_of_name (by decide +kernel)) (fun z => nomatch z) (by simp [jw_ent, jw_sl0_nil, jw_sl0_int, jw_sl0_long, jw_sl0_ref, jw_sl0_rf, jw_sl0_scr, List.replicate]) (by simp [jw_sl0_nil, jw_sl0_int, jw_sl0_long, jw_sl0_ref, jw_sl0_rf, jw_sl0_scr]) (l_X1_writeFile hq)


/-! X1_tell -/
noncomputable def f_X1_tell (h : jw_H) (x0 : Nat) (x1 : Option Nat) : Option (Unit × jw_H) :=
 (jw_gI h 5 x1 3).bind fun v1 =>
 if v1 = (61 : Int32) then ((jw_gR h 1 (some x0) 2).bind fun v3 =>
 (jw_gI h 1 (some x0) 11).bind fun v4 =>
 (jw_rc h 8 v3).bind fun a5 =>
 jw_b2 (f_X8_printNumber h a5 v4) fun w7 h6 =>
 (jw_pI h6 1 (some x0) 15 w7).bind fun h8 =>
 some ((), h8))
 else (if v1 = (72 : Int32) then ((jw_gR h 1 (some x0) 2).bind fun v10 =>
 (jw_gR h 1 (some x0) 7).bind fun v11 =>
 (jw_rc h 8 v10).bind fun a12 =>
 jw_b2 (f_X8_holdMore h a12 v11 (1 : Int32) (1 : Int32)) fun w14 h13 =>
 (jw_pI h13 1 (some x0) 15 w14).bind fun h15 =>
 some ((), h15))
 else (if v1 = (104 : Int32) then ((jw_gR h 1 (some x0) 2).bind fun v17 =>
 (jw_gR h 1 (some x0) 7).bind fun v18 =>
 (jw_rc h 8 v17).bind fun a19 =>
 jw_b2 (f_X8_hold h a19 v18 (1 : Int32) (1 : Int32)) fun w21 h20 =>
 some ((), h20))
 else (if v1 = (107 : Int32) then ((jw_gR h 1 (some x0) 6).bind fun v23 =>
 (jw_gI h 5 x1 5).bind fun v24 =>
 (jw_gI h 1 (some x0) 10).bind fun v25 =>
 (jw_rc h 9 v23).bind fun a26 =>
 jw_b2 (f_X9_setMark h a26 v24 v25) fun w28 h27 =>
 some ((), h27))
 else (if v1 = (110 : Int32) then ((jw_gR h 1 (some x0) 2).bind fun v30 =>
 (jw_gR h 1 (some x0) 7).bind fun v31 =>
 (jw_gI h 1 (some x0) 11).bind fun v32 =>
 (jw_rc h 8 v30).bind fun a33 =>
 jw_b2 (f_X8_print h a33 v31 (1 : Int32) (1 : Int32) v32) fun w35 h34 =>
 (jw_pI h34 1 (some x0) 15 w35).bind fun h36 =>
 some ((), h36))
 else (if v1 = (112 : Int32) then ((jw_gR h 1 (some x0) 2).bind fun v38 =>
 (jw_gR h 1 (some x0) 7).bind fun v39 =>
 (jw_rc h 8 v38).bind fun a40 =>
 jw_b2 (f_X8_print h a40 v39 (1 : Int32) (1 : Int32) (-1 : Int32)) fun w42 h41 =>
 (jw_pI h41 1 (some x0) 15 w42).bind fun h43 =>
 some ((), h43))
 else ((jw_gR h 1 (some x0) 2).bind fun v44 =>
 (jw_gI h 5 x1 5).bind fun v45 =>
 (jw_rc h 8 v44).bind fun a46 =>
 jw_b2 (f_X8_file h a46 v45) fun w48 h47 =>
 (jw_rc h47 1 (some x0)).bind fun a49 =>
 jw_b2 (f_X1_writeFile h47 a49 w48) fun w51 h50 =>
 some ((), h50)))))))

set_option maxRecDepth 100000 in
set_option maxHeartbeats 4000000 in
theorem l_X1_tell {hi : jw_H} {h : jw_H} {x0 : Nat} {x1 : Option Nat} {r : Unit} {h' : jw_H} (hq : f_X1_tell  h x0 x1 = some (r, h')) : jw_E 4 uX1_tell hi 0 [some (.ref x0), some (va_rf x1)] [] h (.inl none) h' := by
  unfold f_X1_tell at hq
  refine jw_aload_n dX1_tell_0 (o := x1) rfl ?_
  obtain ⟨v1, ev1, hq⟩ := Option.bind_eq_some_iff.mp hq
  refine jw_getI (o := x1) dX1_tell_1 ev1 fl_X1_125 rfl ?_
  rcases jw_if hq with ⟨c2, hq⟩ | ⟨c2, hq⟩
  · refine jw_lookup (off := 105) (tgt := 109) dX1_tell_4 (by decide) (jw_lks (l := [(61, 105), (72, 139), (104, 123), (107, 159), (110, 81), (112, 60)]) (by rw [c2]; rfl)) (by decide) ?_
    refine jw_aload_n dX1_tell_109 (o := (some x0)) rfl ?_
    refine jw_aload_n dX1_tell_110 (o := (some x0)) rfl ?_
    obtain ⟨v3, ev3, hq⟩ := Option.bind_eq_some_iff.mp hq
    refine jw_getR (o := (some x0)) dX1_tell_111 ev3 fl_X1_19 rfl ?_
    refine jw_aload_n dX1_tell_114 (o := (some x0)) rfl ?_
    obtain ⟨v4, ev4, hq⟩ := Option.bind_eq_some_iff.mp hq
    refine jw_getI (o := (some x0)) dX1_tell_115 ev4 fl_X1_137 rfl ?_
    obtain ⟨a5, ea5, hq⟩ := Option.bind_eq_some_iff.mp hq
    obtain ⟨eoa5, eta5⟩ := jw_rc_spec ea5
    obtain ⟨w7, h6, ew7, hq⟩ := jw_b2_spec hq
    refine jw_callV (As := [.int v4]) (S := [.ref x0]) (a := a5) (v := some (.int w7)) dX1_tell_118 mt_X8_printNumber in_X8_printNumber se_X8_printNumber lk_X1_306 (c_X8_printNumber ew7) eta5 (by decide) rfl rfl (by decide) (Nat.le_of_ble_eq_true rfl) (by cases eoa5; rfl) ?_
    obtain ⟨h8, eh8, hq⟩ := Option.bind_eq_some_iff.mp hq
    refine jw_putI (o := (some x0)) dX1_tell_121 eh8 fl_X1_65 rfl rfl ?_
    refine jw_goto (tgt := 196) dX1_tell_124 (by decide) ?_
    cases hq
    exact jw_vret dX1_tell_196 rfl
  · rcases jw_if hq with ⟨c9, hq⟩ | ⟨c9, hq⟩
    · refine jw_lookup (off := 139) (tgt := 143) dX1_tell_4 (by decide) (jw_lks (l := [(61, 105), (72, 139), (104, 123), (107, 159), (110, 81), (112, 60)]) (by rw [lv_osw (a := 61) c2 rfl]; rw [c9]; rfl)) (by decide) ?_
      refine jw_aload_n dX1_tell_143 (o := (some x0)) rfl ?_
      refine jw_aload_n dX1_tell_144 (o := (some x0)) rfl ?_
      obtain ⟨v10, ev10, hq⟩ := Option.bind_eq_some_iff.mp hq
      refine jw_getR (o := (some x0)) dX1_tell_145 ev10 fl_X1_19 rfl ?_
      refine jw_aload_n dX1_tell_148 (o := (some x0)) rfl ?_
      obtain ⟨v11, ev11, hq⟩ := Option.bind_eq_some_iff.mp hq
      refine jw_getR (o := (some x0)) dX1_tell_149 ev11 fl_X1_45 rfl ?_
      refine jw_iconst dX1_tell_152 (v := (1 : Int32)) (by decide) ?_
      refine jw_iconst dX1_tell_153 (v := (1 : Int32)) (by decide) ?_
      obtain ⟨a12, ea12, hq⟩ := Option.bind_eq_some_iff.mp hq
      obtain ⟨eoa12, eta12⟩ := jw_rc_spec ea12
      obtain ⟨w14, h13, ew14, hq⟩ := jw_b2_spec hq
      refine jw_callV (As := [va_rf v11, .int (1 : Int32), .int (1 : Int32)]) (S := [.ref x0]) (a := a12) (v := some (.int w14)) dX1_tell_154 mt_X8_holdMore in_X8_holdMore se_X8_holdMore lk_X1_313 (c_X8_holdMore ew14) eta12 (by decide) rfl rfl (by decide) (Nat.le_of_ble_eq_true rfl) (by cases eoa12; rfl) ?_
      obtain ⟨h15, eh15, hq⟩ := Option.bind_eq_some_iff.mp hq
      refine jw_putI (o := (some x0)) dX1_tell_157 eh15 fl_X1_65 rfl rfl ?_
      refine jw_goto (tgt := 196) dX1_tell_160 (by decide) ?_
      cases hq
      exact jw_vret dX1_tell_196 rfl
    · rcases jw_if hq with ⟨c16, hq⟩ | ⟨c16, hq⟩
      · refine jw_lookup (off := 123) (tgt := 127) dX1_tell_4 (by decide) (jw_lks (l := [(61, 105), (72, 139), (104, 123), (107, 159), (110, 81), (112, 60)]) (by rw [lv_osw (a := 61) c2 rfl]; rw [lv_osw (a := 72) c9 rfl]; rw [c16]; rfl)) (by decide) ?_
        refine jw_aload_n dX1_tell_127 (o := (some x0)) rfl ?_
        obtain ⟨v17, ev17, hq⟩ := Option.bind_eq_some_iff.mp hq
        refine jw_getR (o := (some x0)) dX1_tell_128 ev17 fl_X1_19 rfl ?_
        refine jw_aload_n dX1_tell_131 (o := (some x0)) rfl ?_
        obtain ⟨v18, ev18, hq⟩ := Option.bind_eq_some_iff.mp hq
        refine jw_getR (o := (some x0)) dX1_tell_132 ev18 fl_X1_45 rfl ?_
        refine jw_iconst dX1_tell_135 (v := (1 : Int32)) (by decide) ?_
        refine jw_iconst dX1_tell_136 (v := (1 : Int32)) (by decide) ?_
        obtain ⟨a19, ea19, hq⟩ := Option.bind_eq_some_iff.mp hq
        obtain ⟨eoa19, eta19⟩ := jw_rc_spec ea19
        obtain ⟨w21, h20, ew21, hq⟩ := jw_b2_spec hq
        refine jw_callV (As := [va_rf v18, .int (1 : Int32), .int (1 : Int32)]) (S := []) (a := a19) (v := none) dX1_tell_137 mt_X8_hold in_X8_hold se_X8_hold lk_X1_309 (c_X8_hold ew21) eta19 (by decide) rfl rfl (by decide) (Nat.le_of_ble_eq_true rfl) (by cases eoa19; rfl) ?_
        refine jw_goto (tgt := 196) dX1_tell_140 (by decide) ?_
        cases hq
        exact jw_vret dX1_tell_196 rfl
      · rcases jw_if hq with ⟨c22, hq⟩ | ⟨c22, hq⟩
        · refine jw_lookup (off := 159) (tgt := 163) dX1_tell_4 (by decide) (jw_lks (l := [(61, 105), (72, 139), (104, 123), (107, 159), (110, 81), (112, 60)]) (by rw [lv_osw (a := 61) c2 rfl]; rw [lv_osw (a := 72) c9 rfl]; rw [lv_osw (a := 104) c16 rfl]; rw [c22]; rfl)) (by decide) ?_
          refine jw_aload_n dX1_tell_163 (o := (some x0)) rfl ?_
          obtain ⟨v23, ev23, hq⟩ := Option.bind_eq_some_iff.mp hq
          refine jw_getR (o := (some x0)) dX1_tell_164 ev23 fl_X1_37 rfl ?_
          refine jw_aload_n dX1_tell_167 (o := x1) rfl ?_
          obtain ⟨v24, ev24, hq⟩ := Option.bind_eq_some_iff.mp hq
          refine jw_getI (o := x1) dX1_tell_168 ev24 fl_X1_130 rfl ?_
          refine jw_aload_n dX1_tell_171 (o := (some x0)) rfl ?_
          obtain ⟨v25, ev25, hq⟩ := Option.bind_eq_some_iff.mp hq
          refine jw_getI (o := (some x0)) dX1_tell_172 ev25 fl_X1_141 rfl ?_
          obtain ⟨a26, ea26, hq⟩ := Option.bind_eq_some_iff.mp hq
          obtain ⟨eoa26, eta26⟩ := jw_rc_spec ea26
          obtain ⟨w28, h27, ew28, hq⟩ := jw_b2_spec hq
          refine jw_callV (As := [.int v24, .int v25]) (S := []) (a := a26) (v := none) dX1_tell_175 mt_X9_setMark in_X9_setMark se_X9_setMark lk_X1_317 (c_X9_setMark ew28) eta26 (by decide) rfl rfl (by decide) (Nat.le_of_ble_eq_true rfl) (by cases eoa26; rfl) ?_
          refine jw_goto (tgt := 196) dX1_tell_178 (by decide) ?_
          cases hq
          exact jw_vret dX1_tell_196 rfl
        · rcases jw_if hq with ⟨c29, hq⟩ | ⟨c29, hq⟩
          · refine jw_lookup (off := 81) (tgt := 85) dX1_tell_4 (by decide) (jw_lks (l := [(61, 105), (72, 139), (104, 123), (107, 159), (110, 81), (112, 60)]) (by rw [lv_osw (a := 61) c2 rfl]; rw [lv_osw (a := 72) c9 rfl]; rw [lv_osw (a := 104) c16 rfl]; rw [lv_osw (a := 107) c22 rfl]; rw [c29]; rfl)) (by decide) ?_
            refine jw_aload_n dX1_tell_85 (o := (some x0)) rfl ?_
            refine jw_aload_n dX1_tell_86 (o := (some x0)) rfl ?_
            obtain ⟨v30, ev30, hq⟩ := Option.bind_eq_some_iff.mp hq
            refine jw_getR (o := (some x0)) dX1_tell_87 ev30 fl_X1_19 rfl ?_
            refine jw_aload_n dX1_tell_90 (o := (some x0)) rfl ?_
            obtain ⟨v31, ev31, hq⟩ := Option.bind_eq_some_iff.mp hq
            refine jw_getR (o := (some x0)) dX1_tell_91 ev31 fl_X1_45 rfl ?_
            refine jw_iconst dX1_tell_94 (v := (1 : Int32)) (by decide) ?_
            refine jw_iconst dX1_tell_95 (v := (1 : Int32)) (by decide) ?_
            refine jw_aload_n dX1_tell_96 (o := (some x0)) rfl ?_
            obtain ⟨v32, ev32, hq⟩ := Option.bind_eq_some_iff.mp hq
            refine jw_getI (o := (some x0)) dX1_tell_97 ev32 fl_X1_137 rfl ?_
            obtain ⟨a33, ea33, hq⟩ := Option.bind_eq_some_iff.mp hq
            obtain ⟨eoa33, eta33⟩ := jw_rc_spec ea33
            obtain ⟨w35, h34, ew35, hq⟩ := jw_b2_spec hq
            refine jw_callV (As := [va_rf v31, .int (1 : Int32), .int (1 : Int32), .int v32]) (S := [.ref x0]) (a := a33) (v := some (.int w35)) dX1_tell_100 mt_X8_print in_X8_print se_X8_print lk_X1_302 (c_X8_print ew35) eta33 (by decide) rfl rfl (by decide) (Nat.le_of_ble_eq_true rfl) (by cases eoa33; rfl) ?_
            obtain ⟨h36, eh36, hq⟩ := Option.bind_eq_some_iff.mp hq
            refine jw_putI (o := (some x0)) dX1_tell_103 eh36 fl_X1_65 rfl rfl ?_
            refine jw_goto (tgt := 196) dX1_tell_106 (by decide) ?_
            cases hq
            exact jw_vret dX1_tell_196 rfl
          · rcases jw_if hq with ⟨c37, hq⟩ | ⟨c37, hq⟩
            · refine jw_lookup (off := 60) (tgt := 64) dX1_tell_4 (by decide) (jw_lks (l := [(61, 105), (72, 139), (104, 123), (107, 159), (110, 81), (112, 60)]) (by rw [lv_osw (a := 61) c2 rfl]; rw [lv_osw (a := 72) c9 rfl]; rw [lv_osw (a := 104) c16 rfl]; rw [lv_osw (a := 107) c22 rfl]; rw [lv_osw (a := 110) c29 rfl]; rw [c37]; rfl)) (by decide) ?_
              refine jw_aload_n dX1_tell_64 (o := (some x0)) rfl ?_
              refine jw_aload_n dX1_tell_65 (o := (some x0)) rfl ?_
              obtain ⟨v38, ev38, hq⟩ := Option.bind_eq_some_iff.mp hq
              refine jw_getR (o := (some x0)) dX1_tell_66 ev38 fl_X1_19 rfl ?_
              refine jw_aload_n dX1_tell_69 (o := (some x0)) rfl ?_
              obtain ⟨v39, ev39, hq⟩ := Option.bind_eq_some_iff.mp hq
              refine jw_getR (o := (some x0)) dX1_tell_70 ev39 fl_X1_45 rfl ?_
              refine jw_iconst dX1_tell_73 (v := (1 : Int32)) (by decide) ?_
              refine jw_iconst dX1_tell_74 (v := (1 : Int32)) (by decide) ?_
              refine jw_iconst dX1_tell_75 (v := (-1 : Int32)) (by decide) ?_
              obtain ⟨a40, ea40, hq⟩ := Option.bind_eq_some_iff.mp hq
              obtain ⟨eoa40, eta40⟩ := jw_rc_spec ea40
              obtain ⟨w42, h41, ew42, hq⟩ := jw_b2_spec hq
              refine jw_callV (As := [va_rf v39, .int (1 : Int32), .int (1 : Int32), .int (-1 : Int32)]) (S := [.ref x0]) (a := a40) (v := some (.int w42)) dX1_tell_76 mt_X8_print in_X8_print se_X8_print lk_X1_302 (c_X8_print ew42) eta40 (by decide) rfl rfl (by decide) (Nat.le_of_ble_eq_true rfl) (by cases eoa40; rfl) ?_
              obtain ⟨h43, eh43, hq⟩ := Option.bind_eq_some_iff.mp hq
              refine jw_putI (o := (some x0)) dX1_tell_79 eh43 fl_X1_65 rfl rfl ?_
              refine jw_goto (tgt := 196) dX1_tell_82 (by decide) ?_
              cases hq
              exact jw_vret dX1_tell_196 rfl
            · refine jw_lookup (off := 177) (tgt := 181) dX1_tell_4 (by decide) (jw_lks (l := [(61, 105), (72, 139), (104, 123), (107, 159), (110, 81), (112, 60)]) (by rw [lv_osw (a := 61) c2 rfl]; rw [lv_osw (a := 72) c9 rfl]; rw [lv_osw (a := 104) c16 rfl]; rw [lv_osw (a := 107) c22 rfl]; rw [lv_osw (a := 110) c29 rfl]; rw [lv_osw (a := 112) c37 rfl]; rfl)) (by decide) ?_
              refine jw_aload_n dX1_tell_181 (o := (some x0)) rfl ?_
              refine jw_aload_n dX1_tell_182 (o := (some x0)) rfl ?_
              obtain ⟨v44, ev44, hq⟩ := Option.bind_eq_some_iff.mp hq
              refine jw_getR (o := (some x0)) dX1_tell_183 ev44 fl_X1_19 rfl ?_
              refine jw_aload_n dX1_tell_186 (o := x1) rfl ?_
              obtain ⟨v45, ev45, hq⟩ := Option.bind_eq_some_iff.mp hq
              refine jw_getI (o := x1) dX1_tell_187 ev45 fl_X1_130 rfl ?_
              obtain ⟨a46, ea46, hq⟩ := Option.bind_eq_some_iff.mp hq
              obtain ⟨eoa46, eta46⟩ := jw_rc_spec ea46
              obtain ⟨w48, h47, ew48, hq⟩ := jw_b2_spec hq
              refine jw_callV (As := [.int v45]) (S := [.ref x0]) (a := a46) (v := some (va_rf w48)) dX1_tell_190 mt_X8_file in_X8_file se_X8_file lk_X1_133 (c_X8_file ew48) eta46 (by decide) rfl rfl (by decide) (Nat.le_of_ble_eq_true rfl) (by cases eoa46; rfl) ?_
              obtain ⟨a49, ea49, hq⟩ := Option.bind_eq_some_iff.mp hq
              obtain ⟨eoa49, eta49⟩ := jw_rc_spec ea49
              obtain ⟨w51, h50, ew51, hq⟩ := jw_b2_spec hq
              refine jw_callV (As := [va_rf w48]) (S := []) (a := a49) (v := none) dX1_tell_193 mt_X1_writeFile in_X1_writeFile se_X1_writeFile lk_X1_320 (c_X1_writeFile ew51) eta49 (by decide) rfl rfl (by decide) (Nat.le_of_ble_eq_true rfl) (by cases eoa49; rfl) ?_
              cases hq
              exact jw_vret dX1_tell_196 rfl

theorem c_X1_tell {h : jw_H} {x0 : Nat} {x1 : Option Nat} {r : Unit} {h' : jw_H} (hq : f_X1_tell h x0 x1 = some (r, h')) : jw_Con (Cond.code yX1_tell cX1_tell 2 none) yX1_tell 4 [.ref x0, va_rf x1] h (.inl none) h' :=
  jw_con false (plainFor_of_name (by decide +kernel)) (fun z => nomatch z) (by simp [jw_ent, jw_sl0_nil, jw_sl0_int, jw_sl0_long, jw_sl0_ref, jw_sl0_rf, jw_sl0_scr, List.replicate]) (by simp [jw_sl0_nil, jw_sl0_int, jw_sl0_long, jw_sl0_ref, jw_sl0_rf, jw_sl0_scr]) (l_X1_tell hq)


/-! X1_doOne -/
noncomputable def g_X1_doOne_b120 (h : jw_H) (x0 : Nat) (x1 : Option Nat) : Option (Unit × jw_H) :=
 (jw_gR h 1 (some x0) 5).bind fun v1 =>
 (jw_gR h 1 (some x0) 7).bind fun v2 =>
 (jw_rc h 2 v1).bind fun a3 =>
 jw_b2 (f_X2_change h a3 x1 v2 (1 : Int32) (1 : Int32)) fun w5 h4 =>
 (jw_pI h4 1 (some x0) 15 w5).bind fun h6 =>
 some ((), h6)

noncomputable def g_X1_doOne_b218 (h : jw_H) (x0 : Nat) : Option (Unit × jw_H) :=
 (jw_gR h 1 (some x0) 9).bind fun v1 =>
 (jw_rc h 1 (some x0)).bind fun a2 =>
 jw_b2 (f_X1_putNew h a2 v1) fun w4 h3 =>
 some ((), h3)

noncomputable def g_X1_doOne_b273 (h : jw_H) (x0 : Nat) (t0 : Nat) (t1 : Int32) : Option (Unit × jw_H) :=
 (jw_pI h 1 (some t0) 15 t1).bind fun h1 =>
 (jw_gR h1 1 (some x0) 2).bind fun v2 =>
 (jw_gR h1 8 v2 0).bind fun v3 =>
 (jw_rc h1 1 (some x0)).bind fun a4 =>
 jw_b2 (f_X1_putDue h1 a4 v3) fun w6 h5 =>
 some ((), h5)

noncomputable def f_X1_doOne (h : jw_H) (x0 : Nat) (x1 : Option Nat) : Option (Unit × jw_H) :=
 (jw_gI h 5 x1 3).bind fun v1 =>
 if v1 = (60 : Int32) then (g_X1_doOne_b120  h x0 x1)
 else (if v1 = (62 : Int32) then (g_X1_doOne_b120  h x0 x1)
 else (if v1 = (97 : Int32) then ((jw_gR h 1 (some x0) 0).bind fun v5 =>
 (jw_gR h 1 (some x0) 9).bind fun v6 =>
 (jw_rc h 6 v5).bind fun a7 =>
 jw_b2 (f_X6_rowsOf h a7 x1 v6) fun w9 h8 =>
 (jw_gR h8 1 (some x0) 9).bind fun v10 =>
 (jw_rc h8 1 (some x0)).bind fun a11 =>
 jw_b2 (f_X1_putDue h8 a11 v10) fun w13 h12 =>
 some ((), h12))
 else (if v1 = (99 : Int32) then ((jw_rc h 1 (some x0)).bind fun a15 =>
 jw_b2 (f_X1_goAway h a15) fun w17 h16 =>
 (jw_gR h16 1 (some x0) 0).bind fun v18 =>
 (jw_gR h16 1 (some x0) 9).bind fun v19 =>
 (jw_rc h16 6 v18).bind fun a20 =>
 jw_b2 (f_X6_rowsOf h16 a20 x1 v19) fun w22 h21 =>
 (jw_gI h21 5 x1 4).bind fun v23 =>
 if v23 = (3 : Int32) then ((jw_gI h21 5 x1 12).bind fun v25 =>
 if v25 = 0 then (some ((), h21))
 else (g_X1_doOne_b218  h21 x0))
 else (g_X1_doOne_b218  h21 x0))
 else (if v1 = (100 : Int32) then ((jw_rc h 1 (some x0)).bind fun a28 =>
 jw_b2 (f_X1_goAway h a28) fun w30 h29 =>
 some ((), h29))
 else (if v1 = (101 : Int32) then ((jw_rc h 1 (some x0)).bind fun a32 =>
 jw_b2 (f_X1_exchange h a32) fun w34 h33 =>
 some ((), h33))
 else (if v1 = (105 : Int32) then ((jw_gR h 1 (some x0) 0).bind fun v36 =>
 (jw_gR h 1 (some x0) 9).bind fun v37 =>
 (jw_rc h 6 v36).bind fun a38 =>
 jw_b2 (f_X6_rowsOf h a38 x1 v37) fun w40 h39 =>
 (jw_gR h39 1 (some x0) 9).bind fun v41 =>
 (jw_rc h39 1 (some x0)).bind fun a42 =>
 jw_b2 (f_X1_putNew h39 a42 v41) fun w44 h43 =>
 some ((), h43))
 else (if v1 = (106 : Int32) then ((jw_rc h 1 (some x0)).bind fun a46 =>
 jw_b2 (f_X1_join h a46) fun w48 h47 =>
 some ((), h47))
 else (if v1 = (114 : Int32) then ((jw_gR h 1 (some x0) 2).bind fun v50 =>
 (jw_gI h 5 x1 5).bind fun v51 =>
 (jw_rc h 8 v50).bind fun a52 =>
 jw_b2 (f_X8_file h a52 v51) fun w54 h53 =>
 (jw_rc h53 1 (some x0)).bind fun a55 =>
 jw_b2 (f_X1_putDue h53 a55 w54) fun w57 h56 =>
 some ((), h56))
 else (if v1 = (115 : Int32) then (g_X1_doOne_b120  h x0 x1)
 else (if v1 = (117 : Int32) then ((jw_gR h 1 (some x0) 2).bind fun v60 =>
 (jw_gR h 8 v60 0).bind fun v61 =>
 (jw_gI h 7 v61 2).bind fun v62 =>
 if v62 = 0 then (g_X1_doOne_b273  h x0 x0 (5 : Int32))
 else (g_X1_doOne_b273  h x0 x0 (0 : Int32)))
 else (if v1 = (118 : Int32) then ((jw_gI h 5 x1 5).bind fun v65 =>
 (jw_rc h 1 (some x0)).bind fun a66 =>
 jw_b2 (f_X1_part h a66 v65) fun w68 h67 =>
 some ((), h67))
 else (if v1 = (122 : Int32) then (g_X1_doOne_b120  h x0 x1)
 else ((jw_rc h 1 (some x0)).bind fun a70 =>
 jw_b2 (f_X1_tell h a70 x1) fun w72 h71 =>
 some ((), h71))))))))))))))

set_option maxRecDepth 100000 in
set_option maxHeartbeats 4000000 in
theorem l_X1_doOne_b120 {hi : jw_H} {h : jw_H} {x0 : Nat} {x1 : Option Nat} {r : Unit} {h' : jw_H} (hq : g_X1_doOne_b120  h x0 x1 = some (r, h')) : jw_E 10 uX1_doOne hi 120 [some (.ref x0), some (va_rf x1)] [] h (.inl none) h' := by
  unfold g_X1_doOne_b120 at hq
  refine jw_aload_n dX1_doOne_120 (o := (some x0)) rfl ?_
  refine jw_aload_n dX1_doOne_121 (o := (some x0)) rfl ?_
  obtain ⟨v1, ev1, hq⟩ := Option.bind_eq_some_iff.mp hq
  refine jw_getR (o := (some x0)) dX1_doOne_122 ev1 fl_X1_30 rfl ?_
  refine jw_aload_n dX1_doOne_125 (o := x1) rfl ?_
  refine jw_aload_n dX1_doOne_126 (o := (some x0)) rfl ?_
  obtain ⟨v2, ev2, hq⟩ := Option.bind_eq_some_iff.mp hq
  refine jw_getR (o := (some x0)) dX1_doOne_127 ev2 fl_X1_45 rfl ?_
  refine jw_iconst dX1_doOne_130 (v := (1 : Int32)) (by decide) ?_
  refine jw_iconst dX1_doOne_131 (v := (1 : Int32)) (by decide) ?_
  obtain ⟨a3, ea3, hq⟩ := Option.bind_eq_some_iff.mp hq
  obtain ⟨eoa3, eta3⟩ := jw_rc_spec ea3
  obtain ⟨w5, h4, ew5, hq⟩ := jw_b2_spec hq
  refine jw_callV (As := [va_rf x1, va_rf v2, .int (1 : Int32), .int (1 : Int32)]) (S := [.ref x0]) (a := a3) (v := some (.int w5)) dX1_doOne_132 mt_X2_change in_X2_change se_X2_change lk_X1_246 (c_X2_change ew5) eta3 (by decide) rfl rfl (by decide) (Nat.le_of_ble_eq_true rfl) (by cases eoa3; rfl) ?_
  obtain ⟨h6, eh6, hq⟩ := Option.bind_eq_some_iff.mp hq
  refine jw_putI (o := (some x0)) dX1_doOne_135 eh6 fl_X1_65 rfl rfl ?_
  refine jw_goto (tgt := 320) dX1_doOne_138 (by decide) ?_
  cases hq
  exact jw_vret dX1_doOne_320 rfl

set_option maxRecDepth 100000 in
set_option maxHeartbeats 4000000 in
theorem l_X1_doOne_b218 {hi : jw_H} {h : jw_H} {x0 : Nat} {r : Unit} {h' : jw_H} (hq : g_X1_doOne_b218  h x0 = some (r, h')) : jw_E 10 uX1_doOne hi 218 [some (.ref x0), none] [] h (.inl none) h' := by
  unfold g_X1_doOne_b218 at hq
  refine jw_aload_n dX1_doOne_218 (o := (some x0)) rfl ?_
  refine jw_aload_n dX1_doOne_219 (o := (some x0)) rfl ?_
  obtain ⟨v1, ev1, hq⟩ := Option.bind_eq_some_iff.mp hq
  refine jw_getR (o := (some x0)) dX1_doOne_220 ev1 fl_X1_52 rfl ?_
  obtain ⟨a2, ea2, hq⟩ := Option.bind_eq_some_iff.mp hq
  obtain ⟨eoa2, eta2⟩ := jw_rc_spec ea2
  obtain ⟨w4, h3, ew4, hq⟩ := jw_b2_spec hq
  refine jw_callV (As := [va_rf v1]) (S := []) (a := a2) (v := none) dX1_doOne_223 mt_X1_putNew in_X1_putNew se_X1_putNew lk_X1_160 (c_X1_putNew ew4) eta2 (by decide) rfl rfl (by decide) (Nat.le_of_ble_eq_true rfl) (by cases eoa2; rfl) ?_
  refine jw_goto (tgt := 320) dX1_doOne_226 (by decide) ?_
  cases hq
  exact jw_vret dX1_doOne_320 rfl

set_option maxRecDepth 100000 in
set_option maxHeartbeats 4000000 in
theorem l_X1_doOne_b273 {hi : jw_H} {h : jw_H} {x0 : Nat} {t0 : Nat} {t1 : Int32} {r : Unit} {h' : jw_H} (hq : g_X1_doOne_b273  h x0 t0 t1 = some (r, h')) : jw_E 10 uX1_doOne hi 273 [some (.ref x0), none] [.int t1, .ref t0] h (.inl none) h' := by
  unfold g_X1_doOne_b273 at hq
  obtain ⟨h1, eh1, hq⟩ := Option.bind_eq_some_iff.mp hq
  refine jw_putI (o := (some t0)) dX1_doOne_273 eh1 fl_X1_65 rfl rfl ?_
  refine jw_aload_n dX1_doOne_276 (o := (some x0)) rfl ?_
  refine jw_aload_n dX1_doOne_277 (o := (some x0)) rfl ?_
  obtain ⟨v2, ev2, hq⟩ := Option.bind_eq_some_iff.mp hq
  refine jw_getR (o := (some x0)) dX1_doOne_278 ev2 fl_X1_19 rfl ?_
  obtain ⟨v3, ev3, hq⟩ := Option.bind_eq_some_iff.mp hq
  refine jw_getR (o := v2) dX1_doOne_281 ev3 fl_X1_266 rfl ?_
  obtain ⟨a4, ea4, hq⟩ := Option.bind_eq_some_iff.mp hq
  obtain ⟨eoa4, eta4⟩ := jw_rc_spec ea4
  obtain ⟨w6, h5, ew6, hq⟩ := jw_b2_spec hq
  refine jw_callV (As := [va_rf v3]) (S := []) (a := a4) (v := none) dX1_doOne_284 mt_X1_putDue in_X1_putDue se_X1_putDue lk_X1_254 (c_X1_putDue ew6) eta4 (by decide) rfl rfl (by decide) (Nat.le_of_ble_eq_true rfl) (by cases eoa4; rfl) ?_
  refine jw_goto (tgt := 320) dX1_doOne_287 (by decide) ?_
  cases hq
  exact jw_vret dX1_doOne_320 rfl

set_option maxRecDepth 100000 in
set_option maxHeartbeats 4000000 in
theorem l_X1_doOne {hi : jw_H} {h : jw_H} {x0 : Nat} {x1 : Option Nat} {r : Unit} {h' : jw_H} (hq : f_X1_doOne  h x0 x1 = some (r, h')) : jw_E 10 uX1_doOne hi 0 [some (.ref x0), some (va_rf x1)] [] h (.inl none) h' := by
  unfold f_X1_doOne at hq
  refine jw_aload_n dX1_doOne_0 (o := x1) rfl ?_
  obtain ⟨v1, ev1, hq⟩ := Option.bind_eq_some_iff.mp hq
  refine jw_getI (o := x1) dX1_doOne_1 ev1 fl_X1_125 rfl ?_
  rcases jw_if hq with ⟨c2, hq⟩ | ⟨c2, hq⟩
  · refine jw_lookup (off := 116) (tgt := 120) dX1_doOne_4 (by decide) (jw_lks (l := [(60, 116), (62, 116), (97, 137), (99, 183), (100, 225), (101, 304), (105, 160), (106, 243), (114, 286), (115, 116), (117, 250), (118, 232), (122, 116)]) (by rw [c2]; rfl)) (by decide) ?_
    exact l_X1_doOne_b120  hq
  · rcases jw_if hq with ⟨c3, hq⟩ | ⟨c3, hq⟩
    · refine jw_lookup (off := 116) (tgt := 120) dX1_doOne_4 (by decide) (jw_lks (l := [(60, 116), (62, 116), (97, 137), (99, 183), (100, 225), (101, 304), (105, 160), (106, 243), (114, 286), (115, 116), (117, 250), (118, 232), (122, 116)]) (by rw [lv_osw (a := 60) c2 rfl]; rw [c3]; rfl)) (by decide) ?_
      exact l_X1_doOne_b120  hq
    · rcases jw_if hq with ⟨c4, hq⟩ | ⟨c4, hq⟩
      · refine jw_lookup (off := 137) (tgt := 141) dX1_doOne_4 (by decide) (jw_lks (l := [(60, 116), (62, 116), (97, 137), (99, 183), (100, 225), (101, 304), (105, 160), (106, 243), (114, 286), (115, 116), (117, 250), (118, 232), (122, 116)]) (by rw [lv_osw (a := 60) c2 rfl]; rw [lv_osw (a := 62) c3 rfl]; rw [c4]; rfl)) (by decide) ?_
        refine jw_aload_n dX1_doOne_141 (o := (some x0)) rfl ?_
        obtain ⟨v5, ev5, hq⟩ := Option.bind_eq_some_iff.mp hq
        refine jw_getR (o := (some x0)) dX1_doOne_142 ev5 fl_X1_9 rfl ?_
        refine jw_aload_n dX1_doOne_145 (o := x1) rfl ?_
        refine jw_aload_n dX1_doOne_146 (o := (some x0)) rfl ?_
        obtain ⟨v6, ev6, hq⟩ := Option.bind_eq_some_iff.mp hq
        refine jw_getR (o := (some x0)) dX1_doOne_147 ev6 fl_X1_52 rfl ?_
        obtain ⟨a7, ea7, hq⟩ := Option.bind_eq_some_iff.mp hq
        obtain ⟨eoa7, eta7⟩ := jw_rc_spec ea7
        obtain ⟨w9, h8, ew9, hq⟩ := jw_b2_spec hq
        refine jw_callV (As := [va_rf x1, va_rf v6]) (S := []) (a := a7) (v := none) dX1_doOne_150 mt_X6_rowsOf in_X6_rowsOf se_X6_rowsOf lk_X1_250 (c_X6_rowsOf ew9) eta7 (by decide) rfl rfl (by decide) (Nat.le_of_ble_eq_true rfl) (by cases eoa7; rfl) ?_
        refine jw_aload_n dX1_doOne_153 (o := (some x0)) rfl ?_
        refine jw_aload_n dX1_doOne_154 (o := (some x0)) rfl ?_
        obtain ⟨v10, ev10, hq⟩ := Option.bind_eq_some_iff.mp hq
        refine jw_getR (o := (some x0)) dX1_doOne_155 ev10 fl_X1_52 rfl ?_
        obtain ⟨a11, ea11, hq⟩ := Option.bind_eq_some_iff.mp hq
        obtain ⟨eoa11, eta11⟩ := jw_rc_spec ea11
        obtain ⟨w13, h12, ew13, hq⟩ := jw_b2_spec hq
        refine jw_callV (As := [va_rf v10]) (S := []) (a := a11) (v := none) dX1_doOne_158 mt_X1_putDue in_X1_putDue se_X1_putDue lk_X1_254 (c_X1_putDue ew13) eta11 (by decide) rfl rfl (by decide) (Nat.le_of_ble_eq_true rfl) (by cases eoa11; rfl) ?_
        refine jw_goto (tgt := 320) dX1_doOne_161 (by decide) ?_
        cases hq
        exact jw_vret dX1_doOne_320 rfl
      · rcases jw_if hq with ⟨c14, hq⟩ | ⟨c14, hq⟩
        · refine jw_lookup (off := 183) (tgt := 187) dX1_doOne_4 (by decide) (jw_lks (l := [(60, 116), (62, 116), (97, 137), (99, 183), (100, 225), (101, 304), (105, 160), (106, 243), (114, 286), (115, 116), (117, 250), (118, 232), (122, 116)]) (by rw [lv_osw (a := 60) c2 rfl]; rw [lv_osw (a := 62) c3 rfl]; rw [lv_osw (a := 97) c4 rfl]; rw [c14]; rfl)) (by decide) ?_
          refine jw_aload_n dX1_doOne_187 (o := (some x0)) rfl ?_
          obtain ⟨a15, ea15, hq⟩ := Option.bind_eq_some_iff.mp hq
          obtain ⟨eoa15, eta15⟩ := jw_rc_spec ea15
          obtain ⟨w17, h16, ew17, hq⟩ := jw_b2_spec hq
          refine jw_callV (As := []) (S := []) (a := a15) (v := none) dX1_doOne_188 mt_X1_goAway in_X1_goAway se_X1_goAway lk_X1_257 (c_X1_goAway ew17) eta15 (by decide) rfl rfl (by decide) (Nat.le_of_ble_eq_true rfl) (by cases eoa15; rfl) ?_
          refine jw_aload_n dX1_doOne_191 (o := (some x0)) rfl ?_
          obtain ⟨v18, ev18, hq⟩ := Option.bind_eq_some_iff.mp hq
          refine jw_getR (o := (some x0)) dX1_doOne_192 ev18 fl_X1_9 rfl ?_
          refine jw_aload_n dX1_doOne_195 (o := x1) rfl ?_
          refine jw_aload_n dX1_doOne_196 (o := (some x0)) rfl ?_
          obtain ⟨v19, ev19, hq⟩ := Option.bind_eq_some_iff.mp hq
          refine jw_getR (o := (some x0)) dX1_doOne_197 ev19 fl_X1_52 rfl ?_
          obtain ⟨a20, ea20, hq⟩ := Option.bind_eq_some_iff.mp hq
          obtain ⟨eoa20, eta20⟩ := jw_rc_spec ea20
          obtain ⟨w22, h21, ew22, hq⟩ := jw_b2_spec hq
          refine jw_callV (As := [va_rf x1, va_rf v19]) (S := []) (a := a20) (v := none) dX1_doOne_200 mt_X6_rowsOf in_X6_rowsOf se_X6_rowsOf lk_X1_250 (c_X6_rowsOf ew22) eta20 (by decide) rfl rfl (by decide) (Nat.le_of_ble_eq_true rfl) (by cases eoa20; rfl) ?_
          refine jw_aload_n dX1_doOne_203 (o := x1) rfl ?_
          obtain ⟨v23, ev23, hq⟩ := Option.bind_eq_some_iff.mp hq
          refine jw_getI (o := x1) dX1_doOne_204 ev23 fl_X1_196 rfl ?_
          refine jw_iconst dX1_doOne_207 (v := (3 : Int32)) (by decide) ?_
          rcases jw_if hq with ⟨c24, hq⟩ | ⟨c24, hq⟩
          · refine jw_icmp_ne_f (tgt := 218) dX1_doOne_208 (by decide) c24 ?_
            refine jw_aload_n dX1_doOne_211 (o := x1) rfl ?_
            obtain ⟨v25, ev25, hq⟩ := Option.bind_eq_some_iff.mp hq
            refine jw_getI (o := x1) dX1_doOne_212 ev25 fl_X1_228 rfl ?_
            rcases jw_if hq with ⟨c26, hq⟩ | ⟨c26, hq⟩
            · refine jw_if_eq_t (tgt := 320) dX1_doOne_215 (by decide) c26 ?_
              cases hq
              exact jw_vret dX1_doOne_320 rfl
            · refine jw_if_eq_f (tgt := 320) dX1_doOne_215 (by decide) c26 ?_
              refine jw_forget [true, false] (L' := [some (.ref x0), none]) rfl ?_
              exact l_X1_doOne_b218  hq
          · refine jw_icmp_ne_t (tgt := 218) dX1_doOne_208 (by decide) c24 ?_
            refine jw_forget [true, false] (L' := [some (.ref x0), none]) rfl ?_
            exact l_X1_doOne_b218  hq
        · rcases jw_if hq with ⟨c27, hq⟩ | ⟨c27, hq⟩
          · refine jw_lookup (off := 225) (tgt := 229) dX1_doOne_4 (by decide) (jw_lks (l := [(60, 116), (62, 116), (97, 137), (99, 183), (100, 225), (101, 304), (105, 160), (106, 243), (114, 286), (115, 116), (117, 250), (118, 232), (122, 116)]) (by rw [lv_osw (a := 60) c2 rfl]; rw [lv_osw (a := 62) c3 rfl]; rw [lv_osw (a := 97) c4 rfl]; rw [lv_osw (a := 99) c14 rfl]; rw [c27]; rfl)) (by decide) ?_
            refine jw_aload_n dX1_doOne_229 (o := (some x0)) rfl ?_
            obtain ⟨a28, ea28, hq⟩ := Option.bind_eq_some_iff.mp hq
            obtain ⟨eoa28, eta28⟩ := jw_rc_spec ea28
            obtain ⟨w30, h29, ew30, hq⟩ := jw_b2_spec hq
            refine jw_callV (As := []) (S := []) (a := a28) (v := none) dX1_doOne_230 mt_X1_goAway in_X1_goAway se_X1_goAway lk_X1_257 (c_X1_goAway ew30) eta28 (by decide) rfl rfl (by decide) (Nat.le_of_ble_eq_true rfl) (by cases eoa28; rfl) ?_
            refine jw_goto (tgt := 320) dX1_doOne_233 (by decide) ?_
            cases hq
            exact jw_vret dX1_doOne_320 rfl
          · rcases jw_if hq with ⟨c31, hq⟩ | ⟨c31, hq⟩
            · refine jw_lookup (off := 304) (tgt := 308) dX1_doOne_4 (by decide) (jw_lks (l := [(60, 116), (62, 116), (97, 137), (99, 183), (100, 225), (101, 304), (105, 160), (106, 243), (114, 286), (115, 116), (117, 250), (118, 232), (122, 116)]) (by rw [lv_osw (a := 60) c2 rfl]; rw [lv_osw (a := 62) c3 rfl]; rw [lv_osw (a := 97) c4 rfl]; rw [lv_osw (a := 99) c14 rfl]; rw [lv_osw (a := 100) c27 rfl]; rw [c31]; rfl)) (by decide) ?_
              refine jw_aload_n dX1_doOne_308 (o := (some x0)) rfl ?_
              obtain ⟨a32, ea32, hq⟩ := Option.bind_eq_some_iff.mp hq
              obtain ⟨eoa32, eta32⟩ := jw_rc_spec ea32
              obtain ⟨w34, h33, ew34, hq⟩ := jw_b2_spec hq
              refine jw_callV (As := []) (S := []) (a := a32) (v := none) dX1_doOne_309 mt_X1_exchange in_X1_exchange se_X1_exchange lk_X1_269 (c_X1_exchange ew34) eta32 (by decide) rfl rfl (by decide) (Nat.le_of_ble_eq_true rfl) (by cases eoa32; rfl) ?_
              refine jw_goto (tgt := 320) dX1_doOne_312 (by decide) ?_
              cases hq
              exact jw_vret dX1_doOne_320 rfl
            · rcases jw_if hq with ⟨c35, hq⟩ | ⟨c35, hq⟩
              · refine jw_lookup (off := 160) (tgt := 164) dX1_doOne_4 (by decide) (jw_lks (l := [(60, 116), (62, 116), (97, 137), (99, 183), (100, 225), (101, 304), (105, 160), (106, 243), (114, 286), (115, 116), (117, 250), (118, 232), (122, 116)]) (by rw [lv_osw (a := 60) c2 rfl]; rw [lv_osw (a := 62) c3 rfl]; rw [lv_osw (a := 97) c4 rfl]; rw [lv_osw (a := 99) c14 rfl]; rw [lv_osw (a := 100) c27 rfl]; rw [lv_osw (a := 101) c31 rfl]; rw [c35]; rfl)) (by decide) ?_
                refine jw_aload_n dX1_doOne_164 (o := (some x0)) rfl ?_
                obtain ⟨v36, ev36, hq⟩ := Option.bind_eq_some_iff.mp hq
                refine jw_getR (o := (some x0)) dX1_doOne_165 ev36 fl_X1_9 rfl ?_
                refine jw_aload_n dX1_doOne_168 (o := x1) rfl ?_
                refine jw_aload_n dX1_doOne_169 (o := (some x0)) rfl ?_
                obtain ⟨v37, ev37, hq⟩ := Option.bind_eq_some_iff.mp hq
                refine jw_getR (o := (some x0)) dX1_doOne_170 ev37 fl_X1_52 rfl ?_
                obtain ⟨a38, ea38, hq⟩ := Option.bind_eq_some_iff.mp hq
                obtain ⟨eoa38, eta38⟩ := jw_rc_spec ea38
                obtain ⟨w40, h39, ew40, hq⟩ := jw_b2_spec hq
                refine jw_callV (As := [va_rf x1, va_rf v37]) (S := []) (a := a38) (v := none) dX1_doOne_173 mt_X6_rowsOf in_X6_rowsOf se_X6_rowsOf lk_X1_250 (c_X6_rowsOf ew40) eta38 (by decide) rfl rfl (by decide) (Nat.le_of_ble_eq_true rfl) (by cases eoa38; rfl) ?_
                refine jw_aload_n dX1_doOne_176 (o := (some x0)) rfl ?_
                refine jw_aload_n dX1_doOne_177 (o := (some x0)) rfl ?_
                obtain ⟨v41, ev41, hq⟩ := Option.bind_eq_some_iff.mp hq
                refine jw_getR (o := (some x0)) dX1_doOne_178 ev41 fl_X1_52 rfl ?_
                obtain ⟨a42, ea42, hq⟩ := Option.bind_eq_some_iff.mp hq
                obtain ⟨eoa42, eta42⟩ := jw_rc_spec ea42
                obtain ⟨w44, h43, ew44, hq⟩ := jw_b2_spec hq
                refine jw_callV (As := [va_rf v41]) (S := []) (a := a42) (v := none) dX1_doOne_181 mt_X1_putNew in_X1_putNew se_X1_putNew lk_X1_160 (c_X1_putNew ew44) eta42 (by decide) rfl rfl (by decide) (Nat.le_of_ble_eq_true rfl) (by cases eoa42; rfl) ?_
                refine jw_goto (tgt := 320) dX1_doOne_184 (by decide) ?_
                cases hq
                exact jw_vret dX1_doOne_320 rfl
              · rcases jw_if hq with ⟨c45, hq⟩ | ⟨c45, hq⟩
                · refine jw_lookup (off := 243) (tgt := 247) dX1_doOne_4 (by decide) (jw_lks (l := [(60, 116), (62, 116), (97, 137), (99, 183), (100, 225), (101, 304), (105, 160), (106, 243), (114, 286), (115, 116), (117, 250), (118, 232), (122, 116)]) (by rw [lv_osw (a := 60) c2 rfl]; rw [lv_osw (a := 62) c3 rfl]; rw [lv_osw (a := 97) c4 rfl]; rw [lv_osw (a := 99) c14 rfl]; rw [lv_osw (a := 100) c27 rfl]; rw [lv_osw (a := 101) c31 rfl]; rw [lv_osw (a := 105) c35 rfl]; rw [c45]; rfl)) (by decide) ?_
                  refine jw_aload_n dX1_doOne_247 (o := (some x0)) rfl ?_
                  obtain ⟨a46, ea46, hq⟩ := Option.bind_eq_some_iff.mp hq
                  obtain ⟨eoa46, eta46⟩ := jw_rc_spec ea46
                  obtain ⟨w48, h47, ew48, hq⟩ := jw_b2_spec hq
                  refine jw_callV (As := []) (S := []) (a := a46) (v := none) dX1_doOne_248 mt_X1_join in_X1_join se_X1_join lk_X1_263 (c_X1_join ew48) eta46 (by decide) rfl rfl (by decide) (Nat.le_of_ble_eq_true rfl) (by cases eoa46; rfl) ?_
                  refine jw_goto (tgt := 320) dX1_doOne_251 (by decide) ?_
                  cases hq
                  exact jw_vret dX1_doOne_320 rfl
                · rcases jw_if hq with ⟨c49, hq⟩ | ⟨c49, hq⟩
                  · refine jw_lookup (off := 286) (tgt := 290) dX1_doOne_4 (by decide) (jw_lks (l := [(60, 116), (62, 116), (97, 137), (99, 183), (100, 225), (101, 304), (105, 160), (106, 243), (114, 286), (115, 116), (117, 250), (118, 232), (122, 116)]) (by rw [lv_osw (a := 60) c2 rfl]; rw [lv_osw (a := 62) c3 rfl]; rw [lv_osw (a := 97) c4 rfl]; rw [lv_osw (a := 99) c14 rfl]; rw [lv_osw (a := 100) c27 rfl]; rw [lv_osw (a := 101) c31 rfl]; rw [lv_osw (a := 105) c35 rfl]; rw [lv_osw (a := 106) c45 rfl]; rw [c49]; rfl)) (by decide) ?_
                    refine jw_aload_n dX1_doOne_290 (o := (some x0)) rfl ?_
                    refine jw_aload_n dX1_doOne_291 (o := (some x0)) rfl ?_
                    obtain ⟨v50, ev50, hq⟩ := Option.bind_eq_some_iff.mp hq
                    refine jw_getR (o := (some x0)) dX1_doOne_292 ev50 fl_X1_19 rfl ?_
                    refine jw_aload_n dX1_doOne_295 (o := x1) rfl ?_
                    obtain ⟨v51, ev51, hq⟩ := Option.bind_eq_some_iff.mp hq
                    refine jw_getI (o := x1) dX1_doOne_296 ev51 fl_X1_130 rfl ?_
                    obtain ⟨a52, ea52, hq⟩ := Option.bind_eq_some_iff.mp hq
                    obtain ⟨eoa52, eta52⟩ := jw_rc_spec ea52
                    obtain ⟨w54, h53, ew54, hq⟩ := jw_b2_spec hq
                    refine jw_callV (As := [.int v51]) (S := [.ref x0]) (a := a52) (v := some (va_rf w54)) dX1_doOne_299 mt_X8_file in_X8_file se_X8_file lk_X1_133 (c_X8_file ew54) eta52 (by decide) rfl rfl (by decide) (Nat.le_of_ble_eq_true rfl) (by cases eoa52; rfl) ?_
                    obtain ⟨a55, ea55, hq⟩ := Option.bind_eq_some_iff.mp hq
                    obtain ⟨eoa55, eta55⟩ := jw_rc_spec ea55
                    obtain ⟨w57, h56, ew57, hq⟩ := jw_b2_spec hq
                    refine jw_callV (As := [va_rf w54]) (S := []) (a := a55) (v := none) dX1_doOne_302 mt_X1_putDue in_X1_putDue se_X1_putDue lk_X1_254 (c_X1_putDue ew57) eta55 (by decide) rfl rfl (by decide) (Nat.le_of_ble_eq_true rfl) (by cases eoa55; rfl) ?_
                    refine jw_goto (tgt := 320) dX1_doOne_305 (by decide) ?_
                    cases hq
                    exact jw_vret dX1_doOne_320 rfl
                  · rcases jw_if hq with ⟨c58, hq⟩ | ⟨c58, hq⟩
                    · refine jw_lookup (off := 116) (tgt := 120) dX1_doOne_4 (by decide) (jw_lks (l := [(60, 116), (62, 116), (97, 137), (99, 183), (100, 225), (101, 304), (105, 160), (106, 243), (114, 286), (115, 116), (117, 250), (118, 232), (122, 116)]) (by rw [lv_osw (a := 60) c2 rfl]; rw [lv_osw (a := 62) c3 rfl]; rw [lv_osw (a := 97) c4 rfl]; rw [lv_osw (a := 99) c14 rfl]; rw [lv_osw (a := 100) c27 rfl]; rw [lv_osw (a := 101) c31 rfl]; rw [lv_osw (a := 105) c35 rfl]; rw [lv_osw (a := 106) c45 rfl]; rw [lv_osw (a := 114) c49 rfl]; rw [c58]; rfl)) (by decide) ?_
                      exact l_X1_doOne_b120  hq
                    · rcases jw_if hq with ⟨c59, hq⟩ | ⟨c59, hq⟩
                      · refine jw_lookup (off := 250) (tgt := 254) dX1_doOne_4 (by decide) (jw_lks (l := [(60, 116), (62, 116), (97, 137), (99, 183), (100, 225), (101, 304), (105, 160), (106, 243), (114, 286), (115, 116), (117, 250), (118, 232), (122, 116)]) (by rw [lv_osw (a := 60) c2 rfl]; rw [lv_osw (a := 62) c3 rfl]; rw [lv_osw (a := 97) c4 rfl]; rw [lv_osw (a := 99) c14 rfl]; rw [lv_osw (a := 100) c27 rfl]; rw [lv_osw (a := 101) c31 rfl]; rw [lv_osw (a := 105) c35 rfl]; rw [lv_osw (a := 106) c45 rfl]; rw [lv_osw (a := 114) c49 rfl]; rw [lv_osw (a := 115) c58 rfl]; rw [c59]; rfl)) (by decide) ?_
                        refine jw_aload_n dX1_doOne_254 (o := (some x0)) rfl ?_
                        refine jw_aload_n dX1_doOne_255 (o := (some x0)) rfl ?_
                        obtain ⟨v60, ev60, hq⟩ := Option.bind_eq_some_iff.mp hq
                        refine jw_getR (o := (some x0)) dX1_doOne_256 ev60 fl_X1_19 rfl ?_
                        obtain ⟨v61, ev61, hq⟩ := Option.bind_eq_some_iff.mp hq
                        refine jw_getR (o := v60) dX1_doOne_259 ev61 fl_X1_266 rfl ?_
                        obtain ⟨v62, ev62, hq⟩ := Option.bind_eq_some_iff.mp hq
                        refine jw_getI (o := v61) dX1_doOne_262 ev62 fl_X1_99 rfl ?_
                        rcases jw_if hq with ⟨c63, hq⟩ | ⟨c63, hq⟩
                        · refine jw_if_ne_f (tgt := 272) dX1_doOne_265 (by decide) c63 ?_
                          refine jw_iconst dX1_doOne_268 (v := (5 : Int32)) (by decide) ?_
                          refine jw_goto (tgt := 273) dX1_doOne_269 (by decide) ?_
                          refine jw_forget [true, false] (L' := [some (.ref x0), none]) rfl ?_
                          exact l_X1_doOne_b273  hq
                        · refine jw_if_ne_t (tgt := 272) dX1_doOne_265 (by decide) c63 ?_
                          refine jw_iconst dX1_doOne_272 (v := (0 : Int32)) (by decide) ?_
                          refine jw_forget [true, false] (L' := [some (.ref x0), none]) rfl ?_
                          exact l_X1_doOne_b273  hq
                      · rcases jw_if hq with ⟨c64, hq⟩ | ⟨c64, hq⟩
                        · refine jw_lookup (off := 232) (tgt := 236) dX1_doOne_4 (by decide) (jw_lks (l := [(60, 116), (62, 116), (97, 137), (99, 183), (100, 225), (101, 304), (105, 160), (106, 243), (114, 286), (115, 116), (117, 250), (118, 232), (122, 116)]) (by rw [lv_osw (a := 60) c2 rfl]; rw [lv_osw (a := 62) c3 rfl]; rw [lv_osw (a := 97) c4 rfl]; rw [lv_osw (a := 99) c14 rfl]; rw [lv_osw (a := 100) c27 rfl]; rw [lv_osw (a := 101) c31 rfl]; rw [lv_osw (a := 105) c35 rfl]; rw [lv_osw (a := 106) c45 rfl]; rw [lv_osw (a := 114) c49 rfl]; rw [lv_osw (a := 115) c58 rfl]; rw [lv_osw (a := 117) c59 rfl]; rw [c64]; rfl)) (by decide) ?_
                          refine jw_aload_n dX1_doOne_236 (o := (some x0)) rfl ?_
                          refine jw_aload_n dX1_doOne_237 (o := x1) rfl ?_
                          obtain ⟨v65, ev65, hq⟩ := Option.bind_eq_some_iff.mp hq
                          refine jw_getI (o := x1) dX1_doOne_238 ev65 fl_X1_130 rfl ?_
                          obtain ⟨a66, ea66, hq⟩ := Option.bind_eq_some_iff.mp hq
                          obtain ⟨eoa66, eta66⟩ := jw_rc_spec ea66
                          obtain ⟨w68, h67, ew68, hq⟩ := jw_b2_spec hq
                          refine jw_callV (As := [.int v65]) (S := []) (a := a66) (v := none) dX1_doOne_241 mt_X1_part in_X1_part se_X1_part lk_X1_260 (c_X1_part ew68) eta66 (by decide) rfl rfl (by decide) (Nat.le_of_ble_eq_true rfl) (by cases eoa66; rfl) ?_
                          refine jw_goto (tgt := 320) dX1_doOne_244 (by decide) ?_
                          cases hq
                          exact jw_vret dX1_doOne_320 rfl
                        · rcases jw_if hq with ⟨c69, hq⟩ | ⟨c69, hq⟩
                          · refine jw_lookup (off := 116) (tgt := 120) dX1_doOne_4 (by decide) (jw_lks (l := [(60, 116), (62, 116), (97, 137), (99, 183), (100, 225), (101, 304), (105, 160), (106, 243), (114, 286), (115, 116), (117, 250), (118, 232), (122, 116)]) (by rw [lv_osw (a := 60) c2 rfl]; rw [lv_osw (a := 62) c3 rfl]; rw [lv_osw (a := 97) c4 rfl]; rw [lv_osw (a := 99) c14 rfl]; rw [lv_osw (a := 100) c27 rfl]; rw [lv_osw (a := 101) c31 rfl]; rw [lv_osw (a := 105) c35 rfl]; rw [lv_osw (a := 106) c45 rfl]; rw [lv_osw (a := 114) c49 rfl]; rw [lv_osw (a := 115) c58 rfl]; rw [lv_osw (a := 117) c59 rfl]; rw [lv_osw (a := 118) c64 rfl]; rw [c69]; rfl)) (by decide) ?_
                            exact l_X1_doOne_b120  hq
                          · refine jw_lookup (off := 311) (tgt := 315) dX1_doOne_4 (by decide) (jw_lks (l := [(60, 116), (62, 116), (97, 137), (99, 183), (100, 225), (101, 304), (105, 160), (106, 243), (114, 286), (115, 116), (117, 250), (118, 232), (122, 116)]) (by rw [lv_osw (a := 60) c2 rfl]; rw [lv_osw (a := 62) c3 rfl]; rw [lv_osw (a := 97) c4 rfl]; rw [lv_osw (a := 99) c14 rfl]; rw [lv_osw (a := 100) c27 rfl]; rw [lv_osw (a := 101) c31 rfl]; rw [lv_osw (a := 105) c35 rfl]; rw [lv_osw (a := 106) c45 rfl]; rw [lv_osw (a := 114) c49 rfl]; rw [lv_osw (a := 115) c58 rfl]; rw [lv_osw (a := 117) c59 rfl]; rw [lv_osw (a := 118) c64 rfl]; rw [lv_osw (a := 122) c69 rfl]; rfl)) (by decide) ?_
                            refine jw_aload_n dX1_doOne_315 (o := (some x0)) rfl ?_
                            refine jw_aload_n dX1_doOne_316 (o := x1) rfl ?_
                            obtain ⟨a70, ea70, hq⟩ := Option.bind_eq_some_iff.mp hq
                            obtain ⟨eoa70, eta70⟩ := jw_rc_spec ea70
                            obtain ⟨w72, h71, ew72, hq⟩ := jw_b2_spec hq
                            refine jw_callV (As := [va_rf x1]) (S := []) (a := a70) (v := none) dX1_doOne_317 mt_X1_tell in_X1_tell se_X1_tell lk_X1_272 (c_X1_tell ew72) eta70 (by decide) rfl rfl (by decide) (Nat.le_of_ble_eq_true rfl) (by cases eoa70; rfl) ?_
                            cases hq
                            exact jw_vret dX1_doOne_320 rfl

theorem c_X1_doOne {h : jw_H} {x0 : Nat} {x1 : Option Nat} {r : Unit} {h' : jw_H} (hq : f_X1_doOne h x0 x1 = some (r, h')) : jw_Con (Cond.code yX1_doOne cX1_doOne 2 none) yX1_doOne 10 [.ref x0, va_rf x1] h (.inl none) h' :=
  jw_con false (plainFor_of_name (by decide +kernel)) (fun z => nomatch z) (by simp [jw_ent, jw_sl0_nil, jw_sl0_int, jw_sl0_long, jw_sl0_ref, jw_sl0_rf, jw_sl0_scr, List.replicate]) (by simp [jw_sl0_nil, jw_sl0_int, jw_sl0_long, jw_sl0_ref, jw_sl0_rf, jw_sl0_scr]) (l_X1_doOne hq)


/-! X1_doOrder -/
noncomputable def g_X1_doOrder_b66 (h : jw_H) (x1 : Int32) (t0 : Nat) (t1 : Int32) : Option (Int32 × jw_H) :=
 (jw_pI h 1 (some t0) 15 t1).bind fun h1 =>
 some (x1, h1)

noncomputable def g_X1_doOrder_b48 (h : jw_H) (x0 : Nat) (x1 : Int32) : Option (Int32 × jw_H) :=
 (jw_gI h 1 (some x0) 14).bind fun v1 =>
 if v1 ≤ (400 : Int32) then (g_X1_doOrder_b66  h x1 x0 (8 : Int32))
 else (g_X1_doOrder_b66  h x1 x0 (7 : Int32))

noncomputable def g_X1_doOrder_b153 (h : jw_H) (t0 : Int32) : Option (Int32 × jw_H) :=
 some (t0, h)

noncomputable def g_X1_doOrder_b138 (h : jw_H) (x1 : Int32) (x2 : Option Nat) (t0 : Int32) : Option (Int32 × jw_H) :=
 if t0 = 0 then ((jw_gI h 5 x2 9).bind fun v2 =>
 g_X1_doOrder_b153  h v2)
 else (g_X1_doOrder_b153  h (x1 + (1 : Int32)))

noncomputable def g_X1_doOrder_b133 (h : jw_H) (x1 : Int32) (x2 : Option Nat) : Option (Int32 × jw_H) :=
 g_X1_doOrder_b138  h x1 x2 (1 : Int32)

noncomputable def g_X1_doOrder_b130 (h : jw_H) (x1 : Int32) (x2 : Option Nat) (t0 : Int32) (t1 : Int32) : Option (Int32 × jw_H) :=
 if t0 = t1 then (g_X1_doOrder_b133  h x1 x2)
 else (g_X1_doOrder_b138  h x1 x2 (0 : Int32))

noncomputable def g_X1_doOrder_b193 (h : jw_H) (t0 : Int32) : Option (Int32 × jw_H) :=
 some (t0, h)

noncomputable def f_X1_doOrder (h : jw_H) (x0 : Nat) (x1 : Int32) : Option (Int32 × jw_H) :=
 (jw_gR h 1 (some x0) 0).bind fun v1 =>
 (jw_rc h 6 v1).bind fun a2 =>
 jw_b2 (f_X6_orderAt h a2 x1) fun w4 h3 =>
 if w4 = none then ((jw_gR h3 1 (some x0) 0).bind fun v48 =>
 (jw_gI h3 6 v48 6).bind fun v49 =>
 some (v49, h3))
 else ((jw_gI h3 1 (some x0) 14).bind fun v6 =>
 (jw_pI h3 1 (some x0) 14 (v6 + (1 : Int32))).bind fun h7 =>
 (jw_gI h7 1 (some x0) 14).bind fun v8 =>
 if (400 : Int32) < v8 then (g_X1_doOrder_b48  h7 x0 x1)
 else ((jw_rc h7 5 w4).bind fun a10 =>
 jw_b2 (f_X5_isNotByLine h7 a10) fun w12 h11 =>
 if w12 = 0 then ((jw_rc h11 1 (some x0)).bind fun a14 =>
 jw_b2 (f_X1_holds h11 a14 w4) fun w16 h15 =>
 if w16 = 0 then ((jw_gI h15 5 w4 9).bind fun v47 =>
 some (v47, h15))
 else ((jw_rc h15 5 w4).bind fun a18 =>
 jw_b2 (f_X5_holdsOthers h15 a18) fun w20 h19 =>
 if w20 = 0 then ((jw_rc h19 5 w4).bind fun a22 =>
 jw_b2 (f_X5_steers h19 a22) fun w24 h23 =>
 if w24 = 0 then ((jw_rc h23 1 (some x0)).bind fun a26 =>
 jw_b2 (f_X1_doOne h23 a26 w4) fun w28 h27 =>
 (jw_gI h27 1 (some x0) 16).bind fun v29 =>
 if v29 = 0 then ((jw_gI h27 5 w4 9).bind fun v31 =>
 g_X1_doOrder_b193  h27 v31)
 else ((jw_gR h27 1 (some x0) 0).bind fun v32 =>
 (jw_gI h27 6 v32 6).bind fun v33 =>
 g_X1_doOrder_b193  h27 v33))
 else ((jw_rc h23 1 (some x0)).bind fun a34 =>
 jw_b2 (f_X1_steer h23 a34 w4) fun w36 h35 =>
 some (w36, h35)))
 else ((jw_gI h19 5 w4 3).bind fun v37 =>
 if v37 = (123 : Int32) then (g_X1_doOrder_b133  h19 x1 w4)
 else ((jw_gR h19 1 (some x0) 4).bind fun v39 =>
 (jw_gR h19 1 (some x0) 7).bind fun v40 =>
 (jw_gI h19 5 w4 6).bind fun v41 =>
 (jw_rc h19 4 v39).bind fun a42 =>
 jw_b2 (f_X4_holds h19 a42 v40 (1 : Int32) v41) fun w44 h43 =>
 (jw_gI h43 5 w4 3).bind fun v45 =>
 if v45 = (103 : Int32) then (g_X1_doOrder_b130  h43 x1 w4 w44 (1 : Int32))
 else (g_X1_doOrder_b130  h43 x1 w4 w44 (0 : Int32))))))
 else (g_X1_doOrder_b48  h11 x0 x1)))

set_option maxRecDepth 100000 in
set_option maxHeartbeats 4000000 in
theorem l_X1_doOrder_b66 {hi : jw_H} {h : jw_H} {x1 : Int32} {t0 : Nat} {t1 : Int32} {r : Int32} {h' : jw_H} (hq : g_X1_doOrder_b66  h x1 t0 t1 = some (r, h')) : jw_E 11 uX1_doOrder hi 66 [none, some (.int x1), none, none] [.int t1, .ref t0] h (.inl (some (.int r))) h' := by
  unfold g_X1_doOrder_b66 at hq
  obtain ⟨h1, eh1, hq⟩ := Option.bind_eq_some_iff.mp hq
  refine jw_putI (o := (some t0)) dX1_doOrder_66 eh1 fl_X1_65 rfl rfl ?_
  refine jw_iload_n dX1_doOrder_69 rfl ?_
  cases hq
  exact jw_iret (ty := .int) dX1_doOrder_70 rfl rfl

set_option maxRecDepth 100000 in
set_option maxHeartbeats 4000000 in
theorem l_X1_doOrder_b48 {hi : jw_H} {h : jw_H} {x0 : Nat} {x1 : Int32} {r : Int32} {h' : jw_H} (hq : g_X1_doOrder_b48  h x0 x1 = some (r, h')) : jw_E 11 uX1_doOrder hi 48 [some (.ref x0), some (.int x1), none, none] [] h (.inl (some (.int r))) h' := by
  unfold g_X1_doOrder_b48 at hq
  refine jw_aload_n dX1_doOrder_48 (o := (some x0)) rfl ?_
  refine jw_aload_n dX1_doOrder_49 (o := (some x0)) rfl ?_
  obtain ⟨v1, ev1, hq⟩ := Option.bind_eq_some_iff.mp hq
  refine jw_getI (o := (some x0)) dX1_doOrder_50 ev1 fl_X1_109 rfl ?_
  refine jw_sipush dX1_doOrder_53 (v := (400 : Int32)) (by decide) ?_
  rcases jw_if hq with ⟨c2, hq⟩ | ⟨c2, hq⟩
  · refine jw_icmp_le_t (tgt := 64) dX1_doOrder_56 (by decide) c2 ?_
    refine jw_bipush dX1_doOrder_64 (v := (8 : Int32)) (by decide) ?_
    refine jw_forget [false, true, true, true] (L' := [none, some (.int x1), none, none]) rfl ?_
    exact l_X1_doOrder_b66  hq
  · refine jw_icmp_le_f (tgt := 64) dX1_doOrder_56 (by decide) c2 ?_
    refine jw_bipush dX1_doOrder_59 (v := (7 : Int32)) (by decide) ?_
    refine jw_goto (tgt := 66) dX1_doOrder_61 (by decide) ?_
    refine jw_forget [false, true, true, true] (L' := [none, some (.int x1), none, none]) rfl ?_
    exact l_X1_doOrder_b66  hq

set_option maxRecDepth 100000 in
set_option maxHeartbeats 4000000 in
theorem l_X1_doOrder_b153 {hi : jw_H} {h : jw_H} {t0 : Int32} {r : Int32} {h' : jw_H} (hq : g_X1_doOrder_b153  h t0 = some (r, h')) : jw_E 11 uX1_doOrder hi 153 [none, none, none, none] [.int t0] h (.inl (some (.int r))) h' := by
  unfold g_X1_doOrder_b153 at hq
  cases hq
  exact jw_iret (ty := .int) dX1_doOrder_153 rfl rfl

set_option maxRecDepth 100000 in
set_option maxHeartbeats 4000000 in
theorem l_X1_doOrder_b138 {hi : jw_H} {h : jw_H} {x1 : Int32} {x2 : Option Nat} {t0 : Int32} {r : Int32} {h' : jw_H} (hq : g_X1_doOrder_b138  h x1 x2 t0 = some (r, h')) : jw_E 11 uX1_doOrder hi 138 [none, some (.int x1), some (va_rf x2), none] [.int t0] h (.inl (some (.int r))) h' := by
  unfold g_X1_doOrder_b138 at hq
  refine jw_istore_n (L' := [none, some (.int x1), some (va_rf x2), some (.int t0)]) dX1_doOrder_138 (Nat.le_of_ble_eq_true rfl) ((jw_st1_of (j := 2) jw_long_rf).trans rfl) ?_
  refine jw_iload_n dX1_doOrder_139 rfl ?_
  rcases jw_if hq with ⟨c1, hq⟩ | ⟨c1, hq⟩
  · refine jw_if_eq_t (tgt := 149) dX1_doOrder_140 (by decide) c1 ?_
    refine jw_aload_n dX1_doOrder_149 (o := x2) rfl ?_
    obtain ⟨v2, ev2, hq⟩ := Option.bind_eq_some_iff.mp hq
    refine jw_getI (o := x2) dX1_doOrder_150 ev2 fl_X1_172 rfl ?_
    refine jw_forget [true, false, false, false] (L' := [none, none, none, none]) rfl ?_
    exact l_X1_doOrder_b153  hq
  · refine jw_if_eq_f (tgt := 149) dX1_doOrder_140 (by decide) c1 ?_
    refine jw_iload_n dX1_doOrder_143 rfl ?_
    refine jw_iconst dX1_doOrder_144 (v := (1 : Int32)) (by decide) ?_
    refine jw_iadd dX1_doOrder_145 ?_
    refine jw_goto (tgt := 153) dX1_doOrder_146 (by decide) ?_
    refine jw_forget [true, false, false, false] (L' := [none, none, none, none]) rfl ?_
    exact l_X1_doOrder_b153  hq

set_option maxRecDepth 100000 in
set_option maxHeartbeats 4000000 in
theorem l_X1_doOrder_b133 {hi : jw_H} {h : jw_H} {x1 : Int32} {x2 : Option Nat} {r : Int32} {h' : jw_H} (hq : g_X1_doOrder_b133  h x1 x2 = some (r, h')) : jw_E 11 uX1_doOrder hi 133 [none, some (.int x1), some (va_rf x2), none] [] h (.inl (some (.int r))) h' := by
  unfold g_X1_doOrder_b133 at hq
  refine jw_iconst dX1_doOrder_133 (v := (1 : Int32)) (by decide) ?_
  refine jw_goto (tgt := 138) dX1_doOrder_134 (by decide) ?_
  exact l_X1_doOrder_b138  hq

set_option maxRecDepth 100000 in
set_option maxHeartbeats 4000000 in
theorem l_X1_doOrder_b130 {hi : jw_H} {h : jw_H} {x1 : Int32} {x2 : Option Nat} {t0 : Int32} {t1 : Int32} {r : Int32} {h' : jw_H} (hq : g_X1_doOrder_b130  h x1 x2 t0 t1 = some (r, h')) : jw_E 11 uX1_doOrder hi 130 [none, some (.int x1), some (va_rf x2), none] [.int t1, .int t0] h (.inl (some (.int r))) h' := by
  unfold g_X1_doOrder_b130 at hq
  rcases jw_if hq with ⟨c1, hq⟩ | ⟨c1, hq⟩
  · refine jw_icmp_ne_f (tgt := 137) dX1_doOrder_130 (by decide) c1 ?_
    exact l_X1_doOrder_b133  hq
  · refine jw_icmp_ne_t (tgt := 137) dX1_doOrder_130 (by decide) c1 ?_
    refine jw_iconst dX1_doOrder_137 (v := (0 : Int32)) (by decide) ?_
    exact l_X1_doOrder_b138  hq

set_option maxRecDepth 100000 in
set_option maxHeartbeats 4000000 in
theorem l_X1_doOrder_b193 {hi : jw_H} {h : jw_H} {t0 : Int32} {r : Int32} {h' : jw_H} (hq : g_X1_doOrder_b193  h t0 = some (r, h')) : jw_E 11 uX1_doOrder hi 193 [none, none, none, none] [.int t0] h (.inl (some (.int r))) h' := by
  unfold g_X1_doOrder_b193 at hq
  cases hq
  exact jw_iret (ty := .int) dX1_doOrder_193 rfl rfl

set_option maxRecDepth 100000 in
set_option maxHeartbeats 4000000 in
theorem l_X1_doOrder {hi : jw_H} {h : jw_H} {x0 : Nat} {x1 : Int32} {r : Int32} {h' : jw_H} (hq : f_X1_doOrder  h x0 x1 = some (r, h')) : jw_E 11 uX1_doOrder hi 0 [some (.ref x0), some (.int x1), none, none] [] h (.inl (some (.int r))) h' := by
  unfold f_X1_doOrder at hq
  refine jw_aload_n dX1_doOrder_0 (o := (some x0)) rfl ?_
  obtain ⟨v1, ev1, hq⟩ := Option.bind_eq_some_iff.mp hq
  refine jw_getR (o := (some x0)) dX1_doOrder_1 ev1 fl_X1_9 rfl ?_
  refine jw_iload_n dX1_doOrder_4 rfl ?_
  obtain ⟨a2, ea2, hq⟩ := Option.bind_eq_some_iff.mp hq
  obtain ⟨eoa2, eta2⟩ := jw_rc_spec ea2
  obtain ⟨w4, h3, ew4, hq⟩ := jw_b2_spec hq
  refine jw_callV (As := [.int x1]) (S := []) (a := a2) (v := some (va_rf w4)) dX1_doOrder_5 mt_X6_orderAt in_X6_orderAt se_X6_orderAt lk_X1_121 (c_X6_orderAt ew4) eta2 (by decide) rfl rfl (by decide) (Nat.le_of_ble_eq_true rfl) (by cases eoa2; rfl) ?_
  refine jw_astore_n (o := w4) (L' := [some (.ref x0), some (.int x1), some (va_rf w4), none]) dX1_doOrder_8 (Nat.le_of_ble_eq_true rfl) rfl ?_
  refine jw_aload_n dX1_doOrder_9 (o := w4) rfl ?_
  rcases jw_if hq with ⟨c5, hq⟩ | ⟨c5, hq⟩
  · refine jw_ifnonnull_f (o := w4) dX1_doOrder_10 c5 ?_
    refine jw_aload_n dX1_doOrder_13 (o := (some x0)) rfl ?_
    obtain ⟨v48, ev48, hq⟩ := Option.bind_eq_some_iff.mp hq
    refine jw_getR (o := (some x0)) dX1_doOrder_14 ev48 fl_X1_9 rfl ?_
    obtain ⟨v49, ev49, hq⟩ := Option.bind_eq_some_iff.mp hq
    refine jw_getI (o := v48) dX1_doOrder_17 ev49 fl_X1_72 rfl ?_
    cases hq
    exact jw_iret (ty := .int) dX1_doOrder_20 rfl rfl
  · refine jw_ifnonnull_t (o := w4) (tgt := 21) dX1_doOrder_10 (by decide) c5 ?_
    refine jw_aload_n dX1_doOrder_21 (o := (some x0)) rfl ?_
    refine jw_dup dX1_doOrder_22 rfl ?_
    obtain ⟨v6, ev6, hq⟩ := Option.bind_eq_some_iff.mp hq
    refine jw_getI (o := (some x0)) dX1_doOrder_23 ev6 fl_X1_109 rfl ?_
    refine jw_iconst dX1_doOrder_26 (v := (1 : Int32)) (by decide) ?_
    refine jw_iadd dX1_doOrder_27 ?_
    obtain ⟨h7, eh7, hq⟩ := Option.bind_eq_some_iff.mp hq
    refine jw_putI (o := (some x0)) dX1_doOrder_28 eh7 fl_X1_109 rfl rfl ?_
    refine jw_aload_n dX1_doOrder_31 (o := (some x0)) rfl ?_
    obtain ⟨v8, ev8, hq⟩ := Option.bind_eq_some_iff.mp hq
    refine jw_getI (o := (some x0)) dX1_doOrder_32 ev8 fl_X1_109 rfl ?_
    refine jw_sipush dX1_doOrder_35 (v := (400 : Int32)) (by decide) ?_
    rcases jw_if hq with ⟨c9, hq⟩ | ⟨c9, hq⟩
    · refine jw_icmp_gt_t (tgt := 48) dX1_doOrder_38 (by decide) c9 ?_
      refine jw_forget [true, true, false, true] (L' := [some (.ref x0), some (.int x1), none, none]) rfl ?_
      exact l_X1_doOrder_b48  hq
    · refine jw_icmp_gt_f (tgt := 48) dX1_doOrder_38 (by decide) c9 ?_
      refine jw_aload_n dX1_doOrder_41 (o := w4) rfl ?_
      obtain ⟨a10, ea10, hq⟩ := Option.bind_eq_some_iff.mp hq
      obtain ⟨eoa10, eta10⟩ := jw_rc_spec ea10
      obtain ⟨w12, h11, ew12, hq⟩ := jw_b2_spec hq
      refine jw_callV (As := []) (S := []) (a := a10) (v := some (.int w12)) dX1_doOrder_42 mt_X5_isNotByLine in_X5_isNotByLine se_X5_isNotByLine lk_X1_164 (c_X5_isNotByLine ew12) eta10 (by decide) rfl rfl (by decide) (Nat.le_of_ble_eq_true rfl) (by cases eoa10; rfl) ?_
      rcases jw_if hq with ⟨c13, hq⟩ | ⟨c13, hq⟩
      · refine jw_if_eq_t (tgt := 71) dX1_doOrder_45 (by decide) c13 ?_
        refine jw_aload_n dX1_doOrder_71 (o := (some x0)) rfl ?_
        refine jw_aload_n dX1_doOrder_72 (o := w4) rfl ?_
        obtain ⟨a14, ea14, hq⟩ := Option.bind_eq_some_iff.mp hq
        obtain ⟨eoa14, eta14⟩ := jw_rc_spec ea14
        obtain ⟨w16, h15, ew16, hq⟩ := jw_b2_spec hq
        refine jw_callV (As := [va_rf w4]) (S := []) (a := a14) (v := some (.int w16)) dX1_doOrder_73 mt_X1_holds in_X1_holds se_X1_holds lk_X1_168 (c_X1_holds ew16) eta14 (by decide) rfl rfl (by decide) (Nat.le_of_ble_eq_true rfl) (by cases eoa14; rfl) ?_
        rcases jw_if hq with ⟨c17, hq⟩ | ⟨c17, hq⟩
        · refine jw_if_ne_f (tgt := 84) dX1_doOrder_76 (by decide) c17 ?_
          refine jw_aload_n dX1_doOrder_79 (o := w4) rfl ?_
          obtain ⟨v47, ev47, hq⟩ := Option.bind_eq_some_iff.mp hq
          refine jw_getI (o := w4) dX1_doOrder_80 ev47 fl_X1_172 rfl ?_
          cases hq
          exact jw_iret (ty := .int) dX1_doOrder_83 rfl rfl
        · refine jw_if_ne_t (tgt := 84) dX1_doOrder_76 (by decide) c17 ?_
          refine jw_aload_n dX1_doOrder_84 (o := w4) rfl ?_
          obtain ⟨a18, ea18, hq⟩ := Option.bind_eq_some_iff.mp hq
          obtain ⟨eoa18, eta18⟩ := jw_rc_spec ea18
          obtain ⟨w20, h19, ew20, hq⟩ := jw_b2_spec hq
          refine jw_callV (As := []) (S := []) (a := a18) (v := some (.int w20)) dX1_doOrder_85 mt_X5_holdsOthers in_X5_holdsOthers se_X5_holdsOthers lk_X1_175 (c_X5_holdsOthers ew20) eta18 (by decide) rfl rfl (by decide) (Nat.le_of_ble_eq_true rfl) (by cases eoa18; rfl) ?_
          rcases jw_if hq with ⟨c21, hq⟩ | ⟨c21, hq⟩
          · refine jw_if_eq_t (tgt := 154) dX1_doOrder_88 (by decide) c21 ?_
            refine jw_aload_n dX1_doOrder_154 (o := w4) rfl ?_
            obtain ⟨a22, ea22, hq⟩ := Option.bind_eq_some_iff.mp hq
            obtain ⟨eoa22, eta22⟩ := jw_rc_spec ea22
            obtain ⟨w24, h23, ew24, hq⟩ := jw_b2_spec hq
            refine jw_callV (As := []) (S := []) (a := a22) (v := some (.int w24)) dX1_doOrder_155 mt_X5_steers in_X5_steers se_X5_steers lk_X1_185 (c_X5_steers ew24) eta22 (by decide) rfl rfl (by decide) (Nat.le_of_ble_eq_true rfl) (by cases eoa22; rfl) ?_
            rcases jw_if hq with ⟨c25, hq⟩ | ⟨c25, hq⟩
            · refine jw_if_eq_t (tgt := 167) dX1_doOrder_158 (by decide) c25 ?_
              refine jw_aload_n dX1_doOrder_167 (o := (some x0)) rfl ?_
              refine jw_aload_n dX1_doOrder_168 (o := w4) rfl ?_
              obtain ⟨a26, ea26, hq⟩ := Option.bind_eq_some_iff.mp hq
              obtain ⟨eoa26, eta26⟩ := jw_rc_spec ea26
              obtain ⟨w28, h27, ew28, hq⟩ := jw_b2_spec hq
              refine jw_callV (As := [va_rf w4]) (S := []) (a := a26) (v := none) dX1_doOrder_169 mt_X1_doOne in_X1_doOne se_X1_doOne lk_X1_192 (c_X1_doOne ew28) eta26 (by decide) rfl rfl (by decide) (Nat.le_of_ble_eq_true rfl) (by cases eoa26; rfl) ?_
              refine jw_aload_n dX1_doOrder_172 (o := (some x0)) rfl ?_
              obtain ⟨v29, ev29, hq⟩ := Option.bind_eq_some_iff.mp hq
              refine jw_getI (o := (some x0)) dX1_doOrder_173 ev29 fl_X1_148 rfl ?_
              rcases jw_if hq with ⟨c30, hq⟩ | ⟨c30, hq⟩
              · refine jw_if_eq_t (tgt := 189) dX1_doOrder_176 (by decide) c30 ?_
                refine jw_aload_n dX1_doOrder_189 (o := w4) rfl ?_
                obtain ⟨v31, ev31, hq⟩ := Option.bind_eq_some_iff.mp hq
                refine jw_getI (o := w4) dX1_doOrder_190 ev31 fl_X1_172 rfl ?_
                refine jw_forget [false, false, false, true] (L' := [none, none, none, none]) rfl ?_
                exact l_X1_doOrder_b193  hq
              · refine jw_if_eq_f (tgt := 189) dX1_doOrder_176 (by decide) c30 ?_
                refine jw_aload_n dX1_doOrder_179 (o := (some x0)) rfl ?_
                obtain ⟨v32, ev32, hq⟩ := Option.bind_eq_some_iff.mp hq
                refine jw_getR (o := (some x0)) dX1_doOrder_180 ev32 fl_X1_9 rfl ?_
                obtain ⟨v33, ev33, hq⟩ := Option.bind_eq_some_iff.mp hq
                refine jw_getI (o := v32) dX1_doOrder_183 ev33 fl_X1_72 rfl ?_
                refine jw_goto (tgt := 193) dX1_doOrder_186 (by decide) ?_
                refine jw_forget [false, false, false, true] (L' := [none, none, none, none]) rfl ?_
                exact l_X1_doOrder_b193  hq
            · refine jw_if_eq_f (tgt := 167) dX1_doOrder_158 (by decide) c25 ?_
              refine jw_aload_n dX1_doOrder_161 (o := (some x0)) rfl ?_
              refine jw_aload_n dX1_doOrder_162 (o := w4) rfl ?_
              obtain ⟨a34, ea34, hq⟩ := Option.bind_eq_some_iff.mp hq
              obtain ⟨eoa34, eta34⟩ := jw_rc_spec ea34
              obtain ⟨w36, h35, ew36, hq⟩ := jw_b2_spec hq
              refine jw_callV (As := [va_rf w4]) (S := []) (a := a34) (v := some (.int w36)) dX1_doOrder_163 mt_X1_steer in_X1_steer se_X1_steer lk_X1_188 (c_X1_steer ew36) eta34 (by decide) rfl rfl (by decide) (Nat.le_of_ble_eq_true rfl) (by cases eoa34; rfl) ?_
              cases hq
              exact jw_iret (ty := .int) dX1_doOrder_166 rfl rfl
          · refine jw_if_eq_f (tgt := 154) dX1_doOrder_88 (by decide) c21 ?_
            refine jw_aload_n dX1_doOrder_91 (o := w4) rfl ?_
            obtain ⟨v37, ev37, hq⟩ := Option.bind_eq_some_iff.mp hq
            refine jw_getI (o := w4) dX1_doOrder_92 ev37 fl_X1_125 rfl ?_
            refine jw_bipush dX1_doOrder_95 (v := (123 : Int32)) (by decide) ?_
            rcases jw_if hq with ⟨c38, hq⟩ | ⟨c38, hq⟩
            · refine jw_icmp_eq_t (tgt := 133) dX1_doOrder_97 (by decide) c38 ?_
              refine jw_forget [false, true, true, true] (L' := [none, some (.int x1), some (va_rf w4), none]) rfl ?_
              exact l_X1_doOrder_b133  hq
            · refine jw_icmp_eq_f (tgt := 133) dX1_doOrder_97 (by decide) c38 ?_
              refine jw_aload_n dX1_doOrder_100 (o := (some x0)) rfl ?_
              obtain ⟨v39, ev39, hq⟩ := Option.bind_eq_some_iff.mp hq
              refine jw_getR (o := (some x0)) dX1_doOrder_101 ev39 fl_X1_26 rfl ?_
              refine jw_aload_n dX1_doOrder_104 (o := (some x0)) rfl ?_
              obtain ⟨v40, ev40, hq⟩ := Option.bind_eq_some_iff.mp hq
              refine jw_getR (o := (some x0)) dX1_doOrder_105 ev40 fl_X1_45 rfl ?_
              refine jw_iconst dX1_doOrder_108 (v := (1 : Int32)) (by decide) ?_
              refine jw_aload_n dX1_doOrder_109 (o := w4) rfl ?_
              obtain ⟨v41, ev41, hq⟩ := Option.bind_eq_some_iff.mp hq
              refine jw_getI (o := w4) dX1_doOrder_110 ev41 fl_X1_178 rfl ?_
              obtain ⟨a42, ea42, hq⟩ := Option.bind_eq_some_iff.mp hq
              obtain ⟨eoa42, eta42⟩ := jw_rc_spec ea42
              obtain ⟨w44, h43, ew44, hq⟩ := jw_b2_spec hq
              refine jw_callV (As := [va_rf v40, .int (1 : Int32), .int v41]) (S := []) (a := a42) (v := some (.int w44)) dX1_doOrder_113 mt_X4_holds in_X4_holds se_X4_holds lk_X1_181 (c_X4_holds ew44) eta42 (by decide) rfl rfl (by decide) (Nat.le_of_ble_eq_true rfl) (by cases eoa42; rfl) ?_
              refine jw_aload_n dX1_doOrder_116 (o := w4) rfl ?_
              obtain ⟨v45, ev45, hq⟩ := Option.bind_eq_some_iff.mp hq
              refine jw_getI (o := w4) dX1_doOrder_117 ev45 fl_X1_125 rfl ?_
              refine jw_bipush dX1_doOrder_120 (v := (103 : Int32)) (by decide) ?_
              rcases jw_if hq with ⟨c46, hq⟩ | ⟨c46, hq⟩
              · refine jw_icmp_ne_f (tgt := 129) dX1_doOrder_122 (by decide) c46 ?_
                refine jw_iconst dX1_doOrder_125 (v := (1 : Int32)) (by decide) ?_
                refine jw_goto (tgt := 130) dX1_doOrder_126 (by decide) ?_
                refine jw_forget [false, true, true, true] (L' := [none, some (.int x1), some (va_rf w4), none]) rfl ?_
                exact l_X1_doOrder_b130  hq
              · refine jw_icmp_ne_t (tgt := 129) dX1_doOrder_122 (by decide) c46 ?_
                refine jw_iconst dX1_doOrder_129 (v := (0 : Int32)) (by decide) ?_
                refine jw_forget [false, true, true, true] (L' := [none, some (.int x1), some (va_rf w4), none]) rfl ?_
                exact l_X1_doOrder_b130  hq
      · refine jw_if_eq_f (tgt := 71) dX1_doOrder_45 (by decide) c13 ?_
        refine jw_forget [true, true, false, true] (L' := [some (.ref x0), some (.int x1), none, none]) rfl ?_
        exact l_X1_doOrder_b48  hq

theorem c_X1_doOrder {h : jw_H} {x0 : Nat} {x1 : Int32} {r : Int32} {h' : jw_H} (hq : f_X1_doOrder h x0 x1 = some (r, h')) : jw_Con (Cond.code yX1_doOrder cX1_doOrder 4 (some .int)) yX1_doOrder 11 [.ref x0, .int x1] h (.inl (some (.int r))) h' :=
  jw_con false (plainFor_of_name (by decide +kernel)) (fun z => nomatch z) (by simp [jw_ent, jw_sl0_nil, jw_sl0_int, jw_sl0_long, jw_sl0_ref, jw_sl0_rf, jw_sl0_scr, List.replicate]) (by simp [jw_sl0_nil, jw_sl0_int, jw_sl0_long, jw_sl0_ref, jw_sl0_rf, jw_sl0_scr]) (l_X1_doOrder hq)


/-! X1_finishWork -/
noncomputable def g_X1_finishWork_b32 (h : jw_H) (x0 : Nat) : Option (Unit × jw_H) :=
 (jw_gR h 1 (some x0) 8).bind fun v1 =>
 (jw_rc h 1 (some x0)).bind fun a2 =>
 jw_b2 (f_X1_putNew h a2 v1) fun w4 h3 =>
 some ((), h3)

noncomputable def f_X1_finishWork (h : jw_H) (x0 : Nat) : Option (Unit × jw_H) :=
 (jw_gI h 1 (some x0) 16).bind fun v1 =>
 if v1 = 0 then ((jw_gR h 1 (some x0) 6).bind fun v3 =>
 (jw_gR h 1 (some x0) 7).bind fun v4 =>
 (jw_gI h 1 (some x0) 10).bind fun v5 =>
 (jw_rc h 9 v3).bind fun a6 =>
 jw_b2 (f_X9_append h a6 v4 (1 : Int32) v5) fun w8 h7 =>
 if w8 = 0 then ((jw_pI h7 1 (some x0) 15 (4 : Int32)).bind fun h10 =>
 some ((), h10))
 else (g_X1_finishWork_b32  h7 x0))
 else (g_X1_finishWork_b32  h x0)

set_option maxRecDepth 100000 in
set_option maxHeartbeats 4000000 in
theorem l_X1_finishWork_b32 {hi : jw_H} {h : jw_H} {x0 : Nat} {r : Unit} {h' : jw_H} (hq : g_X1_finishWork_b32  h x0 = some (r, h')) : jw_E 5 uX1_finishWork hi 32 [some (.ref x0)] [] h (.inl none) h' := by
  unfold g_X1_finishWork_b32 at hq
  refine jw_aload_n dX1_finishWork_32 (o := (some x0)) rfl ?_
  refine jw_aload_n dX1_finishWork_33 (o := (some x0)) rfl ?_
  obtain ⟨v1, ev1, hq⟩ := Option.bind_eq_some_iff.mp hq
  refine jw_getR (o := (some x0)) dX1_finishWork_34 ev1 fl_X1_49 rfl ?_
  obtain ⟨a2, ea2, hq⟩ := Option.bind_eq_some_iff.mp hq
  obtain ⟨eoa2, eta2⟩ := jw_rc_spec ea2
  obtain ⟨w4, h3, ew4, hq⟩ := jw_b2_spec hq
  refine jw_callV (As := [va_rf v1]) (S := []) (a := a2) (v := none) dX1_finishWork_37 mt_X1_putNew in_X1_putNew se_X1_putNew lk_X1_160 (c_X1_putNew ew4) eta2 (by decide) rfl rfl (by decide) (Nat.le_of_ble_eq_true rfl) (by cases eoa2; rfl) ?_
  cases hq
  exact jw_vret dX1_finishWork_40 rfl

set_option maxRecDepth 100000 in
set_option maxHeartbeats 4000000 in
theorem l_X1_finishWork {hi : jw_H} {h : jw_H} {x0 : Nat} {r : Unit} {h' : jw_H} (hq : f_X1_finishWork  h x0 = some (r, h')) : jw_E 5 uX1_finishWork hi 0 [some (.ref x0)] [] h (.inl none) h' := by
  unfold f_X1_finishWork at hq
  refine jw_aload_n dX1_finishWork_0 (o := (some x0)) rfl ?_
  obtain ⟨v1, ev1, hq⟩ := Option.bind_eq_some_iff.mp hq
  refine jw_getI (o := (some x0)) dX1_finishWork_1 ev1 fl_X1_148 rfl ?_
  rcases jw_if hq with ⟨c2, hq⟩ | ⟨c2, hq⟩
  · refine jw_if_ne_f (tgt := 32) dX1_finishWork_4 (by decide) c2 ?_
    refine jw_aload_n dX1_finishWork_7 (o := (some x0)) rfl ?_
    obtain ⟨v3, ev3, hq⟩ := Option.bind_eq_some_iff.mp hq
    refine jw_getR (o := (some x0)) dX1_finishWork_8 ev3 fl_X1_37 rfl ?_
    refine jw_aload_n dX1_finishWork_11 (o := (some x0)) rfl ?_
    obtain ⟨v4, ev4, hq⟩ := Option.bind_eq_some_iff.mp hq
    refine jw_getR (o := (some x0)) dX1_finishWork_12 ev4 fl_X1_45 rfl ?_
    refine jw_iconst dX1_finishWork_15 (v := (1 : Int32)) (by decide) ?_
    refine jw_aload_n dX1_finishWork_16 (o := (some x0)) rfl ?_
    obtain ⟨v5, ev5, hq⟩ := Option.bind_eq_some_iff.mp hq
    refine jw_getI (o := (some x0)) dX1_finishWork_17 ev5 fl_X1_141 rfl ?_
    obtain ⟨a6, ea6, hq⟩ := Option.bind_eq_some_iff.mp hq
    obtain ⟨eoa6, eta6⟩ := jw_rc_spec ea6
    obtain ⟨w8, h7, ew8, hq⟩ := jw_b2_spec hq
    refine jw_callV (As := [va_rf v4, .int (1 : Int32), .int v5]) (S := []) (a := a6) (v := some (.int w8)) dX1_finishWork_20 mt_X9_append in_X9_append se_X9_append lk_X1_156 (c_X9_append ew8) eta6 (by decide) rfl rfl (by decide) (Nat.le_of_ble_eq_true rfl) (by cases eoa6; rfl) ?_
    rcases jw_if hq with ⟨c9, hq⟩ | ⟨c9, hq⟩
    · refine jw_if_ne_f (tgt := 32) dX1_finishWork_23 (by decide) c9 ?_
      refine jw_aload_n dX1_finishWork_26 (o := (some x0)) rfl ?_
      refine jw_iconst dX1_finishWork_27 (v := (4 : Int32)) (by decide) ?_
      obtain ⟨h10, eh10, hq⟩ := Option.bind_eq_some_iff.mp hq
      refine jw_putI (o := (some x0)) dX1_finishWork_28 eh10 fl_X1_65 rfl rfl ?_
      cases hq
      exact jw_vret dX1_finishWork_31 rfl
    · refine jw_if_ne_t (tgt := 32) dX1_finishWork_23 (by decide) c9 ?_
      exact l_X1_finishWork_b32  hq
  · refine jw_if_ne_t (tgt := 32) dX1_finishWork_4 (by decide) c2 ?_
    exact l_X1_finishWork_b32  hq

theorem c_X1_finishWork {h : jw_H} {x0 : Nat} {r : Unit} {h' : jw_H} (hq : f_X1_finishWork h x0 = some (r, h')) : jw_Con (Cond.code yX1_finishWork cX1_finishWork 1 none) yX1_finishWork 5 [.ref x0] h (.inl none) h' :=
  jw_con false (plainFor_of_name (by decide +kernel)) (fun z => nomatch z) (by simp [jw_ent, jw_sl0_nil, jw_sl0_int, jw_sl0_long, jw_sl0_ref, jw_sl0_rf, jw_sl0_scr, List.replicate]) (by simp [jw_sl0_nil, jw_sl0_int, jw_sl0_long, jw_sl0_ref, jw_sl0_rf, jw_sl0_scr]) (l_X1_finishWork hq)


/-! X1_putRest -/
noncomputable def g_X1_putRest_b59 (k7 : jw_H → Nat → Int32 → Option (Unit × jw_H)) (h : jw_H) (x0 : Nat) (x1 : Int32) : Option (Unit × jw_H) :=
 k7 h x0 (x1 + (1 : Int32))

noncomputable def g_X1_putRest_b7 (k7 : jw_H → Nat → Int32 → Option (Unit × jw_H)) (h : jw_H) (x0 : Nat) (x1 : Int32) : Option (Unit × jw_H) :=
 (jw_gR h 1 (some x0) 1).bind fun v1 =>
 (jw_gR h 9 v1 0).bind fun v2 =>
 (jw_gI h 7 v2 2).bind fun v3 =>
 if v3 < x1 then (some ((), h))
 else ((jw_gI h 1 (some x0) 15).bind fun v5 =>
 if v5 = 0 then ((jw_gR h 1 (some x0) 6).bind fun v7 =>
 (jw_gR h 1 (some x0) 1).bind fun v8 =>
 (jw_gR h 9 v8 0).bind fun v9 =>
 (jw_gR h 1 (some x0) 1).bind fun v10 =>
 (jw_rc h 9 v10).bind fun a11 =>
 jw_b2 (f_X9_idOf h a11 x1) fun w13 h12 =>
 (jw_rc h12 9 v7).bind fun a14 =>
 jw_b2 (f_X9_append h12 a14 v9 x1 w13) fun w16 h15 =>
 if w16 = 0 then ((jw_pI h15 1 (some x0) 15 (4 : Int32)).bind fun h18 =>
 g_X1_putRest_b59 k7 h18 x0 x1)
 else (g_X1_putRest_b59 k7 h15 x0 x1))
 else (some ((), h)))

noncomputable def f_X1_putRest_b7 (n : Nat) : jw_H → Nat → Int32 → Option (Unit × jw_H) :=
 Nat.rec (fun _ _ _ => none) (fun _ k7 => g_X1_putRest_b7 k7) n

noncomputable def f_X1_putRest (h : jw_H) (x0 : Nat) : Option (Unit × jw_H) :=
 (jw_gI h 1 (some x0) 12).bind fun v1 =>
 f_X1_putRest_b7  jw_FU h x0 (v1 + (1 : Int32))

set_option maxRecDepth 100000 in
set_option maxHeartbeats 4000000 in
theorem l_X1_putRest_b59 {hi : jw_H} {k7 : jw_H → Nat → Int32 → Option (Unit × jw_H)} (hk7 : ∀ (h : jw_H) (x0 : Nat) (x1 : Int32) (r : Unit) (h' : jw_H), k7 h x0 x1 = some (r, h') → jw_E 4 uX1_putRest hi 7 [some (.ref x0), some (.int x1)] [] h (.inl none) h') {h : jw_H} {x0 : Nat} {x1 : Int32} {r : Unit} {h' : jw_H} (hq : g_X1_putRest_b59 k7 h x0 x1 = some (r, h')) : jw_E 4 uX1_putRest hi 59 [some (.ref x0), some (.int x1)] [] h (.inl none) h' := by
  unfold g_X1_putRest_b59 at hq
  refine jw_iinc (L' := [some (.ref x0), some (.int (x1 + (1 : Int32)))]) dX1_putRest_59 rfl (v := (1 : Int32)) (by decide) (Nat.le_of_ble_eq_true rfl) rfl ?_
  refine jw_goto (tgt := 7) dX1_putRest_62 (by decide) ?_
  exact hk7 _ _ _ _ _ hq

set_option maxRecDepth 100000 in
set_option maxHeartbeats 4000000 in
theorem l_X1_putRest_b7g {hi : jw_H} {k7 : jw_H → Nat → Int32 → Option (Unit × jw_H)} (hk7 : ∀ (h : jw_H) (x0 : Nat) (x1 : Int32) (r : Unit) (h' : jw_H), k7 h x0 x1 = some (r, h') → jw_E 4 uX1_putRest hi 7 [some (.ref x0), some (.int x1)] [] h (.inl none) h') {h : jw_H} {x0 : Nat} {x1 : Int32} {r : Unit} {h' : jw_H} (hq : g_X1_putRest_b7 k7 h x0 x1 = some (r, h')) : jw_E 4 uX1_putRest hi 7 [some (.ref x0), some (.int x1)] [] h (.inl none) h' := by
  unfold g_X1_putRest_b7 at hq
  refine jw_iload_n dX1_putRest_7 rfl ?_
  refine jw_aload_n dX1_putRest_8 (o := (some x0)) rfl ?_
  obtain ⟨v1, ev1, hq⟩ := Option.bind_eq_some_iff.mp hq
  refine jw_getR (o := (some x0)) dX1_putRest_9 ev1 fl_X1_15 rfl ?_
  obtain ⟨v2, ev2, hq⟩ := Option.bind_eq_some_iff.mp hq
  refine jw_getR (o := v1) dX1_putRest_12 ev2 fl_X1_96 rfl ?_
  obtain ⟨v3, ev3, hq⟩ := Option.bind_eq_some_iff.mp hq
  refine jw_getI (o := v2) dX1_putRest_15 ev3 fl_X1_99 rfl ?_
  rcases jw_if hq with ⟨c4, hq⟩ | ⟨c4, hq⟩
  · refine jw_icmp_gt_t (tgt := 65) dX1_putRest_18 (by decide) c4 ?_
    cases hq
    exact jw_vret dX1_putRest_65 rfl
  · refine jw_icmp_gt_f (tgt := 65) dX1_putRest_18 (by decide) c4 ?_
    refine jw_aload_n dX1_putRest_21 (o := (some x0)) rfl ?_
    obtain ⟨v5, ev5, hq⟩ := Option.bind_eq_some_iff.mp hq
    refine jw_getI (o := (some x0)) dX1_putRest_22 ev5 fl_X1_65 rfl ?_
    rcases jw_if hq with ⟨c6, hq⟩ | ⟨c6, hq⟩
    · refine jw_if_ne_f (tgt := 65) dX1_putRest_25 (by decide) c6 ?_
      refine jw_aload_n dX1_putRest_28 (o := (some x0)) rfl ?_
      obtain ⟨v7, ev7, hq⟩ := Option.bind_eq_some_iff.mp hq
      refine jw_getR (o := (some x0)) dX1_putRest_29 ev7 fl_X1_37 rfl ?_
      refine jw_aload_n dX1_putRest_32 (o := (some x0)) rfl ?_
      obtain ⟨v8, ev8, hq⟩ := Option.bind_eq_some_iff.mp hq
      refine jw_getR (o := (some x0)) dX1_putRest_33 ev8 fl_X1_15 rfl ?_
      obtain ⟨v9, ev9, hq⟩ := Option.bind_eq_some_iff.mp hq
      refine jw_getR (o := v8) dX1_putRest_36 ev9 fl_X1_96 rfl ?_
      refine jw_iload_n dX1_putRest_39 rfl ?_
      refine jw_aload_n dX1_putRest_40 (o := (some x0)) rfl ?_
      obtain ⟨v10, ev10, hq⟩ := Option.bind_eq_some_iff.mp hq
      refine jw_getR (o := (some x0)) dX1_putRest_41 ev10 fl_X1_15 rfl ?_
      refine jw_iload_n dX1_putRest_44 rfl ?_
      obtain ⟨a11, ea11, hq⟩ := Option.bind_eq_some_iff.mp hq
      obtain ⟨eoa11, eta11⟩ := jw_rc_spec ea11
      obtain ⟨w13, h12, ew13, hq⟩ := jw_b2_spec hq
      refine jw_callV (As := [.int x1]) (S := [.int x1, va_rf v9, va_rf v7]) (a := a11) (v := some (.int w13)) dX1_putRest_45 mt_X9_idOf in_X9_idOf se_X9_idOf lk_X1_138 (c_X9_idOf ew13) eta11 (by decide) rfl rfl (by decide) (by simp only [List.map_cons, List.map_nil, List.sum_cons, List.sum_nil, jw_cat_rf, jw_cat_i, jw_cat_l, jw_cat_a, jw_cat_s] <;> decide) (by cases eoa11; rfl) ?_
      obtain ⟨a14, ea14, hq⟩ := Option.bind_eq_some_iff.mp hq
      obtain ⟨eoa14, eta14⟩ := jw_rc_spec ea14
      obtain ⟨w16, h15, ew16, hq⟩ := jw_b2_spec hq
      refine jw_callV (As := [va_rf v9, .int x1, .int w13]) (S := []) (a := a14) (v := some (.int w16)) dX1_putRest_48 mt_X9_append in_X9_append se_X9_append lk_X1_156 (c_X9_append ew16) eta14 (by decide) rfl rfl (by decide) (Nat.le_of_ble_eq_true rfl) (by cases eoa14; rfl) ?_
      rcases jw_if hq with ⟨c17, hq⟩ | ⟨c17, hq⟩
      · refine jw_if_ne_f (tgt := 59) dX1_putRest_51 (by decide) c17 ?_
        refine jw_aload_n dX1_putRest_54 (o := (some x0)) rfl ?_
        refine jw_iconst dX1_putRest_55 (v := (4 : Int32)) (by decide) ?_
        obtain ⟨h18, eh18, hq⟩ := Option.bind_eq_some_iff.mp hq
        refine jw_putI (o := (some x0)) dX1_putRest_56 eh18 fl_X1_65 rfl rfl ?_
        exact l_X1_putRest_b59 hk7 hq
      · refine jw_if_ne_t (tgt := 59) dX1_putRest_51 (by decide) c17 ?_
        exact l_X1_putRest_b59 hk7 hq
    · refine jw_if_ne_t (tgt := 65) dX1_putRest_25 (by decide) c6 ?_
      cases hq
      exact jw_vret dX1_putRest_65 rfl

theorem l_X1_putRest_b7 {hi : jw_H} : ∀ (n : Nat) (h : jw_H) (x0 : Nat) (x1 : Int32) (r : Unit) (h' : jw_H), f_X1_putRest_b7  n h x0 x1 = some (r, h') → jw_E 4 uX1_putRest hi 7 [some (.ref x0), some (.int x1)] [] h (.inl none) h' := by
  intro n
  induction n with
  | zero => intro h x0 x1 r h' hq; exact nomatch hq
  | succ n ih => intro h x0 x1 r h' hq; exact l_X1_putRest_b7g ih hq

set_option maxRecDepth 100000 in
set_option maxHeartbeats 4000000 in
theorem l_X1_putRest {hi : jw_H} {h : jw_H} {x0 : Nat} {r : Unit} {h' : jw_H} (hq : f_X1_putRest  h x0 = some (r, h')) : jw_E 4 uX1_putRest hi 0 [some (.ref x0), none] [] h (.inl none) h' := by
  unfold f_X1_putRest at hq
  refine jw_aload_n dX1_putRest_0 (o := (some x0)) rfl ?_
  obtain ⟨v1, ev1, hq⟩ := Option.bind_eq_some_iff.mp hq
  refine jw_getI (o := (some x0)) dX1_putRest_1 ev1 fl_X1_115 rfl ?_
  refine jw_iconst dX1_putRest_4 (v := (1 : Int32)) (by decide) ?_
  refine jw_iadd dX1_putRest_5 ?_
  refine jw_istore_n (L' := [some (.ref x0), some (.int (v1 + (1 : Int32)))]) dX1_putRest_6 (Nat.le_of_ble_eq_true rfl) rfl ?_
  exact l_X1_putRest_b7  jw_FU _ _ _ _ _ hq

theorem c_X1_putRest {h : jw_H} {x0 : Nat} {r : Unit} {h' : jw_H} (hq : f_X1_putRest h x0 = some (r, h')) : jw_Con (Cond.code yX1_putRest cX1_putRest 2 none) yX1_putRest 4 [.ref x0] h (.inl none) h' :=
  jw_con false (plainFor_of_name (by decide +kernel)) (fun z => nomatch z) (by simp [jw_ent, jw_sl0_nil, jw_sl0_int, jw_sl0_long, jw_sl0_ref, jw_sl0_rf, jw_sl0_scr, List.replicate]) (by simp [jw_sl0_nil, jw_sl0_int, jw_sl0_long, jw_sl0_ref, jw_sl0_rf, jw_sl0_scr]) (l_X1_putRest hq)


/-! X1_perform -/
noncomputable def g_X1_perform_b104 (k12 : jw_H → Nat → Int32 → Int32 → Option (Int32 × jw_H)) (h : jw_H) (x0 : Nat) (x1 : Int32) (x2 : Int32) : Option (Int32 × jw_H) :=
 k12 h x0 x1 (x2 + (1 : Int32))

noncomputable def g_X1_perform_b110 (h : jw_H) (x0 : Nat) : Option (Int32 × jw_H) :=
 (jw_gI h 1 (some x0) 15).bind fun v1 =>
 if v1 = 0 then ((jw_gR h 1 (some x0) 6).bind fun v3 =>
 (jw_gR h 1 (some x0) 6).bind fun v4 =>
 (jw_gR h 9 v4 0).bind fun v5 =>
 (jw_gI h 7 v5 2).bind fun v6 =>
 (jw_pI h 9 v3 3 v6).bind fun h7 =>
 (jw_gR h7 1 (some x0) 1).bind fun v8 =>
 (jw_gR h7 1 (some x0) 6).bind fun v9 =>
 (jw_rc h7 9 v8).bind fun a10 =>
 jw_b2 (f_X9_copy h7 a10 v9) fun w12 h11 =>
 (jw_gR h11 1 (some x0) 1).bind fun v13 =>
 (jw_gR h11 1 (some x0) 6).bind fun v14 =>
 (jw_gI h11 9 v14 4).bind fun v15 =>
 (jw_pI h11 9 v13 4 v15).bind fun h16 =>
 (jw_gI h16 1 (some x0) 14).bind fun v17 =>
 some (v17, h16))
 else ((jw_gR h 1 (some x0) 2).bind fun v18 =>
 (jw_gR h 1 (some x0) 3).bind fun v19 =>
 (jw_rc h 8 v18).bind fun a20 =>
 jw_b2 (f_X8_copy h a20 v19) fun w22 h21 =>
 some ((-1 : Int32), h21))

noncomputable def g_X1_perform_b98 (k12 : jw_H → Nat → Int32 → Int32 → Option (Int32 × jw_H)) (h : jw_H) (x0 : Nat) (x2 : Int32) (t0 : Int32) : Option (Int32 × jw_H) :=
 (jw_pB h 1 (some x0) 18 (0 : Int32)).bind fun h1 =>
 g_X1_perform_b104 k12 h1 x0 t0 x2

noncomputable def g_X1_perform_b64 (k12 : jw_H → Nat → Int32 → Int32 → Option (Int32 × jw_H)) (h : jw_H) (x0 : Nat) (x1 : Int32) (x2 : Int32) : Option (Int32 × jw_H) :=
 (jw_rc h 1 (some x0)).bind fun a1 =>
 jw_b2 (f_X1_finishWork h a1) fun w3 h2 =>
 (jw_gI h2 1 (some x0) 19).bind fun v4 =>
 if v4 = 0 then ((jw_rc h2 1 (some x0)).bind fun a6 =>
 jw_b2 (f_X1_takeNext h2 a6) fun w8 h7 =>
 (jw_gI h7 1 (some x0) 18).bind fun v9 =>
 if v9 = 0 then (g_X1_perform_b98 k12 h7 x0 x2 (0 : Int32))
 else (g_X1_perform_b98 k12 h7 x0 x2 x1))
 else ((jw_rc h2 1 (some x0)).bind fun a11 =>
 jw_b2 (f_X1_putRest h2 a11) fun w13 h12 =>
 g_X1_perform_b110  h12 x0)

noncomputable def g_X1_perform_b12 (k12 : jw_H → Nat → Int32 → Int32 → Option (Int32 × jw_H)) (h : jw_H) (x0 : Nat) (x1 : Int32) (x2 : Int32) : Option (Int32 × jw_H) :=
 if (440 : Int32) < x2 then (g_X1_perform_b110  h x0)
 else ((jw_gI h 1 (some x0) 17).bind fun v2 =>
 if v2 = 0 then (g_X1_perform_b110  h x0)
 else ((jw_gI h 1 (some x0) 15).bind fun v4 =>
 if v4 = 0 then ((jw_gI h 1 (some x0) 18).bind fun v6 =>
 if v6 = 0 then (if x1 < 0 then (g_X1_perform_b64 k12 h x0 x1 x2)
 else ((jw_gR h 1 (some x0) 0).bind fun v9 =>
 (jw_gI h 6 v9 6).bind fun v10 =>
 if v10 ≤ x1 then (g_X1_perform_b64 k12 h x0 x1 x2)
 else ((jw_rc h 1 (some x0)).bind fun a12 =>
 jw_b2 (f_X1_doOrder h a12 x1) fun w14 h13 =>
 g_X1_perform_b104 k12 h13 x0 w14 x2)))
 else (g_X1_perform_b64 k12 h x0 x1 x2))
 else (g_X1_perform_b110  h x0)))

noncomputable def f_X1_perform_b12 (n : Nat) : jw_H → Nat → Int32 → Int32 → Option (Int32 × jw_H) :=
 Nat.rec (fun _ _ _ _ => none) (fun _ k12 => g_X1_perform_b12 k12) n

noncomputable def f_X1_perform (h : jw_H) (x0 : Nat) : Option (Int32 × jw_H) :=
 (jw_rc h 1 (some x0)).bind fun a1 =>
 jw_b2 (f_X1_begin h a1) fun w3 h2 =>
 (jw_rc h2 1 (some x0)).bind fun a4 =>
 jw_b2 (f_X1_takeNext h2 a4) fun w6 h5 =>
 f_X1_perform_b12  jw_FU h5 x0 (0 : Int32) (0 : Int32)

set_option maxRecDepth 100000 in
set_option maxHeartbeats 4000000 in
theorem l_X1_perform_b104 {hi : jw_H} {k12 : jw_H → Nat → Int32 → Int32 → Option (Int32 × jw_H)} (hk12 : ∀ (h : jw_H) (x0 : Nat) (x1 : Int32) (x2 : Int32) (r : Int32) (h' : jw_H), k12 h x0 x1 x2 = some (r, h') → jw_E 12 uX1_perform hi 12 [some (.ref x0), some (.int x1), some (.int x2)] [] h (.inl (some (.int r))) h') {h : jw_H} {x0 : Nat} {x1 : Int32} {x2 : Int32} {r : Int32} {h' : jw_H} (hq : g_X1_perform_b104 k12 h x0 x1 x2 = some (r, h')) : jw_E 12 uX1_perform hi 104 [some (.ref x0), some (.int x1), some (.int x2)] [] h (.inl (some (.int r))) h' := by
  unfold g_X1_perform_b104 at hq
  refine jw_iinc (L' := [some (.ref x0), some (.int x1), some (.int (x2 + (1 : Int32)))]) dX1_perform_104 rfl (v := (1 : Int32)) (by decide) (Nat.le_of_ble_eq_true rfl) rfl ?_
  refine jw_goto (tgt := 12) dX1_perform_107 (by decide) ?_
  exact hk12 _ _ _ _ _ _ hq

set_option maxRecDepth 100000 in
set_option maxHeartbeats 4000000 in
theorem l_X1_perform_b110 {hi : jw_H} {h : jw_H} {x0 : Nat} {r : Int32} {h' : jw_H} (hq : g_X1_perform_b110  h x0 = some (r, h')) : jw_E 12 uX1_perform hi 110 [some (.ref x0), none, none] [] h (.inl (some (.int r))) h' := by
  unfold g_X1_perform_b110 at hq
  refine jw_aload_n dX1_perform_110 (o := (some x0)) rfl ?_
  obtain ⟨v1, ev1, hq⟩ := Option.bind_eq_some_iff.mp hq
  refine jw_getI (o := (some x0)) dX1_perform_111 ev1 fl_X1_65 rfl ?_
  rcases jw_if hq with ⟨c2, hq⟩ | ⟨c2, hq⟩
  · refine jw_if_eq_t (tgt := 130) dX1_perform_114 (by decide) c2 ?_
    refine jw_aload_n dX1_perform_130 (o := (some x0)) rfl ?_
    obtain ⟨v3, ev3, hq⟩ := Option.bind_eq_some_iff.mp hq
    refine jw_getR (o := (some x0)) dX1_perform_131 ev3 fl_X1_37 rfl ?_
    refine jw_aload_n dX1_perform_134 (o := (some x0)) rfl ?_
    obtain ⟨v4, ev4, hq⟩ := Option.bind_eq_some_iff.mp hq
    refine jw_getR (o := (some x0)) dX1_perform_135 ev4 fl_X1_37 rfl ?_
    obtain ⟨v5, ev5, hq⟩ := Option.bind_eq_some_iff.mp hq
    refine jw_getR (o := v4) dX1_perform_138 ev5 fl_X1_96 rfl ?_
    obtain ⟨v6, ev6, hq⟩ := Option.bind_eq_some_iff.mp hq
    refine jw_getI (o := v5) dX1_perform_141 ev6 fl_X1_99 rfl ?_
    obtain ⟨h7, eh7, hq⟩ := Option.bind_eq_some_iff.mp hq
    refine jw_putI (o := v3) dX1_perform_144 eh7 fl_X1_100 rfl rfl ?_
    refine jw_aload_n dX1_perform_147 (o := (some x0)) rfl ?_
    obtain ⟨v8, ev8, hq⟩ := Option.bind_eq_some_iff.mp hq
    refine jw_getR (o := (some x0)) dX1_perform_148 ev8 fl_X1_15 rfl ?_
    refine jw_aload_n dX1_perform_151 (o := (some x0)) rfl ?_
    obtain ⟨v9, ev9, hq⟩ := Option.bind_eq_some_iff.mp hq
    refine jw_getR (o := (some x0)) dX1_perform_152 ev9 fl_X1_37 rfl ?_
    obtain ⟨a10, ea10, hq⟩ := Option.bind_eq_some_iff.mp hq
    obtain ⟨eoa10, eta10⟩ := jw_rc_spec ea10
    obtain ⟨w12, h11, ew12, hq⟩ := jw_b2_spec hq
    refine jw_callV (As := [va_rf v9]) (S := []) (a := a10) (v := none) dX1_perform_155 mt_X9_copy in_X9_copy se_X9_copy lk_X1_103 (c_X9_copy ew12) eta10 (by decide) rfl rfl (by decide) (Nat.le_of_ble_eq_true rfl) (by cases eoa10; rfl) ?_
    refine jw_aload_n dX1_perform_158 (o := (some x0)) rfl ?_
    obtain ⟨v13, ev13, hq⟩ := Option.bind_eq_some_iff.mp hq
    refine jw_getR (o := (some x0)) dX1_perform_159 ev13 fl_X1_15 rfl ?_
    refine jw_aload_n dX1_perform_162 (o := (some x0)) rfl ?_
    obtain ⟨v14, ev14, hq⟩ := Option.bind_eq_some_iff.mp hq
    refine jw_getR (o := (some x0)) dX1_perform_163 ev14 fl_X1_37 rfl ?_
    obtain ⟨v15, ev15, hq⟩ := Option.bind_eq_some_iff.mp hq
    refine jw_getI (o := v14) dX1_perform_166 ev15 fl_X1_106 rfl ?_
    obtain ⟨h16, eh16, hq⟩ := Option.bind_eq_some_iff.mp hq
    refine jw_putI (o := v13) dX1_perform_169 eh16 fl_X1_106 rfl rfl ?_
    refine jw_aload_n dX1_perform_172 (o := (some x0)) rfl ?_
    obtain ⟨v17, ev17, hq⟩ := Option.bind_eq_some_iff.mp hq
    refine jw_getI (o := (some x0)) dX1_perform_173 ev17 fl_X1_109 rfl ?_
    cases hq
    exact jw_iret (ty := .int) dX1_perform_176 rfl rfl
  · refine jw_if_eq_f (tgt := 130) dX1_perform_114 (by decide) c2 ?_
    refine jw_aload_n dX1_perform_117 (o := (some x0)) rfl ?_
    obtain ⟨v18, ev18, hq⟩ := Option.bind_eq_some_iff.mp hq
    refine jw_getR (o := (some x0)) dX1_perform_118 ev18 fl_X1_19 rfl ?_
    refine jw_aload_n dX1_perform_121 (o := (some x0)) rfl ?_
    obtain ⟨v19, ev19, hq⟩ := Option.bind_eq_some_iff.mp hq
    refine jw_getR (o := (some x0)) dX1_perform_122 ev19 fl_X1_23 rfl ?_
    obtain ⟨a20, ea20, hq⟩ := Option.bind_eq_some_iff.mp hq
    obtain ⟨eoa20, eta20⟩ := jw_rc_spec ea20
    obtain ⟨w22, h21, ew22, hq⟩ := jw_b2_spec hq
    refine jw_callV (As := [va_rf v19]) (S := []) (a := a20) (v := none) dX1_perform_125 mt_X8_copy in_X8_copy se_X8_copy lk_X1_90 (c_X8_copy ew22) eta20 (by decide) rfl rfl (by decide) (Nat.le_of_ble_eq_true rfl) (by cases eoa20; rfl) ?_
    refine jw_iconst dX1_perform_128 (v := (-1 : Int32)) (by decide) ?_
    cases hq
    exact jw_iret (ty := .int) dX1_perform_129 rfl rfl

set_option maxRecDepth 100000 in
set_option maxHeartbeats 4000000 in
theorem l_X1_perform_b98 {hi : jw_H} {k12 : jw_H → Nat → Int32 → Int32 → Option (Int32 × jw_H)} (hk12 : ∀ (h : jw_H) (x0 : Nat) (x1 : Int32) (x2 : Int32) (r : Int32) (h' : jw_H), k12 h x0 x1 x2 = some (r, h') → jw_E 12 uX1_perform hi 12 [some (.ref x0), some (.int x1), some (.int x2)] [] h (.inl (some (.int r))) h') {h : jw_H} {x0 : Nat} {x2 : Int32} {t0 : Int32} {r : Int32} {h' : jw_H} (hq : g_X1_perform_b98 k12 h x0 x2 t0 = some (r, h')) : jw_E 12 uX1_perform hi 98 [some (.ref x0), none, some (.int x2)] [.int t0] h (.inl (some (.int r))) h' := by
  unfold g_X1_perform_b98 at hq
  refine jw_istore_n (L' := [some (.ref x0), some (.int t0), some (.int x2)]) dX1_perform_98 (Nat.le_of_ble_eq_true rfl) rfl ?_
  refine jw_aload_n dX1_perform_99 (o := (some x0)) rfl ?_
  refine jw_iconst dX1_perform_100 (v := (0 : Int32)) (by decide) ?_
  obtain ⟨h1, eh1, hq⟩ := Option.bind_eq_some_iff.mp hq
  refine jw_putB (o := (some x0)) dX1_perform_101 eh1 fl_X1_69 rfl rfl ?_
  exact l_X1_perform_b104 hk12 hq

set_option maxRecDepth 100000 in
set_option maxHeartbeats 4000000 in
theorem l_X1_perform_b64 {hi : jw_H} {k12 : jw_H → Nat → Int32 → Int32 → Option (Int32 × jw_H)} (hk12 : ∀ (h : jw_H) (x0 : Nat) (x1 : Int32) (x2 : Int32) (r : Int32) (h' : jw_H), k12 h x0 x1 x2 = some (r, h') → jw_E 12 uX1_perform hi 12 [some (.ref x0), some (.int x1), some (.int x2)] [] h (.inl (some (.int r))) h') {h : jw_H} {x0 : Nat} {x1 : Int32} {x2 : Int32} {r : Int32} {h' : jw_H} (hq : g_X1_perform_b64 k12 h x0 x1 x2 = some (r, h')) : jw_E 12 uX1_perform hi 64 [some (.ref x0), some (.int x1), some (.int x2)] [] h (.inl (some (.int r))) h' := by
  unfold g_X1_perform_b64 at hq
  refine jw_aload_n dX1_perform_64 (o := (some x0)) rfl ?_
  obtain ⟨a1, ea1, hq⟩ := Option.bind_eq_some_iff.mp hq
  obtain ⟨eoa1, eta1⟩ := jw_rc_spec ea1
  obtain ⟨w3, h2, ew3, hq⟩ := jw_b2_spec hq
  refine jw_callV (As := []) (S := []) (a := a1) (v := none) dX1_perform_65 mt_X1_finishWork in_X1_finishWork se_X1_finishWork lk_X1_81 (c_X1_finishWork ew3) eta1 (by decide) rfl rfl (by decide) (Nat.le_of_ble_eq_true rfl) (by cases eoa1; rfl) ?_
  refine jw_aload_n dX1_perform_68 (o := (some x0)) rfl ?_
  obtain ⟨v4, ev4, hq⟩ := Option.bind_eq_some_iff.mp hq
  refine jw_getI (o := (some x0)) dX1_perform_69 ev4 fl_X1_84 rfl ?_
  rcases jw_if hq with ⟨c5, hq⟩ | ⟨c5, hq⟩
  · refine jw_if_eq_t (tgt := 82) dX1_perform_72 (by decide) c5 ?_
    refine jw_aload_n dX1_perform_82 (o := (some x0)) rfl ?_
    obtain ⟨a6, ea6, hq⟩ := Option.bind_eq_some_iff.mp hq
    obtain ⟨eoa6, eta6⟩ := jw_rc_spec ea6
    obtain ⟨w8, h7, ew8, hq⟩ := jw_b2_spec hq
    refine jw_callV (As := []) (S := []) (a := a6) (v := none) dX1_perform_83 mt_X1_takeNext in_X1_takeNext se_X1_takeNext lk_X1_58 (c_X1_takeNext ew8) eta6 (by decide) rfl rfl (by decide) (Nat.le_of_ble_eq_true rfl) (by cases eoa6; rfl) ?_
    refine jw_aload_n dX1_perform_86 (o := (some x0)) rfl ?_
    obtain ⟨v9, ev9, hq⟩ := Option.bind_eq_some_iff.mp hq
    refine jw_getI (o := (some x0)) dX1_perform_87 ev9 fl_X1_69 rfl ?_
    rcases jw_if hq with ⟨c10, hq⟩ | ⟨c10, hq⟩
    · refine jw_if_eq_t (tgt := 97) dX1_perform_90 (by decide) c10 ?_
      refine jw_iconst dX1_perform_97 (v := (0 : Int32)) (by decide) ?_
      refine jw_forget [true, false, true] (L' := [some (.ref x0), none, some (.int x2)]) rfl ?_
      exact l_X1_perform_b98 hk12 hq
    · refine jw_if_eq_f (tgt := 97) dX1_perform_90 (by decide) c10 ?_
      refine jw_iload_n dX1_perform_93 rfl ?_
      refine jw_goto (tgt := 98) dX1_perform_94 (by decide) ?_
      refine jw_forget [true, false, true] (L' := [some (.ref x0), none, some (.int x2)]) rfl ?_
      exact l_X1_perform_b98 hk12 hq
  · refine jw_if_eq_f (tgt := 82) dX1_perform_72 (by decide) c5 ?_
    refine jw_aload_n dX1_perform_75 (o := (some x0)) rfl ?_
    obtain ⟨a11, ea11, hq⟩ := Option.bind_eq_some_iff.mp hq
    obtain ⟨eoa11, eta11⟩ := jw_rc_spec ea11
    obtain ⟨w13, h12, ew13, hq⟩ := jw_b2_spec hq
    refine jw_callV (As := []) (S := []) (a := a11) (v := none) dX1_perform_76 mt_X1_putRest in_X1_putRest se_X1_putRest lk_X1_87 (c_X1_putRest ew13) eta11 (by decide) rfl rfl (by decide) (Nat.le_of_ble_eq_true rfl) (by cases eoa11; rfl) ?_
    refine jw_goto (tgt := 110) dX1_perform_79 (by decide) ?_
    refine jw_forget [true, false, false] (L' := [some (.ref x0), none, none]) rfl ?_
    exact l_X1_perform_b110  hq

set_option maxRecDepth 100000 in
set_option maxHeartbeats 4000000 in
theorem l_X1_perform_b12g {hi : jw_H} {k12 : jw_H → Nat → Int32 → Int32 → Option (Int32 × jw_H)} (hk12 : ∀ (h : jw_H) (x0 : Nat) (x1 : Int32) (x2 : Int32) (r : Int32) (h' : jw_H), k12 h x0 x1 x2 = some (r, h') → jw_E 12 uX1_perform hi 12 [some (.ref x0), some (.int x1), some (.int x2)] [] h (.inl (some (.int r))) h') {h : jw_H} {x0 : Nat} {x1 : Int32} {x2 : Int32} {r : Int32} {h' : jw_H} (hq : g_X1_perform_b12 k12 h x0 x1 x2 = some (r, h')) : jw_E 12 uX1_perform hi 12 [some (.ref x0), some (.int x1), some (.int x2)] [] h (.inl (some (.int r))) h' := by
  unfold g_X1_perform_b12 at hq
  refine jw_iload_n dX1_perform_12 rfl ?_
  refine jw_sipush dX1_perform_13 (v := (440 : Int32)) (by decide) ?_
  rcases jw_if hq with ⟨c1, hq⟩ | ⟨c1, hq⟩
  · refine jw_icmp_gt_t (tgt := 110) dX1_perform_16 (by decide) c1 ?_
    refine jw_forget [true, false, false] (L' := [some (.ref x0), none, none]) rfl ?_
    exact l_X1_perform_b110  hq
  · refine jw_icmp_gt_f (tgt := 110) dX1_perform_16 (by decide) c1 ?_
    refine jw_aload_n dX1_perform_19 (o := (some x0)) rfl ?_
    obtain ⟨v2, ev2, hq⟩ := Option.bind_eq_some_iff.mp hq
    refine jw_getI (o := (some x0)) dX1_perform_20 ev2 fl_X1_61 rfl ?_
    rcases jw_if hq with ⟨c3, hq⟩ | ⟨c3, hq⟩
    · refine jw_if_eq_t (tgt := 110) dX1_perform_23 (by decide) c3 ?_
      refine jw_forget [true, false, false] (L' := [some (.ref x0), none, none]) rfl ?_
      exact l_X1_perform_b110  hq
    · refine jw_if_eq_f (tgt := 110) dX1_perform_23 (by decide) c3 ?_
      refine jw_aload_n dX1_perform_26 (o := (some x0)) rfl ?_
      obtain ⟨v4, ev4, hq⟩ := Option.bind_eq_some_iff.mp hq
      refine jw_getI (o := (some x0)) dX1_perform_27 ev4 fl_X1_65 rfl ?_
      rcases jw_if hq with ⟨c5, hq⟩ | ⟨c5, hq⟩
      · refine jw_if_ne_f (tgt := 110) dX1_perform_30 (by decide) c5 ?_
        refine jw_aload_n dX1_perform_33 (o := (some x0)) rfl ?_
        obtain ⟨v6, ev6, hq⟩ := Option.bind_eq_some_iff.mp hq
        refine jw_getI (o := (some x0)) dX1_perform_34 ev6 fl_X1_69 rfl ?_
        rcases jw_if hq with ⟨c7, hq⟩ | ⟨c7, hq⟩
        · refine jw_if_ne_f (tgt := 64) dX1_perform_37 (by decide) c7 ?_
          refine jw_iload_n dX1_perform_40 rfl ?_
          rcases jw_if hq with ⟨c8, hq⟩ | ⟨c8, hq⟩
          · refine jw_if_lt_t (tgt := 64) dX1_perform_41 (by decide) c8 ?_
            exact l_X1_perform_b64 hk12 hq
          · refine jw_if_lt_f (tgt := 64) dX1_perform_41 (by decide) c8 ?_
            refine jw_iload_n dX1_perform_44 rfl ?_
            refine jw_aload_n dX1_perform_45 (o := (some x0)) rfl ?_
            obtain ⟨v9, ev9, hq⟩ := Option.bind_eq_some_iff.mp hq
            refine jw_getR (o := (some x0)) dX1_perform_46 ev9 fl_X1_9 rfl ?_
            obtain ⟨v10, ev10, hq⟩ := Option.bind_eq_some_iff.mp hq
            refine jw_getI (o := v9) dX1_perform_49 ev10 fl_X1_72 rfl ?_
            rcases jw_if hq with ⟨c11, hq⟩ | ⟨c11, hq⟩
            · refine jw_icmp_ge_t (tgt := 64) dX1_perform_52 (by decide) c11 ?_
              exact l_X1_perform_b64 hk12 hq
            · refine jw_icmp_ge_f (tgt := 64) dX1_perform_52 (by decide) c11 ?_
              refine jw_aload_n dX1_perform_55 (o := (some x0)) rfl ?_
              refine jw_iload_n dX1_perform_56 rfl ?_
              obtain ⟨a12, ea12, hq⟩ := Option.bind_eq_some_iff.mp hq
              obtain ⟨eoa12, eta12⟩ := jw_rc_spec ea12
              obtain ⟨w14, h13, ew14, hq⟩ := jw_b2_spec hq
              refine jw_callV (As := [.int x1]) (S := []) (a := a12) (v := some (.int w14)) dX1_perform_57 mt_X1_doOrder in_X1_doOrder se_X1_doOrder lk_X1_77 (c_X1_doOrder ew14) eta12 (by decide) rfl rfl (by decide) (Nat.le_of_ble_eq_true rfl) (by cases eoa12; rfl) ?_
              refine jw_istore_n (L' := [some (.ref x0), some (.int w14), some (.int x2)]) dX1_perform_60 (Nat.le_of_ble_eq_true rfl) rfl ?_
              refine jw_goto (tgt := 104) dX1_perform_61 (by decide) ?_
              exact l_X1_perform_b104 hk12 hq
        · refine jw_if_ne_t (tgt := 64) dX1_perform_37 (by decide) c7 ?_
          exact l_X1_perform_b64 hk12 hq
      · refine jw_if_ne_t (tgt := 110) dX1_perform_30 (by decide) c5 ?_
        refine jw_forget [true, false, false] (L' := [some (.ref x0), none, none]) rfl ?_
        exact l_X1_perform_b110  hq

theorem l_X1_perform_b12 {hi : jw_H} : ∀ (n : Nat) (h : jw_H) (x0 : Nat) (x1 : Int32) (x2 : Int32) (r : Int32) (h' : jw_H), f_X1_perform_b12  n h x0 x1 x2 = some (r, h') → jw_E 12 uX1_perform hi 12 [some (.ref x0), some (.int x1), some (.int x2)] [] h (.inl (some (.int r))) h' := by
  intro n
  induction n with
  | zero => intro h x0 x1 x2 r h' hq; exact nomatch hq
  | succ n ih => intro h x0 x1 x2 r h' hq; exact l_X1_perform_b12g ih hq

set_option maxRecDepth 100000 in
set_option maxHeartbeats 4000000 in
theorem l_X1_perform {hi : jw_H} {h : jw_H} {x0 : Nat} {r : Int32} {h' : jw_H} (hq : f_X1_perform  h x0 = some (r, h')) : jw_E 12 uX1_perform hi 0 [some (.ref x0), none, none] [] h (.inl (some (.int r))) h' := by
  unfold f_X1_perform at hq
  refine jw_aload_n dX1_perform_0 (o := (some x0)) rfl ?_
  obtain ⟨a1, ea1, hq⟩ := Option.bind_eq_some_iff.mp hq
  obtain ⟨eoa1, eta1⟩ := jw_rc_spec ea1
  obtain ⟨w3, h2, ew3, hq⟩ := jw_b2_spec hq
  refine jw_callV (As := []) (S := []) (a := a1) (v := none) dX1_perform_1 mt_X1_begin in_X1_begin se_X1_begin lk_X1_55 (c_X1_begin ew3) eta1 (by decide) rfl rfl (by decide) (Nat.le_of_ble_eq_true rfl) (by cases eoa1; rfl) ?_
  refine jw_aload_n dX1_perform_4 (o := (some x0)) rfl ?_
  obtain ⟨a4, ea4, hq⟩ := Option.bind_eq_some_iff.mp hq
  obtain ⟨eoa4, eta4⟩ := jw_rc_spec ea4
  obtain ⟨w6, h5, ew6, hq⟩ := jw_b2_spec hq
  refine jw_callV (As := []) (S := []) (a := a4) (v := none) dX1_perform_5 mt_X1_takeNext in_X1_takeNext se_X1_takeNext lk_X1_58 (c_X1_takeNext ew6) eta4 (by decide) rfl rfl (by decide) (Nat.le_of_ble_eq_true rfl) (by cases eoa4; rfl) ?_
  refine jw_iconst dX1_perform_8 (v := (0 : Int32)) (by decide) ?_
  refine jw_istore_n (L' := [some (.ref x0), some (.int (0 : Int32)), none]) dX1_perform_9 (Nat.le_of_ble_eq_true rfl) rfl ?_
  refine jw_iconst dX1_perform_10 (v := (0 : Int32)) (by decide) ?_
  refine jw_istore_n (L' := [some (.ref x0), some (.int (0 : Int32)), some (.int (0 : Int32))]) dX1_perform_11 (Nat.le_of_ble_eq_true rfl) rfl ?_
  exact l_X1_perform_b12  jw_FU _ _ _ _ _ _ hq

theorem c_X1_perform {h : jw_H} {x0 : Nat} {r : Int32} {h' : jw_H} (hq : f_X1_perform h x0 = some (r, h')) : jw_Con (Cond.code yX1_perform cX1_perform 3 (some .int)) yX1_perform 12 [.ref x0] h (.inl (some (.int r))) h' :=
  jw_con false (plainFor_of_name (by decide +kernel)) (fun z => nomatch z) (by simp [jw_ent, jw_sl0_nil, jw_sl0_int, jw_sl0_long, jw_sl0_ref, jw_sl0_rf, jw_sl0_scr, List.replicate]) (by simp [jw_sl0_nil, jw_sl0_int, jw_sl0_long, jw_sl0_ref, jw_sl0_rf, jw_sl0_scr]) (l_X1_perform hq)


/-! X11_stream -/
noncomputable def f_X11_stream (h : jw_H) (x0 : Nat) (x1 : Int32) : Option ((Int32 ⊕ String) × jw_H) :=
 (jw_rc h 11 (some x0)).bind fun a1 =>
 jw_b2 (f_X11_isNoScript h a1 x1) fun w3 h2 =>
 if w3 = 0 then ((jw_gR h2 11 (some x0) 2).bind fun v5 =>
 (jw_ai h2 20 v5 x1).bind fun v6 =>
 if v6 = (-1 : Int32) then (some (Sum.inr "java/lang/IllegalStateException", jw_thw h2))
 else ((jw_gR h2 11 (some x0) 5).bind fun v8 =>
 (jw_gR h2 11 (some x0) 1).bind fun v9 =>
 (jw_ar h2 24 v9 x1).bind fun v10 =>
 (jw_gR h2 11 (some x0) 2).bind fun v11 =>
 (jw_ai h2 20 v11 x1).bind fun v12 =>
 (jw_rc h2 6 v8).bind fun a13 =>
 jw_b2 (f_X6_readOrders h2 a13 v10 v12) fun w15 h14 =>
 (jw_gI h14 11 (some x0) 13).bind fun v16 =>
 (jw_pI h14 11 (some x0) 13 (v16 + (1 : Int32))).bind fun h17 =>
 (jw_gR h17 11 (some x0) 11).bind fun v18 =>
 (jw_gR h17 11 (some x0) 6).bind fun v19 =>
 (jw_rc h17 3 v18).bind fun a20 =>
 jw_b2 (f_X3_note h17 a20 v19) fun w22 h21 =>
 (jw_gR h21 11 (some x0) 10).bind fun v23 =>
 (jw_rc h21 1 v23).bind fun a24 =>
 jw_b2 (f_X1_perform h21 a24) fun w26 h25 =>
 (jw_gR h25 11 (some x0) 10).bind fun v27 =>
 (jw_gI h25 1 v27 15).bind fun v28 =>
 (jw_pI h25 11 (some x0) 14 v28).bind fun h29 =>
 (jw_gI h29 11 (some x0) 14).bind fun v30 =>
 if v30 = 0 then ((jw_gR h29 11 (some x0) 11).bind fun v32 =>
 (jw_gI h29 11 (some x0) 13).bind fun v33 =>
 (jw_rc h29 3 v32).bind fun a34 =>
 jw_b2 (f_X3_store h29 a34 v33) fun w36 h35 =>
 some (Sum.inl w26, h35))
 else (some (Sum.inl w26, h29))))
 else (some (Sum.inr "java/lang/IndexOutOfBoundsException", jw_thw h2))

set_option maxRecDepth 100000 in
set_option maxHeartbeats 4000000 in
theorem l_X11_stream {hi : jw_H} {h : jw_H} {x0 : Nat} {x1 : Int32} {r : Int32 ⊕ String} {h' : jw_H} (hq : f_X11_stream  h x0 x1 = some (r, h')) : jw_E 13 uX11_stream hi 0 [some (.ref x0), some (.int x1), none] [] h (jw_res r) h' := by
  unfold f_X11_stream at hq
  refine jw_aload_n dX11_stream_0 (o := (some x0)) rfl ?_
  refine jw_iload_n dX11_stream_1 rfl ?_
  obtain ⟨a1, ea1, hq⟩ := Option.bind_eq_some_iff.mp hq
  obtain ⟨eoa1, eta1⟩ := jw_rc_spec ea1
  obtain ⟨w3, h2, ew3, hq⟩ := jw_b2_spec hq
  refine jw_callV (As := [.int x1]) (S := []) (a := a1) (v := some (.int w3)) dX11_stream_2 mt_X11_isNoScript in_X11_isNoScript se_X11_isNoScript lk_X11_126 (c_X11_isNoScript ew3) eta1 (by decide) rfl rfl (by decide) (Nat.le_of_ble_eq_true rfl) (by cases eoa1; rfl) ?_
  rcases jw_if hq with ⟨c4, hq⟩ | ⟨c4, hq⟩
  · refine jw_if_eq_t (tgt := 18) dX11_stream_5 (by decide) c4 ?_
    refine jw_aload_n dX11_stream_18 (o := (some x0)) rfl ?_
    obtain ⟨v5, ev5, hq⟩ := Option.bind_eq_some_iff.mp hq
    refine jw_getR (o := (some x0)) dX11_stream_19 ev5 fl_X11_18 rfl ?_
    refine jw_iload_n dX11_stream_22 rfl ?_
    obtain ⟨v6, ev6, hq⟩ := Option.bind_eq_some_iff.mp hq
    refine jw_iald (o := v5) dX11_stream_23 ev6 ?_
    refine jw_iconst dX11_stream_24 (v := (-1 : Int32)) (by decide) ?_
    rcases jw_if hq with ⟨c7, hq⟩ | ⟨c7, hq⟩
    · refine jw_icmp_ne_f (tgt := 38) dX11_stream_25 (by decide) c7 ?_
      cases hq
      exact jw_throw th_X11_stream_28 (Nat.le_of_ble_eq_true rfl) (Nat.le_of_ble_eq_true rfl)
    · refine jw_icmp_ne_t (tgt := 38) dX11_stream_25 (by decide) c7 ?_
      refine jw_aload_n dX11_stream_38 (o := (some x0)) rfl ?_
      obtain ⟨v8, ev8, hq⟩ := Option.bind_eq_some_iff.mp hq
      refine jw_getR (o := (some x0)) dX11_stream_39 ev8 fl_X11_31 rfl ?_
      refine jw_aload_n dX11_stream_42 (o := (some x0)) rfl ?_
      obtain ⟨v9, ev9, hq⟩ := Option.bind_eq_some_iff.mp hq
      refine jw_getR (o := (some x0)) dX11_stream_43 ev9 fl_X11_15 rfl ?_
      refine jw_iload_n dX11_stream_46 rfl ?_
      obtain ⟨v10, ev10, hq⟩ := Option.bind_eq_some_iff.mp hq
      refine jw_aald2 (o := v9) dX11_stream_47 ev10 ?_
      refine jw_aload_n dX11_stream_48 (o := (some x0)) rfl ?_
      obtain ⟨v11, ev11, hq⟩ := Option.bind_eq_some_iff.mp hq
      refine jw_getR (o := (some x0)) dX11_stream_49 ev11 fl_X11_18 rfl ?_
      refine jw_iload_n dX11_stream_52 rfl ?_
      obtain ⟨v12, ev12, hq⟩ := Option.bind_eq_some_iff.mp hq
      refine jw_iald (o := v11) dX11_stream_53 ev12 ?_
      obtain ⟨a13, ea13, hq⟩ := Option.bind_eq_some_iff.mp hq
      obtain ⟨eoa13, eta13⟩ := jw_rc_spec ea13
      obtain ⟨w15, h14, ew15, hq⟩ := jw_b2_spec hq
      refine jw_callV (As := [va_rf v10, .int v12]) (S := []) (a := a13) (v := some (.int w15)) dX11_stream_54 mt_X6_readOrders in_X6_readOrders se_X6_readOrders lk_X11_104 (c_X6_readOrders ew15) eta13 (by decide) rfl rfl (by decide) (Nat.le_of_ble_eq_true rfl) (by cases eoa13; rfl) ?_
      refine jw_pop dX11_stream_57 rfl ?_
      refine jw_aload_n dX11_stream_58 (o := (some x0)) rfl ?_
      refine jw_dup dX11_stream_59 rfl ?_
      obtain ⟨v16, ev16, hq⟩ := Option.bind_eq_some_iff.mp hq
      refine jw_getI (o := (some x0)) dX11_stream_60 ev16 fl_X11_113 rfl ?_
      refine jw_iconst dX11_stream_63 (v := (1 : Int32)) (by decide) ?_
      refine jw_iadd dX11_stream_64 ?_
      obtain ⟨h17, eh17, hq⟩ := Option.bind_eq_some_iff.mp hq
      refine jw_putI (o := (some x0)) dX11_stream_65 eh17 fl_X11_113 rfl rfl ?_
      refine jw_aload_n dX11_stream_68 (o := (some x0)) rfl ?_
      obtain ⟨v18, ev18, hq⟩ := Option.bind_eq_some_iff.mp hq
      refine jw_getR (o := (some x0)) dX11_stream_69 ev18 fl_X11_52 rfl ?_
      refine jw_aload_n dX11_stream_72 (o := (some x0)) rfl ?_
      obtain ⟨v19, ev19, hq⟩ := Option.bind_eq_some_iff.mp hq
      refine jw_getR (o := (some x0)) dX11_stream_73 ev19 fl_X11_38 rfl ?_
      obtain ⟨a20, ea20, hq⟩ := Option.bind_eq_some_iff.mp hq
      obtain ⟨eoa20, eta20⟩ := jw_rc_spec ea20
      obtain ⟨w22, h21, ew22, hq⟩ := jw_b2_spec hq
      refine jw_callV (As := [va_rf v19]) (S := []) (a := a20) (v := none) dX11_stream_76 mt_X3_note in_X3_note se_X3_note lk_X11_137 (c_X3_note ew22) eta20 (by decide) rfl rfl (by decide) (Nat.le_of_ble_eq_true rfl) (by cases eoa20; rfl) ?_
      refine jw_aload_n dX11_stream_79 (o := (some x0)) rfl ?_
      obtain ⟨v23, ev23, hq⟩ := Option.bind_eq_some_iff.mp hq
      refine jw_getR (o := (some x0)) dX11_stream_80 ev23 fl_X11_84 rfl ?_
      obtain ⟨a24, ea24, hq⟩ := Option.bind_eq_some_iff.mp hq
      obtain ⟨eoa24, eta24⟩ := jw_rc_spec ea24
      obtain ⟨w26, h25, ew26, hq⟩ := jw_b2_spec hq
      refine jw_callV (As := []) (S := []) (a := a24) (v := some (.int w26)) dX11_stream_83 mt_X1_perform in_X1_perform se_X1_perform lk_X11_141 (c_X1_perform ew26) eta24 (by decide) rfl rfl (by decide) (Nat.le_of_ble_eq_true rfl) (by cases eoa24; rfl) ?_
      refine jw_istore_n (L' := [some (.ref x0), some (.int x1), some (.int w26)]) dX11_stream_86 (Nat.le_of_ble_eq_true rfl) rfl ?_
      refine jw_aload_n dX11_stream_87 (o := (some x0)) rfl ?_
      refine jw_aload_n dX11_stream_88 (o := (some x0)) rfl ?_
      obtain ⟨v27, ev27, hq⟩ := Option.bind_eq_some_iff.mp hq
      refine jw_getR (o := (some x0)) dX11_stream_89 ev27 fl_X11_84 rfl ?_
      obtain ⟨v28, ev28, hq⟩ := Option.bind_eq_some_iff.mp hq
      refine jw_getI (o := v27) dX11_stream_92 ev28 fl_X11_144 rfl ?_
      obtain ⟨h29, eh29, hq⟩ := Option.bind_eq_some_iff.mp hq
      refine jw_putI (o := (some x0)) dX11_stream_95 eh29 fl_X11_123 rfl rfl ?_
      refine jw_aload_n dX11_stream_98 (o := (some x0)) rfl ?_
      obtain ⟨v30, ev30, hq⟩ := Option.bind_eq_some_iff.mp hq
      refine jw_getI (o := (some x0)) dX11_stream_99 ev30 fl_X11_123 rfl ?_
      rcases jw_if hq with ⟨c31, hq⟩ | ⟨c31, hq⟩
      · refine jw_if_ne_f (tgt := 116) dX11_stream_102 (by decide) c31 ?_
        refine jw_aload_n dX11_stream_105 (o := (some x0)) rfl ?_
        obtain ⟨v32, ev32, hq⟩ := Option.bind_eq_some_iff.mp hq
        refine jw_getR (o := (some x0)) dX11_stream_106 ev32 fl_X11_52 rfl ?_
        refine jw_aload_n dX11_stream_109 (o := (some x0)) rfl ?_
        obtain ⟨v33, ev33, hq⟩ := Option.bind_eq_some_iff.mp hq
        refine jw_getI (o := (some x0)) dX11_stream_110 ev33 fl_X11_113 rfl ?_
        obtain ⟨a34, ea34, hq⟩ := Option.bind_eq_some_iff.mp hq
        obtain ⟨eoa34, eta34⟩ := jw_rc_spec ea34
        obtain ⟨w36, h35, ew36, hq⟩ := jw_b2_spec hq
        refine jw_callV (As := [.int v33]) (S := []) (a := a34) (v := none) dX11_stream_113 mt_X3_store in_X3_store se_X3_store lk_X11_145 (c_X3_store ew36) eta34 (by decide) rfl rfl (by decide) (Nat.le_of_ble_eq_true rfl) (by cases eoa34; rfl) ?_
        refine jw_iload_n dX11_stream_116 rfl ?_
        cases hq
        exact jw_iret (ty := .int) dX11_stream_117 rfl rfl
      · refine jw_if_ne_t (tgt := 116) dX11_stream_102 (by decide) c31 ?_
        refine jw_iload_n dX11_stream_116 rfl ?_
        cases hq
        exact jw_iret (ty := .int) dX11_stream_117 rfl rfl
  · refine jw_if_eq_f (tgt := 18) dX11_stream_5 (by decide) c4 ?_
    cases hq
    exact jw_throw th_X11_stream_8 (Nat.le_of_ble_eq_true rfl) (Nat.le_of_ble_eq_true rfl)

theorem c_X11_stream {h : jw_H} {x0 : Nat} {x1 : Int32} {r : Int32 ⊕ String} {h' : jw_H} (hq : f_X11_stream h x0 x1 = some (r, h')) : jw_Con (Cond.code yX11_stream cX11_stream 3 (some .int)) yX11_stream 13 [.ref x0, .int x1] h (jw_res r) h' :=
  jw_con false (plainFor_of_name (by decide +kernel)) (fun z => nomatch z) (by simp [jw_ent, jw_sl0_nil, jw_sl0_int, jw_sl0_long, jw_sl0_ref, jw_sl0_rf, jw_sl0_scr, List.replicate]) (by simp [jw_sl0_nil, jw_sl0_int, jw_sl0_long, jw_sl0_ref, jw_sl0_rf, jw_sl0_scr]) (l_X11_stream hq)


/-! X11_undo -/
noncomputable def f_X11_undo (h : jw_H) (x0 : Nat) : Option ((Int32 ⊕ String) × jw_H) :=
 (jw_gR h 11 (some x0) 11).bind fun v1 =>
 (jw_gI h 3 v1 3).bind fun v2 =>
 if v2 = 0 then (some (Sum.inr "java/lang/IllegalStateException", jw_thw h))
 else ((jw_gR h 11 (some x0) 11).bind fun v4 =>
 (jw_gR h 11 (some x0) 6).bind fun v5 =>
 (jw_rc h 3 v4).bind fun a6 =>
 jw_b2 (f_X3_takeBack h a6 v5) fun w8 h7 =>
 (jw_gR h7 11 (some x0) 11).bind fun v9 =>
 (jw_gI h7 3 v9 3).bind fun v10 =>
 some (Sum.inl v10, h7))

set_option maxRecDepth 100000 in
set_option maxHeartbeats 4000000 in
theorem l_X11_undo {hi : jw_H} {h : jw_H} {x0 : Nat} {r : Int32 ⊕ String} {h' : jw_H} (hq : f_X11_undo  h x0 = some (r, h')) : jw_E 8 uX11_undo hi 0 [some (.ref x0)] [] h (jw_res r) h' := by
  unfold f_X11_undo at hq
  refine jw_aload_n dX11_undo_0 (o := (some x0)) rfl ?_
  obtain ⟨v1, ev1, hq⟩ := Option.bind_eq_some_iff.mp hq
  refine jw_getR (o := (some x0)) dX11_undo_1 ev1 fl_X11_52 rfl ?_
  obtain ⟨v2, ev2, hq⟩ := Option.bind_eq_some_iff.mp hq
  refine jw_getI (o := v1) dX11_undo_4 ev2 fl_X11_149 rfl ?_
  rcases jw_if hq with ⟨c3, hq⟩ | ⟨c3, hq⟩
  · refine jw_if_ne_f (tgt := 20) dX11_undo_7 (by decide) c3 ?_
    cases hq
    exact jw_throw th_X11_undo_10 (Nat.le_of_ble_eq_true rfl) (Nat.le_of_ble_eq_true rfl)
  · refine jw_if_ne_t (tgt := 20) dX11_undo_7 (by decide) c3 ?_
    refine jw_aload_n dX11_undo_20 (o := (some x0)) rfl ?_
    obtain ⟨v4, ev4, hq⟩ := Option.bind_eq_some_iff.mp hq
    refine jw_getR (o := (some x0)) dX11_undo_21 ev4 fl_X11_52 rfl ?_
    refine jw_aload_n dX11_undo_24 (o := (some x0)) rfl ?_
    obtain ⟨v5, ev5, hq⟩ := Option.bind_eq_some_iff.mp hq
    refine jw_getR (o := (some x0)) dX11_undo_25 ev5 fl_X11_38 rfl ?_
    obtain ⟨a6, ea6, hq⟩ := Option.bind_eq_some_iff.mp hq
    obtain ⟨eoa6, eta6⟩ := jw_rc_spec ea6
    obtain ⟨w8, h7, ew8, hq⟩ := jw_b2_spec hq
    refine jw_callV (As := [va_rf v5]) (S := []) (a := a6) (v := none) dX11_undo_28 mt_X3_takeBack in_X3_takeBack se_X3_takeBack lk_X11_154 (c_X3_takeBack ew8) eta6 (by decide) rfl rfl (by decide) (Nat.le_of_ble_eq_true rfl) (by cases eoa6; rfl) ?_
    refine jw_aload_n dX11_undo_31 (o := (some x0)) rfl ?_
    obtain ⟨v9, ev9, hq⟩ := Option.bind_eq_some_iff.mp hq
    refine jw_getR (o := (some x0)) dX11_undo_32 ev9 fl_X11_52 rfl ?_
    obtain ⟨v10, ev10, hq⟩ := Option.bind_eq_some_iff.mp hq
    refine jw_getI (o := v9) dX11_undo_35 ev10 fl_X11_149 rfl ?_
    cases hq
    exact jw_iret (ty := .int) dX11_undo_38 rfl rfl

theorem c_X11_undo {h : jw_H} {x0 : Nat} {r : Int32 ⊕ String} {h' : jw_H} (hq : f_X11_undo h x0 = some (r, h')) : jw_Con (Cond.code yX11_undo cX11_undo 1 (some .int)) yX11_undo 8 [.ref x0] h (jw_res r) h' :=
  jw_con false (plainFor_of_name (by decide +kernel)) (fun z => nomatch z) (by simp [jw_ent, jw_sl0_nil, jw_sl0_int, jw_sl0_long, jw_sl0_ref, jw_sl0_rf, jw_sl0_scr, List.replicate]) (by simp [jw_sl0_nil, jw_sl0_int, jw_sl0_long, jw_sl0_ref, jw_sl0_rf, jw_sl0_scr]) (l_X11_undo hq)


/-! X6_readTapePattern -/
noncomputable def g_X6_readTapePattern_b33 (h : jw_H) (t0 : Int32) : Option (Int32 × jw_H) :=
 some (t0, h)

noncomputable def g_X6_readTapePattern_b25 (h : jw_H) (x0 : Nat) : Option (Int32 × jw_H) :=
 (jw_gI h 6 (some x0) 5).bind fun v1 =>
 g_X6_readTapePattern_b33  h v1

noncomputable def f_X6_readTapePattern (h : jw_H) (x0 : Nat) (x1 : Option Nat) (x2 : Int32) : Option (Int32 × jw_H) :=
 (jw_rc h 6 (some x0)).bind fun a1 =>
 jw_b2 (f_X6_begin h a1 x1 x2) fun w3 h2 =>
 (jw_rc h2 6 (some x0)).bind fun a4 =>
 jw_b2 (f_X6_readPattern h2 a4) fun w6 h5 =>
 if w6 = (-1 : Int32) then (g_X6_readTapePattern_b25  h5 x0)
 else ((jw_gI h5 6 (some x0) 5).bind fun v8 =>
 (jw_gI h5 6 (some x0) 4).bind fun v9 =>
 if v9 ≤ v8 then (g_X6_readTapePattern_b33  h5 (-1 : Int32))
 else (g_X6_readTapePattern_b25  h5 x0))

set_option maxRecDepth 100000 in
set_option maxHeartbeats 4000000 in
theorem l_X6_readTapePattern_b33 {hi : jw_H} {h : jw_H} {t0 : Int32} {r : Int32} {h' : jw_H} (hq : g_X6_readTapePattern_b33  h t0 = some (r, h')) : jw_E 3 uX6_readTapePattern hi 33 [none, none, none] [.int t0] h (.inl (some (.int r))) h' := by
  unfold g_X6_readTapePattern_b33 at hq
  cases hq
  exact jw_iret (ty := .int) dX6_readTapePattern_33 rfl rfl

set_option maxRecDepth 100000 in
set_option maxHeartbeats 4000000 in
theorem l_X6_readTapePattern_b25 {hi : jw_H} {h : jw_H} {x0 : Nat} {r : Int32} {h' : jw_H} (hq : g_X6_readTapePattern_b25  h x0 = some (r, h')) : jw_E 3 uX6_readTapePattern hi 25 [some (.ref x0), none, none] [] h (.inl (some (.int r))) h' := by
  unfold g_X6_readTapePattern_b25 at hq
  refine jw_aload_n dX6_readTapePattern_25 (o := (some x0)) rfl ?_
  obtain ⟨v1, ev1, hq⟩ := Option.bind_eq_some_iff.mp hq
  refine jw_getI (o := (some x0)) dX6_readTapePattern_26 ev1 fl_X6_43 rfl ?_
  refine jw_goto (tgt := 33) dX6_readTapePattern_29 (by decide) ?_
  refine jw_forget [false, true, true] (L' := [none, none, none]) rfl ?_
  exact l_X6_readTapePattern_b33  hq

set_option maxRecDepth 100000 in
set_option maxHeartbeats 4000000 in
theorem l_X6_readTapePattern {hi : jw_H} {h : jw_H} {x0 : Nat} {x1 : Option Nat} {x2 : Int32} {r : Int32} {h' : jw_H} (hq : f_X6_readTapePattern  h x0 x1 x2 = some (r, h')) : jw_E 3 uX6_readTapePattern hi 0 [some (.ref x0), some (va_rf x1), some (.int x2)] [] h (.inl (some (.int r))) h' := by
  unfold f_X6_readTapePattern at hq
  refine jw_aload_n dX6_readTapePattern_0 (o := (some x0)) rfl ?_
  refine jw_aload_n dX6_readTapePattern_1 (o := x1) rfl ?_
  refine jw_iload_n dX6_readTapePattern_2 rfl ?_
  obtain ⟨a1, ea1, hq⟩ := Option.bind_eq_some_iff.mp hq
  obtain ⟨eoa1, eta1⟩ := jw_rc_spec ea1
  obtain ⟨w3, h2, ew3, hq⟩ := jw_b2_spec hq
  refine jw_callV (As := [va_rf x1, .int x2]) (S := []) (a := a1) (v := none) dX6_readTapePattern_3 mt_X6_begin in_X6_begin se_X6_begin lk_X6_49 (c_X6_begin ew3) eta1 (by decide) rfl rfl (by decide) (Nat.le_of_ble_eq_true rfl) (by cases eoa1; rfl) ?_
  refine jw_aload_n dX6_readTapePattern_6 (o := (some x0)) rfl ?_
  obtain ⟨a4, ea4, hq⟩ := Option.bind_eq_some_iff.mp hq
  obtain ⟨eoa4, eta4⟩ := jw_rc_spec ea4
  obtain ⟨w6, h5, ew6, hq⟩ := jw_b2_spec hq
  refine jw_callV (As := []) (S := []) (a := a4) (v := some (.int w6)) dX6_readTapePattern_7 mt_X6_readPattern in_X6_readPattern se_X6_readPattern lk_X6_53 (c_X6_readPattern ew6) eta4 (by decide) rfl rfl (by decide) (Nat.le_of_ble_eq_true rfl) (by cases eoa4; rfl) ?_
  refine jw_iconst dX6_readTapePattern_10 (v := (-1 : Int32)) (by decide) ?_
  rcases jw_if hq with ⟨c7, hq⟩ | ⟨c7, hq⟩
  · refine jw_icmp_eq_t (tgt := 25) dX6_readTapePattern_11 (by decide) c7 ?_
    refine jw_forget [true, false, false] (L' := [some (.ref x0), none, none]) rfl ?_
    exact l_X6_readTapePattern_b25  hq
  · refine jw_icmp_eq_f (tgt := 25) dX6_readTapePattern_11 (by decide) c7 ?_
    refine jw_aload_n dX6_readTapePattern_14 (o := (some x0)) rfl ?_
    obtain ⟨v8, ev8, hq⟩ := Option.bind_eq_some_iff.mp hq
    refine jw_getI (o := (some x0)) dX6_readTapePattern_15 ev8 fl_X6_43 rfl ?_
    refine jw_aload_n dX6_readTapePattern_18 (o := (some x0)) rfl ?_
    obtain ⟨v9, ev9, hq⟩ := Option.bind_eq_some_iff.mp hq
    refine jw_getI (o := (some x0)) dX6_readTapePattern_19 ev9 fl_X6_34 rfl ?_
    rcases jw_if hq with ⟨c10, hq⟩ | ⟨c10, hq⟩
    · refine jw_icmp_ge_t (tgt := 32) dX6_readTapePattern_22 (by decide) c10 ?_
      refine jw_iconst dX6_readTapePattern_32 (v := (-1 : Int32)) (by decide) ?_
      refine jw_forget [false, false, false] (L' := [none, none, none]) rfl ?_
      exact l_X6_readTapePattern_b33  hq
    · refine jw_icmp_ge_f (tgt := 32) dX6_readTapePattern_22 (by decide) c10 ?_
      refine jw_forget [true, false, false] (L' := [some (.ref x0), none, none]) rfl ?_
      exact l_X6_readTapePattern_b25  hq

theorem c_X6_readTapePattern {h : jw_H} {x0 : Nat} {x1 : Option Nat} {x2 : Int32} {r : Int32} {h' : jw_H} (hq : f_X6_readTapePattern h x0 x1 x2 = some (r, h')) : jw_Con (Cond.code yX6_readTapePattern cX6_readTapePattern 3 (some .int)) yX6_readTapePattern 3 [.ref x0, va_rf x1, .int x2] h (.inl (some (.int r))) h' :=
  jw_con false (plainFor_of_name (by decide +kernel)) (fun z => nomatch z) (by simp [jw_ent, jw_sl0_nil, jw_sl0_int, jw_sl0_long, jw_sl0_ref, jw_sl0_rf, jw_sl0_scr, List.replicate]) (by simp [jw_sl0_nil, jw_sl0_int, jw_sl0_long, jw_sl0_ref, jw_sl0_rf, jw_sl0_scr]) (l_X6_readTapePattern hq)


/-! X11_patternFault -/
noncomputable def f_X11_patternFault (h : jw_H) (x0 : Nat) : Option (Int32 × jw_H) :=
 (jw_gR h 11 (some x0) 5).bind fun v1 =>
 (jw_gR h 11 (some x0) 0).bind fun v2 =>
 (jw_gI h 11 (some x0) 12).bind fun v3 =>
 (jw_rc h 6 v1).bind fun a4 =>
 jw_b2 (f_X6_readTapePattern h a4 v2 v3) fun w6 h5 =>
 some (w6, h5)

set_option maxRecDepth 100000 in
set_option maxHeartbeats 4000000 in
theorem l_X11_patternFault {hi : jw_H} {h : jw_H} {x0 : Nat} {r : Int32} {h' : jw_H} (hq : f_X11_patternFault  h x0 = some (r, h')) : jw_E 4 uX11_patternFault hi 0 [some (.ref x0)] [] h (.inl (some (.int r))) h' := by
  unfold f_X11_patternFault at hq
  refine jw_aload_n dX11_patternFault_0 (o := (some x0)) rfl ?_
  obtain ⟨v1, ev1, hq⟩ := Option.bind_eq_some_iff.mp hq
  refine jw_getR (o := (some x0)) dX11_patternFault_1 ev1 fl_X11_31 rfl ?_
  refine jw_aload_n dX11_patternFault_4 (o := (some x0)) rfl ?_
  obtain ⟨v2, ev2, hq⟩ := Option.bind_eq_some_iff.mp hq
  refine jw_getR (o := (some x0)) dX11_patternFault_5 ev2 fl_X11_9 rfl ?_
  refine jw_aload_n dX11_patternFault_8 (o := (some x0)) rfl ?_
  obtain ⟨v3, ev3, hq⟩ := Option.bind_eq_some_iff.mp hq
  refine jw_getI (o := (some x0)) dX11_patternFault_9 ev3 fl_X11_95 rfl ?_
  obtain ⟨a4, ea4, hq⟩ := Option.bind_eq_some_iff.mp hq
  obtain ⟨eoa4, eta4⟩ := jw_rc_spec ea4
  obtain ⟨w6, h5, ew6, hq⟩ := jw_b2_spec hq
  refine jw_callV (As := [va_rf v2, .int v3]) (S := []) (a := a4) (v := some (.int w6)) dX11_patternFault_12 mt_X6_readTapePattern in_X6_readTapePattern se_X6_readTapePattern lk_X11_108 (c_X6_readTapePattern ew6) eta4 (by decide) rfl rfl (by decide) (Nat.le_of_ble_eq_true rfl) (by cases eoa4; rfl) ?_
  cases hq
  exact jw_iret (ty := .int) dX11_patternFault_15 rfl rfl

theorem c_X11_patternFault {h : jw_H} {x0 : Nat} {r : Int32} {h' : jw_H} (hq : f_X11_patternFault h x0 = some (r, h')) : jw_Con (Cond.code yX11_patternFault cX11_patternFault 1 (some .int)) yX11_patternFault 4 [.ref x0] h (.inl (some (.int r))) h' :=
  jw_con false (plainFor_of_name (by decide +kernel)) (fun z => nomatch z) (by simp [jw_ent, jw_sl0_nil, jw_sl0_int, jw_sl0_long, jw_sl0_ref, jw_sl0_rf, jw_sl0_scr, List.replicate]) (by simp [jw_sl0_nil, jw_sl0_int, jw_sl0_long, jw_sl0_ref, jw_sl0_rf, jw_sl0_scr]) (l_X11_patternFault hq)


/-! X11_findStart -/
noncomputable def g_X11_findStart_b83 (h : jw_H) (t0 : Int32) : Option ((Int32 ⊕ String) × jw_H) :=
 some (Sum.inl t0, h)

noncomputable def f_X11_findStart (h : jw_H) (x0 : Nat) (x1 : Int32) : Option ((Int32 ⊕ String) × jw_H) :=
 (jw_gR h 11 (some x0) 6).bind fun v1 =>
 (jw_gR h 9 v1 0).bind fun v2 =>
 (jw_rc h 7 v2).bind fun a3 =>
 jw_b2 (f_X7_has h a3 x1) fun w5 h4 =>
 if w5 = 0 then (some (Sum.inr "java/lang/IndexOutOfBoundsException", jw_thw h4))
 else ((jw_gR h4 11 (some x0) 5).bind fun v7 =>
 (jw_gR h4 11 (some x0) 0).bind fun v8 =>
 (jw_gI h4 11 (some x0) 12).bind fun v9 =>
 (jw_rc h4 6 v7).bind fun a10 =>
 jw_b2 (f_X6_readTapePattern h4 a10 v8 v9) fun w12 h11 =>
 if w12 = (-1 : Int32) then ((jw_gR h11 11 (some x0) 8).bind fun v14 =>
 (jw_gR h11 11 (some x0) 6).bind fun v15 =>
 (jw_gR h11 9 v15 0).bind fun v16 =>
 (jw_rc h11 4 v14).bind fun a17 =>
 jw_b2 (f_X4_holds h11 a17 v16 x1 (0 : Int32)) fun w19 h18 =>
 if w19 = 0 then (g_X11_findStart_b83  h18 (-1 : Int32))
 else ((jw_gR h18 11 (some x0) 8).bind fun v21 =>
 (jw_gI h18 4 v21 6).bind fun v22 =>
 g_X11_findStart_b83  h18 v22))
 else (some (Sum.inr "java/lang/IllegalStateException", jw_thw h11)))

set_option maxRecDepth 100000 in
set_option maxHeartbeats 4000000 in
theorem l_X11_findStart_b83 {hi : jw_H} {h : jw_H} {t0 : Int32} {r : Int32 ⊕ String} {h' : jw_H} (hq : g_X11_findStart_b83  h t0 = some (r, h')) : jw_E 9 uX11_findStart hi 83 [none, none] [.int t0] h (jw_res r) h' := by
  unfold g_X11_findStart_b83 at hq
  cases hq
  exact jw_iret (ty := .int) dX11_findStart_83 rfl rfl

set_option maxRecDepth 100000 in
set_option maxHeartbeats 4000000 in
theorem l_X11_findStart {hi : jw_H} {h : jw_H} {x0 : Nat} {x1 : Int32} {r : Int32 ⊕ String} {h' : jw_H} (hq : f_X11_findStart  h x0 x1 = some (r, h')) : jw_E 9 uX11_findStart hi 0 [some (.ref x0), some (.int x1)] [] h (jw_res r) h' := by
  unfold f_X11_findStart at hq
  refine jw_aload_n dX11_findStart_0 (o := (some x0)) rfl ?_
  obtain ⟨v1, ev1, hq⟩ := Option.bind_eq_some_iff.mp hq
  refine jw_getR (o := (some x0)) dX11_findStart_1 ev1 fl_X11_38 rfl ?_
  obtain ⟨v2, ev2, hq⟩ := Option.bind_eq_some_iff.mp hq
  refine jw_getR (o := v1) dX11_findStart_4 ev2 fl_X11_160 rfl ?_
  refine jw_iload_n dX11_findStart_7 rfl ?_
  obtain ⟨a3, ea3, hq⟩ := Option.bind_eq_some_iff.mp hq
  obtain ⟨eoa3, eta3⟩ := jw_rc_spec ea3
  obtain ⟨w5, h4, ew5, hq⟩ := jw_b2_spec hq
  refine jw_callV (As := [.int x1]) (S := []) (a := a3) (v := some (.int w5)) dX11_findStart_8 mt_X7_has in_X7_has se_X7_has lk_X11_169 (c_X7_has ew5) eta3 (by decide) rfl rfl (by decide) (Nat.le_of_ble_eq_true rfl) (by cases eoa3; rfl) ?_
  rcases jw_if hq with ⟨c6, hq⟩ | ⟨c6, hq⟩
  · refine jw_if_ne_f (tgt := 24) dX11_findStart_11 (by decide) c6 ?_
    cases hq
    exact jw_throw th_X11_findStart_14 (Nat.le_of_ble_eq_true rfl) (Nat.le_of_ble_eq_true rfl)
  · refine jw_if_ne_t (tgt := 24) dX11_findStart_11 (by decide) c6 ?_
    refine jw_aload_n dX11_findStart_24 (o := (some x0)) rfl ?_
    obtain ⟨v7, ev7, hq⟩ := Option.bind_eq_some_iff.mp hq
    refine jw_getR (o := (some x0)) dX11_findStart_25 ev7 fl_X11_31 rfl ?_
    refine jw_aload_n dX11_findStart_28 (o := (some x0)) rfl ?_
    obtain ⟨v8, ev8, hq⟩ := Option.bind_eq_some_iff.mp hq
    refine jw_getR (o := (some x0)) dX11_findStart_29 ev8 fl_X11_9 rfl ?_
    refine jw_aload_n dX11_findStart_32 (o := (some x0)) rfl ?_
    obtain ⟨v9, ev9, hq⟩ := Option.bind_eq_some_iff.mp hq
    refine jw_getI (o := (some x0)) dX11_findStart_33 ev9 fl_X11_95 rfl ?_
    obtain ⟨a10, ea10, hq⟩ := Option.bind_eq_some_iff.mp hq
    obtain ⟨eoa10, eta10⟩ := jw_rc_spec ea10
    obtain ⟨w12, h11, ew12, hq⟩ := jw_b2_spec hq
    refine jw_callV (As := [va_rf v8, .int v9]) (S := []) (a := a10) (v := some (.int w12)) dX11_findStart_36 mt_X6_readTapePattern in_X6_readTapePattern se_X6_readTapePattern lk_X11_108 (c_X6_readTapePattern ew12) eta10 (by decide) rfl rfl (by decide) (Nat.le_of_ble_eq_true rfl) (by cases eoa10; rfl) ?_
    refine jw_iconst dX11_findStart_39 (v := (-1 : Int32)) (by decide) ?_
    rcases jw_if hq with ⟨c13, hq⟩ | ⟨c13, hq⟩
    · refine jw_icmp_eq_t (tgt := 53) dX11_findStart_40 (by decide) c13 ?_
      refine jw_aload_n dX11_findStart_53 (o := (some x0)) rfl ?_
      obtain ⟨v14, ev14, hq⟩ := Option.bind_eq_some_iff.mp hq
      refine jw_getR (o := (some x0)) dX11_findStart_54 ev14 fl_X11_61 rfl ?_
      refine jw_aload_n dX11_findStart_57 (o := (some x0)) rfl ?_
      obtain ⟨v15, ev15, hq⟩ := Option.bind_eq_some_iff.mp hq
      refine jw_getR (o := (some x0)) dX11_findStart_58 ev15 fl_X11_38 rfl ?_
      obtain ⟨v16, ev16, hq⟩ := Option.bind_eq_some_iff.mp hq
      refine jw_getR (o := v15) dX11_findStart_61 ev16 fl_X11_160 rfl ?_
      refine jw_iload_n dX11_findStart_64 rfl ?_
      refine jw_iconst dX11_findStart_65 (v := (0 : Int32)) (by decide) ?_
      obtain ⟨a17, ea17, hq⟩ := Option.bind_eq_some_iff.mp hq
      obtain ⟨eoa17, eta17⟩ := jw_rc_spec ea17
      obtain ⟨w19, h18, ew19, hq⟩ := jw_b2_spec hq
      refine jw_callV (As := [va_rf v16, .int x1, .int (0 : Int32)]) (S := []) (a := a17) (v := some (.int w19)) dX11_findStart_66 mt_X4_holds in_X4_holds se_X4_holds lk_X11_235 (c_X4_holds ew19) eta17 (by decide) rfl rfl (by decide) (Nat.le_of_ble_eq_true rfl) (by cases eoa17; rfl) ?_
      rcases jw_if hq with ⟨c20, hq⟩ | ⟨c20, hq⟩
      · refine jw_if_eq_t (tgt := 82) dX11_findStart_69 (by decide) c20 ?_
        refine jw_iconst dX11_findStart_82 (v := (-1 : Int32)) (by decide) ?_
        refine jw_forget [false, false] (L' := [none, none]) rfl ?_
        exact l_X11_findStart_b83  hq
      · refine jw_if_eq_f (tgt := 82) dX11_findStart_69 (by decide) c20 ?_
        refine jw_aload_n dX11_findStart_72 (o := (some x0)) rfl ?_
        obtain ⟨v21, ev21, hq⟩ := Option.bind_eq_some_iff.mp hq
        refine jw_getR (o := (some x0)) dX11_findStart_73 ev21 fl_X11_61 rfl ?_
        obtain ⟨v22, ev22, hq⟩ := Option.bind_eq_some_iff.mp hq
        refine jw_getI (o := v21) dX11_findStart_76 ev22 fl_X11_239 rfl ?_
        refine jw_goto (tgt := 83) dX11_findStart_79 (by decide) ?_
        refine jw_forget [false, false] (L' := [none, none]) rfl ?_
        exact l_X11_findStart_b83  hq
    · refine jw_icmp_eq_f (tgt := 53) dX11_findStart_40 (by decide) c13 ?_
      cases hq
      exact jw_throw th_X11_findStart_43 (Nat.le_of_ble_eq_true rfl) (Nat.le_of_ble_eq_true rfl)

theorem c_X11_findStart {h : jw_H} {x0 : Nat} {x1 : Int32} {r : Int32 ⊕ String} {h' : jw_H} (hq : f_X11_findStart h x0 x1 = some (r, h')) : jw_Con (Cond.code yX11_findStart cX11_findStart 2 (some .int)) yX11_findStart 9 [.ref x0, .int x1] h (jw_res r) h' :=
  jw_con false (plainFor_of_name (by decide +kernel)) (fun z => nomatch z) (by simp [jw_ent, jw_sl0_nil, jw_sl0_int, jw_sl0_long, jw_sl0_ref, jw_sl0_rf, jw_sl0_scr, List.replicate]) (by simp [jw_sl0_nil, jw_sl0_int, jw_sl0_long, jw_sl0_ref, jw_sl0_rf, jw_sl0_scr]) (l_X11_findStart hq)


/-! X11_find -/
noncomputable def f_X11_find (h : jw_H) (x0 : Nat) (x1 : Int32) : Option ((Int32 ⊕ String) × jw_H) :=
 (jw_gR h 11 (some x0) 5).bind fun v1 =>
 (jw_gR h 11 (some x0) 0).bind fun v2 =>
 (jw_gI h 11 (some x0) 12).bind fun v3 =>
 (jw_rc h 6 v1).bind fun a4 =>
 jw_b2 (f_X6_readTapePattern h a4 v2 v3) fun w6 h5 =>
 if w6 = (-1 : Int32) then ((jw_gR h5 11 (some x0) 8).bind fun v8 =>
 (jw_gR h5 11 (some x0) 6).bind fun v9 =>
 (jw_rc h5 4 v8).bind fun a10 =>
 jw_b2 (f_X4_lineWith h5 a10 v9 (0 : Int32) x1) fun w12 h11 =>
 some (Sum.inl w12, h11))
 else (some (Sum.inr "java/lang/IllegalStateException", jw_thw h5))

set_option maxRecDepth 100000 in
set_option maxHeartbeats 4000000 in
theorem l_X11_find {hi : jw_H} {h : jw_H} {x0 : Nat} {x1 : Int32} {r : Int32 ⊕ String} {h' : jw_H} (hq : f_X11_find  h x0 x1 = some (r, h')) : jw_E 9 uX11_find hi 0 [some (.ref x0), some (.int x1)] [] h (jw_res r) h' := by
  unfold f_X11_find at hq
  refine jw_aload_n dX11_find_0 (o := (some x0)) rfl ?_
  obtain ⟨v1, ev1, hq⟩ := Option.bind_eq_some_iff.mp hq
  refine jw_getR (o := (some x0)) dX11_find_1 ev1 fl_X11_31 rfl ?_
  refine jw_aload_n dX11_find_4 (o := (some x0)) rfl ?_
  obtain ⟨v2, ev2, hq⟩ := Option.bind_eq_some_iff.mp hq
  refine jw_getR (o := (some x0)) dX11_find_5 ev2 fl_X11_9 rfl ?_
  refine jw_aload_n dX11_find_8 (o := (some x0)) rfl ?_
  obtain ⟨v3, ev3, hq⟩ := Option.bind_eq_some_iff.mp hq
  refine jw_getI (o := (some x0)) dX11_find_9 ev3 fl_X11_95 rfl ?_
  obtain ⟨a4, ea4, hq⟩ := Option.bind_eq_some_iff.mp hq
  obtain ⟨eoa4, eta4⟩ := jw_rc_spec ea4
  obtain ⟨w6, h5, ew6, hq⟩ := jw_b2_spec hq
  refine jw_callV (As := [va_rf v2, .int v3]) (S := []) (a := a4) (v := some (.int w6)) dX11_find_12 mt_X6_readTapePattern in_X6_readTapePattern se_X6_readTapePattern lk_X11_108 (c_X6_readTapePattern ew6) eta4 (by decide) rfl rfl (by decide) (Nat.le_of_ble_eq_true rfl) (by cases eoa4; rfl) ?_
  refine jw_iconst dX11_find_15 (v := (-1 : Int32)) (by decide) ?_
  rcases jw_if hq with ⟨c7, hq⟩ | ⟨c7, hq⟩
  · refine jw_icmp_eq_t (tgt := 29) dX11_find_16 (by decide) c7 ?_
    refine jw_aload_n dX11_find_29 (o := (some x0)) rfl ?_
    obtain ⟨v8, ev8, hq⟩ := Option.bind_eq_some_iff.mp hq
    refine jw_getR (o := (some x0)) dX11_find_30 ev8 fl_X11_61 rfl ?_
    refine jw_aload_n dX11_find_33 (o := (some x0)) rfl ?_
    obtain ⟨v9, ev9, hq⟩ := Option.bind_eq_some_iff.mp hq
    refine jw_getR (o := (some x0)) dX11_find_34 ev9 fl_X11_38 rfl ?_
    refine jw_iconst dX11_find_37 (v := (0 : Int32)) (by decide) ?_
    refine jw_iload_n dX11_find_38 rfl ?_
    obtain ⟨a10, ea10, hq⟩ := Option.bind_eq_some_iff.mp hq
    obtain ⟨eoa10, eta10⟩ := jw_rc_spec ea10
    obtain ⟨w12, h11, ew12, hq⟩ := jw_b2_spec hq
    refine jw_callV (As := [va_rf v9, .int (0 : Int32), .int x1]) (S := []) (a := a10) (v := some (.int w12)) dX11_find_39 mt_X4_lineWith in_X4_lineWith se_X4_lineWith lk_X11_231 (c_X4_lineWith ew12) eta10 (by decide) rfl rfl (by decide) (Nat.le_of_ble_eq_true rfl) (by cases eoa10; rfl) ?_
    cases hq
    exact jw_iret (ty := .int) dX11_find_42 rfl rfl
  · refine jw_icmp_eq_f (tgt := 29) dX11_find_16 (by decide) c7 ?_
    cases hq
    exact jw_throw th_X11_find_19 (Nat.le_of_ble_eq_true rfl) (Nat.le_of_ble_eq_true rfl)

theorem c_X11_find {h : jw_H} {x0 : Nat} {x1 : Int32} {r : Int32 ⊕ String} {h' : jw_H} (hq : f_X11_find h x0 x1 = some (r, h')) : jw_Con (Cond.code yX11_find cX11_find 2 (some .int)) yX11_find 9 [.ref x0, .int x1] h (jw_res r) h' :=
  jw_con false (plainFor_of_name (by decide +kernel)) (fun z => nomatch z) (by simp [jw_ent, jw_sl0_nil, jw_sl0_int, jw_sl0_long, jw_sl0_ref, jw_sl0_rf, jw_sl0_scr, List.replicate]) (by simp [jw_sl0_nil, jw_sl0_int, jw_sl0_long, jw_sl0_ref, jw_sl0_rf, jw_sl0_scr]) (l_X11_find hq)

