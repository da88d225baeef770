/-! X11_findEnd -/
noncomputable def g_X11_findEnd_b83 (h : jw_H) (t0 : Int32) : Option ((Int32 ⊕ String) × jw_H) :=
 some (Sum.inl t0, h)

noncomputable def f_X11_findEnd (h : jw_H) (x0 : Nat) (x1 : Int32) : Option ((Int32 ⊕ String) × jw_H) :=
 (jw_gR h 11 (some x0) 6).bind fun v1 =>
 (jw_gR h 9 v1 0).bind fun v2 =>
 (jw_rc h 7 v2).bind fun a3 =>
 jw_b2 (f_X7_has h a3 x1) fun w5 h4 =>
 if w5 = 0 then (some (Sum.inr "java/lang/IndexOutOfBoundsException", jw_thw h4))
 else ((jw_gR h4 11 (some x0) 5).bind fun v7 =>
 (jw_gR h4 11 (some x0) 0).bind fun v8 =>
 (jw_gI h4 11 (some x0) 12).bind fun v9 =>
 (jw_rc h4 6 v7).bind fun a10 =>
 jw_b2 (f_X6_readTapePattern h4 a10 v8 v9) fun w12 h11 =>
 if w12 = (-1 : Int32) then ((jw_gR h11 11 (some x0) 8).bind fun v14 =>
 (jw_gR h11 11 (some x0) 6).bind fun v15 =>
 (jw_gR h11 9 v15 0).bind fun v16 =>
 (jw_rc h11 4 v14).bind fun a17 =>
 jw_b2 (f_X4_holds h11 a17 v16 x1 (0 : Int32)) fun w19 h18 =>
 if w19 = 0 then (g_X11_findEnd_b83  h18 (-1 : Int32))
 else ((jw_gR h18 11 (some x0) 8).bind fun v21 =>
 (jw_gI h18 4 v21 7).bind fun v22 =>
 g_X11_findEnd_b83  h18 v22))
 else (some (Sum.inr "java/lang/IllegalStateException", jw_thw h11)))

set_option maxRecDepth 100000 in
set_option maxHeartbeats 4000000 in
theorem l_X11_findEnd_b83 {hi : jw_H} {h : jw_H} {t0 : Int32} {r : Int32 ⊕ String} {h' : jw_H} (hq : g_X11_findEnd_b83  h t0 = some (r, h')) : jw_E 9 uX11_findEnd hi 83 [none, none] [.int t0] h (jw_res r) h' := by
  unfold g_X11_findEnd_b83 at hq
  cases hq
  exact jw_iret (ty := .int) dX11_findEnd_83 rfl rfl

set_option maxRecDepth 100000 in
set_option maxHeartbeats 4000000 in
theorem l_X11_findEnd {hi : jw_H} {h : jw_H} {x0 : Nat} {x1 : Int32} {r : Int32 ⊕ String} {h' : jw_H} (hq : f_X11_findEnd  h x0 x1 = some (r, h')) : jw_E 9 uX11_findEnd hi 0 [some (.ref x0), some (.int x1)] [] h (jw_res r) h' := by
  unfold f_X11_findEnd at hq
  refine jw_aload_n dX11_findEnd_0 (o := (some x0)) rfl ?_
  obtain ⟨v1, ev1, hq⟩ := Option.bind_eq_some_iff.mp hq
  refine jw_getR (o := (some x0)) dX11_findEnd_1 ev1 fl_X11_38 rfl ?_
  obtain ⟨v2, ev2, hq⟩ := Option.bind_eq_some_iff.mp hq
  refine jw_getR (o := v1) dX11_findEnd_4 ev2 fl_X11_160 rfl ?_
  refine jw_iload_n dX11_findEnd_7 rfl ?_
  obtain ⟨a3, ea3, hq⟩ := Option.bind_eq_some_iff.mp hq
  obtain ⟨eoa3, eta3⟩ := jw_rc_spec ea3
  obtain ⟨w5, h4, ew5, hq⟩ := jw_b2_spec hq
  refine jw_callV (As := [.int x1]) (S := []) (a := a3) (v := some (.int w5)) dX11_findEnd_8 mt_X7_has in_X7_has se_X7_has lk_X11_169 (c_X7_has ew5) eta3 (by decide) rfl rfl (by decide) (Nat.le_of_ble_eq_true rfl) (by cases eoa3; rfl) ?_
  rcases jw_if hq with ⟨c6, hq⟩ | ⟨c6, hq⟩
  · refine jw_if_ne_f (tgt := 24) dX11_findEnd_11 (by decide) c6 ?_
    cases hq
    exact jw_throw th_X11_findEnd_14 (Nat.le_of_ble_eq_true rfl) (Nat.le_of_ble_eq_true rfl)
  · refine jw_if_ne_t (tgt := 24) dX11_findEnd_11 (by decide) c6 ?_
    refine jw_aload_n dX11_findEnd_24 (o := (some x0)) rfl ?_
    obtain ⟨v7, ev7, hq⟩ := Option.bind_eq_some_iff.mp hq
    refine jw_getR (o := (some x0)) dX11_findEnd_25 ev7 fl_X11_31 rfl ?_
    refine jw_aload_n dX11_findEnd_28 (o := (some x0)) rfl ?_
    obtain ⟨v8, ev8, hq⟩ := Option.bind_eq_some_iff.mp hq
    refine jw_getR (o := (some x0)) dX11_findEnd_29 ev8 fl_X11_9 rfl ?_
    refine jw_aload_n dX11_findEnd_32 (o := (some x0)) rfl ?_
    obtain ⟨v9, ev9, hq⟩ := Option.bind_eq_some_iff.mp hq
    refine jw_getI (o := (some x0)) dX11_findEnd_33 ev9 fl_X11_95 rfl ?_
    obtain ⟨a10, ea10, hq⟩ := Option.bind_eq_some_iff.mp hq
    obtain ⟨eoa10, eta10⟩ := jw_rc_spec ea10
    obtain ⟨w12, h11, ew12, hq⟩ := jw_b2_spec hq
    refine jw_callV (As := [va_rf v8, .int v9]) (S := []) (a := a10) (v := some (.int w12)) dX11_findEnd_36 mt_X6_readTapePattern in_X6_readTapePattern se_X6_readTapePattern lk_X11_108 (c_X6_readTapePattern ew12) eta10 (by decide) rfl rfl (by decide) (Nat.le_of_ble_eq_true rfl) (by cases eoa10; rfl) ?_
    refine jw_iconst dX11_findEnd_39 (v := (-1 : Int32)) (by decide) ?_
    rcases jw_if hq with ⟨c13, hq⟩ | ⟨c13, hq⟩
    · refine jw_icmp_eq_t (tgt := 53) dX11_findEnd_40 (by decide) c13 ?_
      refine jw_aload_n dX11_findEnd_53 (o := (some x0)) rfl ?_
      obtain ⟨v14, ev14, hq⟩ := Option.bind_eq_some_iff.mp hq
      refine jw_getR (o := (some x0)) dX11_findEnd_54 ev14 fl_X11_61 rfl ?_
      refine jw_aload_n dX11_findEnd_57 (o := (some x0)) rfl ?_
      obtain ⟨v15, ev15, hq⟩ := Option.bind_eq_some_iff.mp hq
      refine jw_getR (o := (some x0)) dX11_findEnd_58 ev15 fl_X11_38 rfl ?_
      obtain ⟨v16, ev16, hq⟩ := Option.bind_eq_some_iff.mp hq
      refine jw_getR (o := v15) dX11_findEnd_61 ev16 fl_X11_160 rfl ?_
      refine jw_iload_n dX11_findEnd_64 rfl ?_
      refine jw_iconst dX11_findEnd_65 (v := (0 : Int32)) (by decide) ?_
      obtain ⟨a17, ea17, hq⟩ := Option.bind_eq_some_iff.mp hq
      obtain ⟨eoa17, eta17⟩ := jw_rc_spec ea17
      obtain ⟨w19, h18, ew19, hq⟩ := jw_b2_spec hq
      refine jw_callV (As := [va_rf v16, .int x1, .int (0 : Int32)]) (S := []) (a := a17) (v := some (.int w19)) dX11_findEnd_66 mt_X4_holds in_X4_holds se_X4_holds lk_X11_235 (c_X4_holds ew19) eta17 (by decide) rfl rfl (by decide) (Nat.le_of_ble_eq_true rfl) (by cases eoa17; rfl) ?_
      rcases jw_if hq with ⟨c20, hq⟩ | ⟨c20, hq⟩
      · refine jw_if_eq_t (tgt := 82) dX11_findEnd_69 (by decide) c20 ?_
        refine jw_iconst dX11_findEnd_82 (v := (-1 : Int32)) (by decide) ?_
        refine jw_forget [false, false] (L' := [none, none]) rfl ?_
        exact l_X11_findEnd_b83  hq
      · refine jw_if_eq_f (tgt := 82) dX11_findEnd_69 (by decide) c20 ?_
        refine jw_aload_n dX11_findEnd_72 (o := (some x0)) rfl ?_
        obtain ⟨v21, ev21, hq⟩ := Option.bind_eq_some_iff.mp hq
        refine jw_getR (o := (some x0)) dX11_findEnd_73 ev21 fl_X11_61 rfl ?_
        obtain ⟨v22, ev22, hq⟩ := Option.bind_eq_some_iff.mp hq
        refine jw_getI (o := v21) dX11_findEnd_76 ev22 fl_X11_242 rfl ?_
        refine jw_goto (tgt := 83) dX11_findEnd_79 (by decide) ?_
        refine jw_forget [false, false] (L' := [none, none]) rfl ?_
        exact l_X11_findEnd_b83  hq
    · refine jw_icmp_eq_f (tgt := 53) dX11_findEnd_40 (by decide) c13 ?_
      cases hq
      exact jw_throw th_X11_findEnd_43 (Nat.le_of_ble_eq_true rfl) (Nat.le_of_ble_eq_true rfl)

theorem c_X11_findEnd {h : jw_H} {x0 : Nat} {x1 : Int32} {r : Int32 ⊕ String} {h' : jw_H} (hq : f_X11_findEnd h x0 x1 = some (r, h')) : jw_Con (Cond.code yX11_findEnd cX11_findEnd 2 (some .int)) yX11_findEnd 9 [.ref x0, .int x1] h (jw_res r) h' :=
  jw_con false (plainFor_of_name (by decide +kernel)) (fun z => nomatch z) (by simp [jw_ent, jw_sl0_nil, jw_sl0_int, jw_sl0_long, jw_sl0_ref, jw_sl0_rf, jw_sl0_scr, List.replicate]) (by simp [jw_sl0_nil, jw_sl0_int, jw_sl0_long, jw_sl0_ref, jw_sl0_rf, jw_sl0_scr]) (l_X11_findEnd hq)


/-! X0_init -/
noncomputable def f_X0_init (h : jw_H) (x0 : Nat) : Option (Unit × jw_H) :=
 some ((), h)

set_option maxRecDepth 100000 in
set_option maxHeartbeats 4000000 in
theorem l_X0_init {hi : jw_H} {h : jw_H} {x0 : Nat} {r : Unit} {h' : jw_H} (hq : f_X0_init  h x0 = some (r, h')) : jw_E 1 uX0_init hi 0 [some (.ref x0)] [] h (.inl none) h' := by
  unfold f_X0_init at hq
  refine jw_aload_n dX0_init_0 (o := (some x0)) rfl ?_
  refine jw_obj dX0_init_1 ol_X0_1 oi_0 oc_0 (by decide) (Nat.le_of_ble_eq_true rfl) ?_
  cases hq
  exact jw_vret dX0_init_4 rfl

theorem c_X0_init {h : jw_H} {x0 : Nat} {r : Unit} {h' : jw_H} (hq : f_X0_init h x0 = some (r, h')) : jw_Con (Cond.code yX0_init cX0_init 1 none) yX0_init 1 [.ref x0] h (.inl none) h' :=
  jw_con true (plainFor_of_name (by decide +kernel)) (fun _ => rfl) (by simp [jw_ent, jw_sl0_nil, jw_sl0_int, jw_sl0_long, jw_sl0_ref, jw_sl0_rf, jw_sl0_scr, List.replicate]) (by simp [jw_sl0_nil, jw_sl0_int, jw_sl0_long, jw_sl0_ref, jw_sl0_rf, jw_sl0_scr]) (l_X0_init hq)


/-! X5_init -/
noncomputable def f_X5_init (h : jw_H) (x0 : Nat) : Option (Unit × jw_H) :=
 (some (jw_new h (0, 0) (jw_nf 0))).bind fun h1 =>
 jw_b2 (f_X0_init h1 (jw_n h)) fun w3 h2 =>
 (jw_pR h2 5 (some x0) 0 (some (jw_n h))).bind fun h4 =>
 (some (jw_new h4 (0, 0) (jw_nf 0))).bind fun h5 =>
 jw_b2 (f_X0_init h5 (jw_n h4)) fun w7 h6 =>
 (jw_pR h6 5 (some x0) 1 (some (jw_n h4))).bind fun h8 =>
 (some (jw_new h8 (0, 0) (jw_nf 0))).bind fun h9 =>
 jw_b2 (f_X0_init h9 (jw_n h8)) fun w11 h10 =>
 (jw_pR h10 5 (some x0) 2 (some (jw_n h8))).bind fun h12 =>
 some ((), h12)

set_option maxRecDepth 100000 in
set_option maxHeartbeats 4000000 in
theorem l_X5_init {hi : jw_H} {h : jw_H} {x0 : Nat} {r : Unit} {h' : jw_H} (hq : f_X5_init  h x0 = some (r, h')) : jw_E 2 uX5_init hi 0 [some (.ref x0)] [] h (.inl none) h' := by
  unfold f_X5_init at hq
  refine jw_aload_n dX5_init_0 (o := (some x0)) rfl ?_
  refine jw_obj dX5_init_1 ol_X5_3 oi_0 oc_0 (by decide) (Nat.le_of_ble_eq_true rfl) ?_
  refine jw_aload_n dX5_init_4 (o := (some x0)) rfl ?_
  obtain ⟨h1, eh1, hq⟩ := Option.bind_eq_some_iff.mp hq
  have eh1 := Option.some.inj eh1
  refine jw_mk (c := 0) dX5_init_5 (by decide) cl_X5_9 inst_0 ini_0 ?_
  rw [eh1]
  refine jw_dup dX5_init_8 rfl ?_
  obtain ⟨w3, h2, ew3, hq⟩ := jw_b2_spec hq
  refine jw_callI (As := []) (S := [.ref (jw_n h), .ref x0]) (a := (jw_n h)) (v := none) dX5_init_9 mt_X0_init in_X0_init rfl lk_X5_11 (c_X0_init ew3) rfl (by decide) (Nat.le_of_ble_eq_true rfl) rfl ?_
  obtain ⟨h4, eh4, hq⟩ := Option.bind_eq_some_iff.mp hq
  refine jw_putF (o := (some x0)) (x := (some (jw_n h))) dX5_init_12 eh4 fl_X5_12 fk_X5_12 rfl rfl rfl rfl ?_
  refine jw_aload_n dX5_init_15 (o := (some x0)) rfl ?_
  obtain ⟨h5, eh5, hq⟩ := Option.bind_eq_some_iff.mp hq
  have eh5 := Option.some.inj eh5
  refine jw_mk (c := 0) dX5_init_16 (by decide) cl_X5_9 inst_0 ini_0 ?_
  rw [eh5]
  refine jw_dup dX5_init_19 rfl ?_
  obtain ⟨w7, h6, ew7, hq⟩ := jw_b2_spec hq
  refine jw_callI (As := []) (S := [.ref (jw_n h4), .ref x0]) (a := (jw_n h4)) (v := none) dX5_init_20 mt_X0_init in_X0_init rfl lk_X5_11 (c_X0_init ew7) rfl (by decide) (Nat.le_of_ble_eq_true rfl) rfl ?_
  obtain ⟨h8, eh8, hq⟩ := Option.bind_eq_some_iff.mp hq
  refine jw_putF (o := (some x0)) (x := (some (jw_n h4))) dX5_init_23 eh8 fl_X5_18 fk_X5_18 rfl rfl rfl rfl ?_
  refine jw_aload_n dX5_init_26 (o := (some x0)) rfl ?_
  obtain ⟨h9, eh9, hq⟩ := Option.bind_eq_some_iff.mp hq
  have eh9 := Option.some.inj eh9
  refine jw_mk (c := 0) dX5_init_27 (by decide) cl_X5_9 inst_0 ini_0 ?_
  rw [eh9]
  refine jw_dup dX5_init_30 rfl ?_
  obtain ⟨w11, h10, ew11, hq⟩ := jw_b2_spec hq
  refine jw_callI (As := []) (S := [.ref (jw_n h8), .ref x0]) (a := (jw_n h8)) (v := none) dX5_init_31 mt_X0_init in_X0_init rfl lk_X5_11 (c_X0_init ew11) rfl (by decide) (Nat.le_of_ble_eq_true rfl) rfl ?_
  obtain ⟨h12, eh12, hq⟩ := Option.bind_eq_some_iff.mp hq
  refine jw_putF (o := (some x0)) (x := (some (jw_n h8))) dX5_init_34 eh12 fl_X5_21 fk_X5_21 rfl rfl rfl rfl ?_
  cases hq
  exact jw_vret dX5_init_37 rfl

theorem c_X5_init {h : jw_H} {x0 : Nat} {r : Unit} {h' : jw_H} (hq : f_X5_init h x0 = some (r, h')) : jw_Con (Cond.code yX5_init cX5_init 1 none) yX5_init 2 [.ref x0] h (.inl none) h' :=
  jw_con true (plainFor_of_name (by decide +kernel)) (fun _ => rfl) (by simp [jw_ent, jw_sl0_nil, jw_sl0_int, jw_sl0_long, jw_sl0_ref, jw_sl0_rf, jw_sl0_scr, List.replicate]) (by simp [jw_sl0_nil, jw_sl0_int, jw_sl0_long, jw_sl0_ref, jw_sl0_rf, jw_sl0_scr]) (l_X5_init hq)


/-! X6_init -/
noncomputable def g_X6_init_b15 (k15 : jw_H → Nat → Int32 → Option (Unit × jw_H)) (h : jw_H) (x0 : Nat) (x1 : Int32) : Option (Unit × jw_H) :=
 if (60 : Int32) ≤ x1 then ((jw_mka h 20 (120 : Int32)).bind fun h2 =>
 (jw_pR h2 6 (some x0) 1 (some (jw_n h))).bind fun h4 =>
 (jw_mka h4 23 (120 : Int32)).bind fun h5 =>
 (jw_pR h5 6 (some x0) 2 (some (jw_n h4))).bind fun h7 =>
 (jw_mka h7 21 (0 : Int32)).bind fun h8 =>
 (jw_pR h8 6 (some x0) 3 (some (jw_n h7))).bind fun h10 =>
 some ((), h10))
 else ((jw_gR h 6 (some x0) 0).bind fun v11 =>
 (some (jw_new h (5, 0) (jw_nf 5))).bind fun h12 =>
 jw_b2 (f_X5_init h12 (jw_n h)) fun w14 h13 =>
 (jw_sr h13 35 v11 x1 (some (jw_n h))).bind fun h15 =>
 k15 h15 x0 (x1 + (1 : Int32)))

noncomputable def f_X6_init_b15 (n : Nat) : jw_H → Nat → Int32 → Option (Unit × jw_H) :=
 Nat.rec (fun _ _ _ => none) (fun _ k15 => g_X6_init_b15 k15) n

noncomputable def f_X6_init (h : jw_H) (x0 : Nat) : Option (Unit × jw_H) :=
 (jw_mka h 35 (60 : Int32)).bind fun h1 =>
 (jw_pR h1 6 (some x0) 0 (some (jw_n h))).bind fun h3 =>
 f_X6_init_b15  jw_FU h3 x0 (0 : Int32)

set_option maxRecDepth 100000 in
set_option maxHeartbeats 4000000 in
theorem l_X6_init_b15g {hi : jw_H} {k15 : jw_H → Nat → Int32 → Option (Unit × jw_H)} (hk15 : ∀ (h : jw_H) (x0 : Nat) (x1 : Int32) (r : Unit) (h' : jw_H), k15 h x0 x1 = some (r, h') → jw_E 3 uX6_init hi 15 [some (.ref x0), some (.int x1)] [] h (.inl none) h') {h : jw_H} {x0 : Nat} {x1 : Int32} {r : Unit} {h' : jw_H} (hq : g_X6_init_b15 k15 h x0 x1 = some (r, h')) : jw_E 3 uX6_init hi 15 [some (.ref x0), some (.int x1)] [] h (.inl none) h' := by
  unfold g_X6_init_b15 at hq
  refine jw_iload_n dX6_init_15 rfl ?_
  refine jw_bipush dX6_init_16 (v := (60 : Int32)) (by decide) ?_
  rcases jw_if hq with ⟨c1, hq⟩ | ⟨c1, hq⟩
  · refine jw_icmp_ge_t (tgt := 40) dX6_init_18 (by decide) c1 ?_
    refine jw_aload_n dX6_init_40 (o := (some x0)) rfl ?_
    refine jw_bipush dX6_init_41 (v := (120 : Int32)) (by decide) ?_
    obtain ⟨h2, eh2, hq⟩ := Option.bind_eq_some_iff.mp hq
    obtain ⟨ew3, eh2⟩ := jw_mka_spec eh2
    refine jw_mkI dX6_init_43 ac_int ew3.1 ew3.2 ?_
    rw [eh2]
    obtain ⟨h4, eh4, hq⟩ := Option.bind_eq_some_iff.mp hq
    refine jw_putF (o := (some x0)) (x := (some (jw_n h))) dX6_init_45 eh4 fl_X6_18 fk_X6_18 rfl rfl rfl rfl ?_
    refine jw_aload_n dX6_init_48 (o := (some x0)) rfl ?_
    refine jw_bipush dX6_init_49 (v := (120 : Int32)) (by decide) ?_
    obtain ⟨h5, eh5, hq⟩ := Option.bind_eq_some_iff.mp hq
    obtain ⟨ew6, eh5⟩ := jw_mka_spec eh5
    refine jw_mkL dX6_init_51 ac_long ew6.1 ew6.2 ?_
    rw [eh5]
    obtain ⟨h7, eh7, hq⟩ := Option.bind_eq_some_iff.mp hq
    refine jw_putF (o := (some x0)) (x := (some (jw_n h4))) dX6_init_53 eh7 fl_X6_22 fk_X6_22 rfl rfl rfl rfl ?_
    refine jw_aload_n dX6_init_56 (o := (some x0)) rfl ?_
    refine jw_iconst dX6_init_57 (v := (0 : Int32)) (by decide) ?_
    obtain ⟨h8, eh8, hq⟩ := Option.bind_eq_some_iff.mp hq
    obtain ⟨ew9, eh8⟩ := jw_mka_spec eh8
    refine jw_mkB dX6_init_58 ac_byte ew9.1 ew9.2 ?_
    rw [eh8]
    obtain ⟨h10, eh10, hq⟩ := Option.bind_eq_some_iff.mp hq
    refine jw_putR (o := (some x0)) (x := (some (jw_n h7))) dX6_init_60 eh10 fl_X6_26 rfl rfl ?_
    cases hq
    exact jw_vret dX6_init_63 rfl
  · refine jw_icmp_ge_f (tgt := 40) dX6_init_18 (by decide) c1 ?_
    refine jw_aload_n dX6_init_21 (o := (some x0)) rfl ?_
    obtain ⟨v11, ev11, hq⟩ := Option.bind_eq_some_iff.mp hq
    refine jw_getR (o := (some x0)) dX6_init_22 ev11 fl_X6_11 rfl ?_
    refine jw_iload_n dX6_init_25 rfl ?_
    obtain ⟨h12, eh12, hq⟩ := Option.bind_eq_some_iff.mp hq
    have eh12 := Option.some.inj eh12
    refine jw_mk (c := 5) dX6_init_26 (by decide) cl_X6_9 inst_5 ini_5 ?_
    rw [eh12]
    refine jw_dup dX6_init_29 rfl ?_
    obtain ⟨w14, h13, ew14, hq⟩ := jw_b2_spec hq
    refine jw_callI (As := []) (S := [.ref (jw_n h), .int x1, va_rf v11]) (a := (jw_n h)) (v := none) dX6_init_30 mt_X5_init in_X5_init rfl lk_X6_17 (c_X5_init ew14) rfl (by decide) (by simp only [List.map_cons, List.map_nil, List.sum_cons, List.sum_nil, jw_cat_rf, jw_cat_i, jw_cat_l, jw_cat_a, jw_cat_s] <;> decide) rfl ?_
    obtain ⟨h15, eh15, hq⟩ := Option.bind_eq_some_iff.mp hq
    refine jw_aast (t := 35) (Nat.le_of_ble_eq_true rfl) (Nat.le_of_ble_eq_true rfl) (o := v11) (v := (some (jw_n h))) dX6_init_33 eh15 ?_
    refine jw_iinc (L' := [some (.ref x0), some (.int (x1 + (1 : Int32)))]) dX6_init_34 rfl (v := (1 : Int32)) (by decide) (Nat.le_of_ble_eq_true rfl) rfl ?_
    refine jw_goto (tgt := 15) dX6_init_37 (by decide) ?_
    exact hk15 _ _ _ _ _ hq

theorem l_X6_init_b15 {hi : jw_H} : ∀ (n : Nat) (h : jw_H) (x0 : Nat) (x1 : Int32) (r : Unit) (h' : jw_H), f_X6_init_b15  n h x0 x1 = some (r, h') → jw_E 3 uX6_init hi 15 [some (.ref x0), some (.int x1)] [] h (.inl none) h' := by
  intro n
  induction n with
  | zero => intro h x0 x1 r h' hq; exact nomatch hq
  | succ n ih => intro h x0 x1 r h' hq; exact l_X6_init_b15g ih hq

set_option maxRecDepth 100000 in
set_option maxHeartbeats 4000000 in
theorem l_X6_init {hi : jw_H} {h : jw_H} {x0 : Nat} {r : Unit} {h' : jw_H} (hq : f_X6_init  h x0 = some (r, h')) : jw_E 3 uX6_init hi 0 [some (.ref x0), none] [] h (.inl none) h' := by
  unfold f_X6_init at hq
  refine jw_aload_n dX6_init_0 (o := (some x0)) rfl ?_
  refine jw_obj dX6_init_1 ol_X6_3 oi_0 oc_0 (by decide) (Nat.le_of_ble_eq_true rfl) ?_
  refine jw_aload_n dX6_init_4 (o := (some x0)) rfl ?_
  refine jw_bipush dX6_init_5 (v := (60 : Int32)) (by decide) ?_
  obtain ⟨h1, eh1, hq⟩ := Option.bind_eq_some_iff.mp hq
  obtain ⟨ew2, eh1⟩ := jw_mka_spec eh1
  refine jw_mkq (c := 5) dX6_init_7 (by decide) cl_X6_9 ew2.1 ew2.2 ?_
  rw [eh1]
  obtain ⟨h3, eh3, hq⟩ := Option.bind_eq_some_iff.mp hq
  refine jw_putF (o := (some x0)) (x := (some (jw_n h))) dX6_init_10 eh3 fl_X6_11 fk_X6_11 rfl rfl rfl rfl ?_
  refine jw_iconst dX6_init_13 (v := (0 : Int32)) (by decide) ?_
  refine jw_istore_n (L' := [some (.ref x0), some (.int (0 : Int32))]) dX6_init_14 (Nat.le_of_ble_eq_true rfl) rfl ?_
  exact l_X6_init_b15  jw_FU _ _ _ _ _ hq

theorem c_X6_init {h : jw_H} {x0 : Nat} {r : Unit} {h' : jw_H} (hq : f_X6_init h x0 = some (r, h')) : jw_Con (Cond.code yX6_init cX6_init 2 none) yX6_init 3 [.ref x0] h (.inl none) h' :=
  jw_con true (plainFor_of_name (by decide +kernel)) (fun _ => rfl) (by simp [jw_ent, jw_sl0_nil, jw_sl0_int, jw_sl0_long, jw_sl0_ref, jw_sl0_rf, jw_sl0_scr, List.replicate]) (by simp [jw_sl0_nil, jw_sl0_int, jw_sl0_long, jw_sl0_ref, jw_sl0_rf, jw_sl0_scr]) (l_X6_init hq)


/-! X7_init -/
noncomputable def f_X7_init (h : jw_H) (x0 : Nat) (x1 : Int32) : Option (Unit × jw_H) :=
 jw_b2 (f_J9_max_7cf53 h x1 (0 : Int32)) fun w2 h1 =>
 (jw_mka h1 20 w2).bind fun h3 =>
 (jw_pR h3 7 (some x0) 0 (some (jw_n h1))).bind fun h5 =>
 (jw_mka h5 21 (w2 * (30 : Int32))).bind fun h6 =>
 (jw_pR h6 7 (some x0) 1 (some (jw_n h5))).bind fun h8 =>
 some ((), h8)

set_option maxRecDepth 100000 in
set_option maxHeartbeats 4000000 in
theorem l_X7_init {hi : jw_H} {h : jw_H} {x0 : Nat} {x1 : Int32} {r : Unit} {h' : jw_H} (hq : f_X7_init  h x0 x1 = some (r, h')) : jw_E 1 uX7_init hi 0 [some (.ref x0), some (.int x1), none] [] h (.inl none) h' := by
  unfold f_X7_init at hq
  refine jw_aload_n dX7_init_0 (o := (some x0)) rfl ?_
  refine jw_obj dX7_init_1 ol_X7_3 oi_0 oc_0 (by decide) (Nat.le_of_ble_eq_true rfl) ?_
  refine jw_iload_n dX7_init_4 rfl ?_
  refine jw_iconst dX7_init_5 (v := (0 : Int32)) (by decide) ?_
  obtain ⟨w2, h1, ew2, hq⟩ := jw_b2_spec hq
  refine jw_callS (As := [.int x1, .int (0 : Int32)]) (S := []) (v := some (.int w2)) dX7_init_6 mt_J9_max_7cf53 st_J9_max_7cf53 lk_X7_9 (c_J9_max_7cf53 ew2) rfl (by decide) (Nat.le_of_ble_eq_true rfl) rfl ?_
  refine jw_istore_n (L' := [some (.ref x0), some (.int x1), some (.int w2)]) dX7_init_9 (Nat.le_of_ble_eq_true rfl) rfl ?_
  refine jw_aload_n dX7_init_10 (o := (some x0)) rfl ?_
  refine jw_iload_n dX7_init_11 rfl ?_
  obtain ⟨h3, eh3, hq⟩ := Option.bind_eq_some_iff.mp hq
  obtain ⟨ew4, eh3⟩ := jw_mka_spec eh3
  refine jw_mkI dX7_init_12 ac_int ew4.1 ew4.2 ?_
  rw [eh3]
  obtain ⟨h5, eh5, hq⟩ := Option.bind_eq_some_iff.mp hq
  refine jw_putF (o := (some x0)) (x := (some (jw_n h1))) dX7_init_14 eh5 fl_X7_15 fk_X7_15 rfl rfl rfl rfl ?_
  refine jw_aload_n dX7_init_17 (o := (some x0)) rfl ?_
  refine jw_iload_n dX7_init_18 rfl ?_
  refine jw_bipush dX7_init_19 (v := (30 : Int32)) (by decide) ?_
  refine jw_imul dX7_init_21 ?_
  obtain ⟨h6, eh6, hq⟩ := Option.bind_eq_some_iff.mp hq
  obtain ⟨ew7, eh6⟩ := jw_mka_spec eh6
  refine jw_mkB dX7_init_22 ac_byte ew7.1 ew7.2 ?_
  rw [eh6]
  obtain ⟨h8, eh8, hq⟩ := Option.bind_eq_some_iff.mp hq
  refine jw_putF (o := (some x0)) (x := (some (jw_n h5))) dX7_init_24 eh8 fl_X7_21 fk_X7_21 rfl rfl rfl rfl ?_
  cases hq
  exact jw_vret dX7_init_27 rfl

theorem c_X7_init {h : jw_H} {x0 : Nat} {x1 : Int32} {r : Unit} {h' : jw_H} (hq : f_X7_init h x0 x1 = some (r, h')) : jw_Con (Cond.code yX7_init cX7_init 3 none) yX7_init 1 [.ref x0, .int x1] h (.inl none) h' :=
  jw_con true (plainFor_of_name (by decide +kernel)) (fun _ => rfl) (by simp [jw_ent, jw_sl0_nil, jw_sl0_int, jw_sl0_long, jw_sl0_ref, jw_sl0_rf, jw_sl0_scr, List.replicate]) (by simp [jw_sl0_nil, jw_sl0_int, jw_sl0_long, jw_sl0_ref, jw_sl0_rf, jw_sl0_scr]) (l_X7_init hq)


/-! X9_init -/
noncomputable def g_X9_init_b34 (k34 : jw_H → Nat → Int32 → Option (Unit × jw_H)) (h : jw_H) (x0 : Nat) (x1 : Int32) : Option (Unit × jw_H) :=
 if (5 : Int32) ≤ x1 then (some ((), h))
 else ((jw_gR h 9 (some x0) 2).bind fun v2 =>
 (jw_si h 20 v2 x1 (-1 : Int32)).bind fun h3 =>
 k34 h3 x0 (x1 + (1 : Int32)))

noncomputable def f_X9_init_b34 (n : Nat) : jw_H → Nat → Int32 → Option (Unit × jw_H) :=
 Nat.rec (fun _ _ _ => none) (fun _ k34 => g_X9_init_b34 k34) n

noncomputable def f_X9_init (h : jw_H) (x0 : Nat) : Option (Unit × jw_H) :=
 (some (jw_new h (7, 0) (jw_nf 7))).bind fun h1 =>
 jw_b2 (f_X7_init h1 (jw_n h) (40 : Int32)) fun w3 h2 =>
 (jw_pR h2 9 (some x0) 0 (some (jw_n h))).bind fun h4 =>
 (jw_mka h4 20 (40 : Int32)).bind fun h5 =>
 (jw_pR h5 9 (some x0) 1 (some (jw_n h4))).bind fun h7 =>
 (jw_mka h7 20 (5 : Int32)).bind fun h8 =>
 (jw_pR h8 9 (some x0) 2 (some (jw_n h7))).bind fun h10 =>
 f_X9_init_b34  jw_FU h10 x0 (0 : Int32)

set_option maxRecDepth 100000 in
set_option maxHeartbeats 4000000 in
theorem l_X9_init_b34g {hi : jw_H} {k34 : jw_H → Nat → Int32 → Option (Unit × jw_H)} (hk34 : ∀ (h : jw_H) (x0 : Nat) (x1 : Int32) (r : Unit) (h' : jw_H), k34 h x0 x1 = some (r, h') → jw_E 2 uX9_init hi 34 [some (.ref x0), some (.int x1)] [] h (.inl none) h') {h : jw_H} {x0 : Nat} {x1 : Int32} {r : Unit} {h' : jw_H} (hq : g_X9_init_b34 k34 h x0 x1 = some (r, h')) : jw_E 2 uX9_init hi 34 [some (.ref x0), some (.int x1)] [] h (.inl none) h' := by
  unfold g_X9_init_b34 at hq
  refine jw_iload_n dX9_init_34 rfl ?_
  refine jw_iconst dX9_init_35 (v := (5 : Int32)) (by decide) ?_
  rcases jw_if hq with ⟨c1, hq⟩ | ⟨c1, hq⟩
  · refine jw_icmp_ge_t (tgt := 52) dX9_init_36 (by decide) c1 ?_
    cases hq
    exact jw_vret dX9_init_52 rfl
  · refine jw_icmp_ge_f (tgt := 52) dX9_init_36 (by decide) c1 ?_
    refine jw_aload_n dX9_init_39 (o := (some x0)) rfl ?_
    obtain ⟨v2, ev2, hq⟩ := Option.bind_eq_some_iff.mp hq
    refine jw_getR (o := (some x0)) dX9_init_40 ev2 fl_X9_24 rfl ?_
    refine jw_iload_n dX9_init_43 rfl ?_
    refine jw_iconst dX9_init_44 (v := (-1 : Int32)) (by decide) ?_
    obtain ⟨h3, eh3, hq⟩ := Option.bind_eq_some_iff.mp hq
    refine jw_iast (o := v2) dX9_init_45 eh3 ?_
    refine jw_iinc (L' := [some (.ref x0), some (.int (x1 + (1 : Int32)))]) dX9_init_46 rfl (v := (1 : Int32)) (by decide) (Nat.le_of_ble_eq_true rfl) rfl ?_
    refine jw_goto (tgt := 34) dX9_init_49 (by decide) ?_
    exact hk34 _ _ _ _ _ hq

theorem l_X9_init_b34 {hi : jw_H} : ∀ (n : Nat) (h : jw_H) (x0 : Nat) (x1 : Int32) (r : Unit) (h' : jw_H), f_X9_init_b34  n h x0 x1 = some (r, h') → jw_E 2 uX9_init hi 34 [some (.ref x0), some (.int x1)] [] h (.inl none) h' := by
  intro n
  induction n with
  | zero => intro h x0 x1 r h' hq; exact nomatch hq
  | succ n ih => intro h x0 x1 r h' hq; exact l_X9_init_b34g ih hq

set_option maxRecDepth 100000 in
set_option maxHeartbeats 4000000 in
theorem l_X9_init {hi : jw_H} {h : jw_H} {x0 : Nat} {r : Unit} {h' : jw_H} (hq : f_X9_init  h x0 = some (r, h')) : jw_E 2 uX9_init hi 0 [some (.ref x0), none] [] h (.inl none) h' := by
  unfold f_X9_init at hq
  refine jw_aload_n dX9_init_0 (o := (some x0)) rfl ?_
  refine jw_obj dX9_init_1 ol_X9_3 oi_0 oc_0 (by decide) (Nat.le_of_ble_eq_true rfl) ?_
  refine jw_aload_n dX9_init_4 (o := (some x0)) rfl ?_
  obtain ⟨h1, eh1, hq⟩ := Option.bind_eq_some_iff.mp hq
  have eh1 := Option.some.inj eh1
  refine jw_mk (c := 7) dX9_init_5 (by decide) cl_X9_9 inst_7 ini_7 ?_
  rw [eh1]
  refine jw_dup dX9_init_8 rfl ?_
  refine jw_bipush dX9_init_9 (v := (40 : Int32)) (by decide) ?_
  obtain ⟨w3, h2, ew3, hq⟩ := jw_b2_spec hq
  refine jw_callI (As := [.int (40 : Int32)]) (S := [.ref (jw_n h), .ref x0]) (a := (jw_n h)) (v := none) dX9_init_11 mt_X7_init in_X7_init rfl lk_X9_11 (c_X7_init ew3) rfl (by decide) (Nat.le_of_ble_eq_true rfl) rfl ?_
  obtain ⟨h4, eh4, hq⟩ := Option.bind_eq_some_iff.mp hq
  refine jw_putF (o := (some x0)) (x := (some (jw_n h))) dX9_init_14 eh4 fl_X9_14 fk_X9_14 rfl rfl rfl rfl ?_
  refine jw_aload_n dX9_init_17 (o := (some x0)) rfl ?_
  refine jw_bipush dX9_init_18 (v := (40 : Int32)) (by decide) ?_
  obtain ⟨h5, eh5, hq⟩ := Option.bind_eq_some_iff.mp hq
  obtain ⟨ew6, eh5⟩ := jw_mka_spec eh5
  refine jw_mkI dX9_init_20 ac_int ew6.1 ew6.2 ?_
  rw [eh5]
  obtain ⟨h7, eh7, hq⟩ := Option.bind_eq_some_iff.mp hq
  refine jw_putF (o := (some x0)) (x := (some (jw_n h4))) dX9_init_22 eh7 fl_X9_20 fk_X9_20 rfl rfl rfl rfl ?_
  refine jw_aload_n dX9_init_25 (o := (some x0)) rfl ?_
  refine jw_iconst dX9_init_26 (v := (5 : Int32)) (by decide) ?_
  obtain ⟨h8, eh8, hq⟩ := Option.bind_eq_some_iff.mp hq
  obtain ⟨ew9, eh8⟩ := jw_mka_spec eh8
  refine jw_mkI dX9_init_27 ac_int ew9.1 ew9.2 ?_
  rw [eh8]
  obtain ⟨h10, eh10, hq⟩ := Option.bind_eq_some_iff.mp hq
  refine jw_putF (o := (some x0)) (x := (some (jw_n h7))) dX9_init_29 eh10 fl_X9_24 fk_X9_24 rfl rfl rfl rfl ?_
  refine jw_iconst dX9_init_32 (v := (0 : Int32)) (by decide) ?_
  refine jw_istore_n (L' := [some (.ref x0), some (.int (0 : Int32))]) dX9_init_33 (Nat.le_of_ble_eq_true rfl) rfl ?_
  exact l_X9_init_b34  jw_FU _ _ _ _ _ hq

theorem c_X9_init {h : jw_H} {x0 : Nat} {r : Unit} {h' : jw_H} (hq : f_X9_init h x0 = some (r, h')) : jw_Con (Cond.code yX9_init cX9_init 2 none) yX9_init 2 [.ref x0] h (.inl none) h' :=
  jw_con true (plainFor_of_name (by decide +kernel)) (fun _ => rfl) (by simp [jw_ent, jw_sl0_nil, jw_sl0_int, jw_sl0_long, jw_sl0_ref, jw_sl0_rf, jw_sl0_scr, List.replicate]) (by simp [jw_sl0_nil, jw_sl0_int, jw_sl0_long, jw_sl0_ref, jw_sl0_rf, jw_sl0_scr]) (l_X9_init hq)


/-! X8_init -/
noncomputable def g_X8_init_b40 (k40 : jw_H → Nat → Int32 → Option (Unit × jw_H)) (h : jw_H) (x0 : Nat) (x1 : Int32) : Option (Unit × jw_H) :=
 if (4 : Int32) ≤ x1 then ((jw_mka h 21 (30 : Int32)).bind fun h2 =>
 (jw_pR h2 8 (some x0) 3 (some (jw_n h))).bind fun h4 =>
 some ((), h4))
 else ((jw_gR h 8 (some x0) 2).bind fun v5 =>
 (some (jw_new h (7, 0) (jw_nf 7))).bind fun h6 =>
 jw_b2 (f_X7_init h6 (jw_n h) (40 : Int32)) fun w8 h7 =>
 (jw_sr h7 37 v5 x1 (some (jw_n h))).bind fun h9 =>
 k40 h9 x0 (x1 + (1 : Int32)))

noncomputable def f_X8_init_b40 (n : Nat) : jw_H → Nat → Int32 → Option (Unit × jw_H) :=
 Nat.rec (fun _ _ _ => none) (fun _ k40 => g_X8_init_b40 k40) n

noncomputable def f_X8_init (h : jw_H) (x0 : Nat) : Option (Unit × jw_H) :=
 (some (jw_new h (7, 0) (jw_nf 7))).bind fun h1 =>
 jw_b2 (f_X7_init h1 (jw_n h) (40 : Int32)) fun w3 h2 =>
 (jw_pR h2 8 (some x0) 0 (some (jw_n h))).bind fun h4 =>
 (some (jw_new h4 (7, 0) (jw_nf 7))).bind fun h5 =>
 jw_b2 (f_X7_init h5 (jw_n h4) (100 : Int32)) fun w7 h6 =>
 (jw_pR h6 8 (some x0) 1 (some (jw_n h4))).bind fun h8 =>
 (jw_mka h8 37 (4 : Int32)).bind fun h9 =>
 (jw_pR h9 8 (some x0) 2 (some (jw_n h8))).bind fun h11 =>
 f_X8_init_b40  jw_FU h11 x0 (0 : Int32)

set_option maxRecDepth 100000 in
set_option maxHeartbeats 4000000 in
theorem l_X8_init_b40g {hi : jw_H} {k40 : jw_H → Nat → Int32 → Option (Unit × jw_H)} (hk40 : ∀ (h : jw_H) (x0 : Nat) (x1 : Int32) (r : Unit) (h' : jw_H), k40 h x0 x1 = some (r, h') → jw_E 2 uX8_init hi 40 [some (.ref x0), some (.int x1)] [] h (.inl none) h') {h : jw_H} {x0 : Nat} {x1 : Int32} {r : Unit} {h' : jw_H} (hq : g_X8_init_b40 k40 h x0 x1 = some (r, h')) : jw_E 2 uX8_init hi 40 [some (.ref x0), some (.int x1)] [] h (.inl none) h' := by
  unfold g_X8_init_b40 at hq
  refine jw_iload_n dX8_init_40 rfl ?_
  refine jw_iconst dX8_init_41 (v := (4 : Int32)) (by decide) ?_
  rcases jw_if hq with ⟨c1, hq⟩ | ⟨c1, hq⟩
  · refine jw_icmp_ge_t (tgt := 66) dX8_init_42 (by decide) c1 ?_
    refine jw_aload_n dX8_init_66 (o := (some x0)) rfl ?_
    refine jw_bipush dX8_init_67 (v := (30 : Int32)) (by decide) ?_
    obtain ⟨h2, eh2, hq⟩ := Option.bind_eq_some_iff.mp hq
    obtain ⟨ew3, eh2⟩ := jw_mka_spec eh2
    refine jw_mkB dX8_init_69 ac_byte ew3.1 ew3.2 ?_
    rw [eh2]
    obtain ⟨h4, eh4, hq⟩ := Option.bind_eq_some_iff.mp hq
    refine jw_putF (o := (some x0)) (x := (some (jw_n h))) dX8_init_71 eh4 fl_X8_27 fk_X8_27 rfl rfl rfl rfl ?_
    cases hq
    exact jw_vret dX8_init_74 rfl
  · refine jw_icmp_ge_f (tgt := 66) dX8_init_42 (by decide) c1 ?_
    refine jw_aload_n dX8_init_45 (o := (some x0)) rfl ?_
    obtain ⟨v5, ev5, hq⟩ := Option.bind_eq_some_iff.mp hq
    refine jw_getR (o := (some x0)) dX8_init_46 ev5 fl_X8_23 rfl ?_
    refine jw_iload_n dX8_init_49 rfl ?_
    obtain ⟨h6, eh6, hq⟩ := Option.bind_eq_some_iff.mp hq
    have eh6 := Option.some.inj eh6
    refine jw_mk (c := 7) dX8_init_50 (by decide) cl_X8_9 inst_7 ini_7 ?_
    rw [eh6]
    refine jw_dup dX8_init_53 rfl ?_
    refine jw_bipush dX8_init_54 (v := (40 : Int32)) (by decide) ?_
    obtain ⟨w8, h7, ew8, hq⟩ := jw_b2_spec hq
    refine jw_callI (As := [.int (40 : Int32)]) (S := [.ref (jw_n h), .int x1, va_rf v5]) (a := (jw_n h)) (v := none) dX8_init_56 mt_X7_init in_X7_init rfl lk_X8_11 (c_X7_init ew8) rfl (by decide) (by simp only [List.map_cons, List.map_nil, List.sum_cons, List.sum_nil, jw_cat_rf, jw_cat_i, jw_cat_l, jw_cat_a, jw_cat_s] <;> decide) rfl ?_
    obtain ⟨h9, eh9, hq⟩ := Option.bind_eq_some_iff.mp hq
    refine jw_aast (t := 37) (Nat.le_of_ble_eq_true rfl) (Nat.le_of_ble_eq_true rfl) (o := v5) (v := (some (jw_n h))) dX8_init_59 eh9 ?_
    refine jw_iinc (L' := [some (.ref x0), some (.int (x1 + (1 : Int32)))]) dX8_init_60 rfl (v := (1 : Int32)) (by decide) (Nat.le_of_ble_eq_true rfl) rfl ?_
    refine jw_goto (tgt := 40) dX8_init_63 (by decide) ?_
    exact hk40 _ _ _ _ _ hq

theorem l_X8_init_b40 {hi : jw_H} : ∀ (n : Nat) (h : jw_H) (x0 : Nat) (x1 : Int32) (r : Unit) (h' : jw_H), f_X8_init_b40  n h x0 x1 = some (r, h') → jw_E 2 uX8_init hi 40 [some (.ref x0), some (.int x1)] [] h (.inl none) h' := by
  intro n
  induction n with
  | zero => intro h x0 x1 r h' hq; exact nomatch hq
  | succ n ih => intro h x0 x1 r h' hq; exact l_X8_init_b40g ih hq

set_option maxRecDepth 100000 in
set_option maxHeartbeats 4000000 in
theorem l_X8_init {hi : jw_H} {h : jw_H} {x0 : Nat} {r : Unit} {h' : jw_H} (hq : f_X8_init  h x0 = some (r, h')) : jw_E 2 uX8_init hi 0 [some (.ref x0), none] [] h (.inl none) h' := by
  unfold f_X8_init at hq
  refine jw_aload_n dX8_init_0 (o := (some x0)) rfl ?_
  refine jw_obj dX8_init_1 ol_X8_3 oi_0 oc_0 (by decide) (Nat.le_of_ble_eq_true rfl) ?_
  refine jw_aload_n dX8_init_4 (o := (some x0)) rfl ?_
  obtain ⟨h1, eh1, hq⟩ := Option.bind_eq_some_iff.mp hq
  have eh1 := Option.some.inj eh1
  refine jw_mk (c := 7) dX8_init_5 (by decide) cl_X8_9 inst_7 ini_7 ?_
  rw [eh1]
  refine jw_dup dX8_init_8 rfl ?_
  refine jw_bipush dX8_init_9 (v := (40 : Int32)) (by decide) ?_
  obtain ⟨w3, h2, ew3, hq⟩ := jw_b2_spec hq
  refine jw_callI (As := [.int (40 : Int32)]) (S := [.ref (jw_n h), .ref x0]) (a := (jw_n h)) (v := none) dX8_init_11 mt_X7_init in_X7_init rfl lk_X8_11 (c_X7_init ew3) rfl (by decide) (Nat.le_of_ble_eq_true rfl) rfl ?_
  obtain ⟨h4, eh4, hq⟩ := Option.bind_eq_some_iff.mp hq
  refine jw_putF (o := (some x0)) (x := (some (jw_n h))) dX8_init_14 eh4 fl_X8_14 fk_X8_14 rfl rfl rfl rfl ?_
  refine jw_aload_n dX8_init_17 (o := (some x0)) rfl ?_
  obtain ⟨h5, eh5, hq⟩ := Option.bind_eq_some_iff.mp hq
  have eh5 := Option.some.inj eh5
  refine jw_mk (c := 7) dX8_init_18 (by decide) cl_X8_9 inst_7 ini_7 ?_
  rw [eh5]
  refine jw_dup dX8_init_21 rfl ?_
  refine jw_bipush dX8_init_22 (v := (100 : Int32)) (by decide) ?_
  obtain ⟨w7, h6, ew7, hq⟩ := jw_b2_spec hq
  refine jw_callI (As := [.int (100 : Int32)]) (S := [.ref (jw_n h4), .ref x0]) (a := (jw_n h4)) (v := none) dX8_init_24 mt_X7_init in_X7_init rfl lk_X8_11 (c_X7_init ew7) rfl (by decide) (Nat.le_of_ble_eq_true rfl) rfl ?_
  obtain ⟨h8, eh8, hq⟩ := Option.bind_eq_some_iff.mp hq
  refine jw_putF (o := (some x0)) (x := (some (jw_n h4))) dX8_init_27 eh8 fl_X8_20 fk_X8_20 rfl rfl rfl rfl ?_
  refine jw_aload_n dX8_init_30 (o := (some x0)) rfl ?_
  refine jw_iconst dX8_init_31 (v := (4 : Int32)) (by decide) ?_
  obtain ⟨h9, eh9, hq⟩ := Option.bind_eq_some_iff.mp hq
  obtain ⟨ew10, eh9⟩ := jw_mka_spec eh9
  refine jw_mkq (c := 7) dX8_init_32 (by decide) cl_X8_9 ew10.1 ew10.2 ?_
  rw [eh9]
  obtain ⟨h11, eh11, hq⟩ := Option.bind_eq_some_iff.mp hq
  refine jw_putF (o := (some x0)) (x := (some (jw_n h8))) dX8_init_35 eh11 fl_X8_23 fk_X8_23 rfl rfl rfl rfl ?_
  refine jw_iconst dX8_init_38 (v := (0 : Int32)) (by decide) ?_
  refine jw_istore_n (L' := [some (.ref x0), some (.int (0 : Int32))]) dX8_init_39 (Nat.le_of_ble_eq_true rfl) rfl ?_
  exact l_X8_init_b40  jw_FU _ _ _ _ _ hq

theorem c_X8_init {h : jw_H} {x0 : Nat} {r : Unit} {h' : jw_H} (hq : f_X8_init h x0 = some (r, h')) : jw_Con (Cond.code yX8_init cX8_init 2 none) yX8_init 2 [.ref x0] h (.inl none) h' :=
  jw_con true (plainFor_of_name (by decide +kernel)) (fun _ => rfl) (by simp [jw_ent, jw_sl0_nil, jw_sl0_int, jw_sl0_long, jw_sl0_ref, jw_sl0_rf, jw_sl0_scr, List.replicate]) (by simp [jw_sl0_nil, jw_sl0_int, jw_sl0_long, jw_sl0_ref, jw_sl0_rf, jw_sl0_scr]) (l_X8_init hq)


/-! X3_init -/
noncomputable def g_X3_init_b23 (k23 : jw_H → Nat → Int32 → Option (Unit × jw_H)) (h : jw_H) (x0 : Nat) (x1 : Int32) : Option (Unit × jw_H) :=
 if (40 : Int32) < x1 then (some ((), h))
 else ((jw_gR h 3 (some x0) 0).bind fun v2 =>
 (some (jw_new h (9, 0) (jw_nf 9))).bind fun h3 =>
 jw_b2 (f_X9_init h3 (jw_n h)) fun w5 h4 =>
 (jw_sr h4 39 v2 x1 (some (jw_n h))).bind fun h6 =>
 k23 h6 x0 (x1 + (1 : Int32)))

noncomputable def f_X3_init_b23 (n : Nat) : jw_H → Nat → Int32 → Option (Unit × jw_H) :=
 Nat.rec (fun _ _ _ => none) (fun _ k23 => g_X3_init_b23 k23) n

noncomputable def f_X3_init (h : jw_H) (x0 : Nat) : Option (Unit × jw_H) :=
 (jw_mka h 39 (41 : Int32)).bind fun h1 =>
 (jw_pR h1 3 (some x0) 0 (some (jw_n h))).bind fun h3 =>
 (jw_mka h3 20 (41 : Int32)).bind fun h4 =>
 (jw_pR h4 3 (some x0) 1 (some (jw_n h3))).bind fun h6 =>
 f_X3_init_b23  jw_FU h6 x0 (0 : Int32)

set_option maxRecDepth 100000 in
set_option maxHeartbeats 4000000 in
theorem l_X3_init_b23g {hi : jw_H} {k23 : jw_H → Nat → Int32 → Option (Unit × jw_H)} (hk23 : ∀ (h : jw_H) (x0 : Nat) (x1 : Int32) (r : Unit) (h' : jw_H), k23 h x0 x1 = some (r, h') → jw_E 3 uX3_init hi 23 [some (.ref x0), some (.int x1)] [] h (.inl none) h') {h : jw_H} {x0 : Nat} {x1 : Int32} {r : Unit} {h' : jw_H} (hq : g_X3_init_b23 k23 h x0 x1 = some (r, h')) : jw_E 3 uX3_init hi 23 [some (.ref x0), some (.int x1)] [] h (.inl none) h' := by
  unfold g_X3_init_b23 at hq
  refine jw_iload_n dX3_init_23 rfl ?_
  refine jw_bipush dX3_init_24 (v := (40 : Int32)) (by decide) ?_
  rcases jw_if hq with ⟨c1, hq⟩ | ⟨c1, hq⟩
  · refine jw_icmp_gt_t (tgt := 48) dX3_init_26 (by decide) c1 ?_
    cases hq
    exact jw_vret dX3_init_48 rfl
  · refine jw_icmp_gt_f (tgt := 48) dX3_init_26 (by decide) c1 ?_
    refine jw_aload_n dX3_init_29 (o := (some x0)) rfl ?_
    obtain ⟨v2, ev2, hq⟩ := Option.bind_eq_some_iff.mp hq
    refine jw_getR (o := (some x0)) dX3_init_30 ev2 fl_X3_11 rfl ?_
    refine jw_iload_n dX3_init_33 rfl ?_
    obtain ⟨h3, eh3, hq⟩ := Option.bind_eq_some_iff.mp hq
    have eh3 := Option.some.inj eh3
    refine jw_mk (c := 9) dX3_init_34 (by decide) cl_X3_9 inst_9 ini_9 ?_
    rw [eh3]
    refine jw_dup dX3_init_37 rfl ?_
    obtain ⟨w5, h4, ew5, hq⟩ := jw_b2_spec hq
    refine jw_callI (As := []) (S := [.ref (jw_n h), .int x1, va_rf v2]) (a := (jw_n h)) (v := none) dX3_init_38 mt_X9_init in_X9_init rfl lk_X3_21 (c_X9_init ew5) rfl (by decide) (by simp only [List.map_cons, List.map_nil, List.sum_cons, List.sum_nil, jw_cat_rf, jw_cat_i, jw_cat_l, jw_cat_a, jw_cat_s] <;> decide) rfl ?_
    obtain ⟨h6, eh6, hq⟩ := Option.bind_eq_some_iff.mp hq
    refine jw_aast (t := 39) (Nat.le_of_ble_eq_true rfl) (Nat.le_of_ble_eq_true rfl) (o := v2) (v := (some (jw_n h))) dX3_init_41 eh6 ?_
    refine jw_iinc (L' := [some (.ref x0), some (.int (x1 + (1 : Int32)))]) dX3_init_42 rfl (v := (1 : Int32)) (by decide) (Nat.le_of_ble_eq_true rfl) rfl ?_
    refine jw_goto (tgt := 23) dX3_init_45 (by decide) ?_
    exact hk23 _ _ _ _ _ hq

theorem l_X3_init_b23 {hi : jw_H} : ∀ (n : Nat) (h : jw_H) (x0 : Nat) (x1 : Int32) (r : Unit) (h' : jw_H), f_X3_init_b23  n h x0 x1 = some (r, h') → jw_E 3 uX3_init hi 23 [some (.ref x0), some (.int x1)] [] h (.inl none) h' := by
  intro n
  induction n with
  | zero => intro h x0 x1 r h' hq; exact nomatch hq
  | succ n ih => intro h x0 x1 r h' hq; exact l_X3_init_b23g ih hq

set_option maxRecDepth 100000 in
set_option maxHeartbeats 4000000 in
theorem l_X3_init {hi : jw_H} {h : jw_H} {x0 : Nat} {r : Unit} {h' : jw_H} (hq : f_X3_init  h x0 = some (r, h')) : jw_E 3 uX3_init hi 0 [some (.ref x0), none] [] h (.inl none) h' := by
  unfold f_X3_init at hq
  refine jw_aload_n dX3_init_0 (o := (some x0)) rfl ?_
  refine jw_obj dX3_init_1 ol_X3_3 oi_0 oc_0 (by decide) (Nat.le_of_ble_eq_true rfl) ?_
  refine jw_aload_n dX3_init_4 (o := (some x0)) rfl ?_
  refine jw_bipush dX3_init_5 (v := (41 : Int32)) (by decide) ?_
  obtain ⟨h1, eh1, hq⟩ := Option.bind_eq_some_iff.mp hq
  obtain ⟨ew2, eh1⟩ := jw_mka_spec eh1
  refine jw_mkq (c := 9) dX3_init_7 (by decide) cl_X3_9 ew2.1 ew2.2 ?_
  rw [eh1]
  obtain ⟨h3, eh3, hq⟩ := Option.bind_eq_some_iff.mp hq
  refine jw_putF (o := (some x0)) (x := (some (jw_n h))) dX3_init_10 eh3 fl_X3_11 fk_X3_11 rfl rfl rfl rfl ?_
  refine jw_aload_n dX3_init_13 (o := (some x0)) rfl ?_
  refine jw_bipush dX3_init_14 (v := (41 : Int32)) (by decide) ?_
  obtain ⟨h4, eh4, hq⟩ := Option.bind_eq_some_iff.mp hq
  obtain ⟨ew5, eh4⟩ := jw_mka_spec eh4
  refine jw_mkI dX3_init_16 ac_int ew5.1 ew5.2 ?_
  rw [eh4]
  obtain ⟨h6, eh6, hq⟩ := Option.bind_eq_some_iff.mp hq
  refine jw_putF (o := (some x0)) (x := (some (jw_n h3))) dX3_init_18 eh6 fl_X3_17 fk_X3_17 rfl rfl rfl rfl ?_
  refine jw_iconst dX3_init_21 (v := (0 : Int32)) (by decide) ?_
  refine jw_istore_n (L' := [some (.ref x0), some (.int (0 : Int32))]) dX3_init_22 (Nat.le_of_ble_eq_true rfl) rfl ?_
  exact l_X3_init_b23  jw_FU _ _ _ _ _ hq

theorem c_X3_init {h : jw_H} {x0 : Nat} {r : Unit} {h' : jw_H} (hq : f_X3_init h x0 = some (r, h')) : jw_Con (Cond.code yX3_init cX3_init 2 none) yX3_init 3 [.ref x0] h (.inl none) h' :=
  jw_con true (plainFor_of_name (by decide +kernel)) (fun _ => rfl) (by simp [jw_ent, jw_sl0_nil, jw_sl0_int, jw_sl0_long, jw_sl0_ref, jw_sl0_rf, jw_sl0_scr, List.replicate]) (by simp [jw_sl0_nil, jw_sl0_int, jw_sl0_long, jw_sl0_ref, jw_sl0_rf, jw_sl0_scr]) (l_X3_init hq)


/-! X4_init -/
noncomputable def f_X4_init (h : jw_H) (x0 : Nat) (x1 : Option Nat) : Option (Unit × jw_H) :=
 (jw_pR h 4 (some x0) 0 x1).bind fun h1 =>
 (jw_mka h1 21 (30 : Int32)).bind fun h2 =>
 (jw_pR h2 4 (some x0) 1 (some (jw_n h1))).bind fun h4 =>
 (jw_mka h4 23 (30 : Int32)).bind fun h5 =>
 (jw_pR h5 4 (some x0) 2 (some (jw_n h4))).bind fun h7 =>
 (jw_mka h7 20 (3 : Int32)).bind fun h8 =>
 (jw_pR h8 4 (some x0) 3 (some (jw_n h7))).bind fun h10 =>
 (jw_mka h10 20 (3 : Int32)).bind fun h11 =>
 (jw_pR h11 4 (some x0) 4 (some (jw_n h10))).bind fun h13 =>
 some ((), h13)

set_option maxRecDepth 100000 in
set_option maxHeartbeats 4000000 in
theorem l_X4_init {hi : jw_H} {h : jw_H} {x0 : Nat} {x1 : Option Nat} {r : Unit} {h' : jw_H} (hq : f_X4_init  h x0 x1 = some (r, h')) : jw_E 1 uX4_init hi 0 [some (.ref x0), some (va_rf x1)] [] h (.inl none) h' := by
  unfold f_X4_init at hq
  refine jw_aload_n dX4_init_0 (o := (some x0)) rfl ?_
  refine jw_obj dX4_init_1 ol_X4_3 oi_0 oc_0 (by decide) (Nat.le_of_ble_eq_true rfl) ?_
  refine jw_aload_n dX4_init_4 (o := (some x0)) rfl ?_
  refine jw_aload_n dX4_init_5 (o := x1) rfl ?_
  obtain ⟨h1, eh1, hq⟩ := Option.bind_eq_some_iff.mp hq
  refine jw_putF (o := (some x0)) (x := x1) dX4_init_6 eh1 fl_X4_9 fk_X4_9 rfl rfl rfl rfl ?_
  refine jw_aload_n dX4_init_9 (o := (some x0)) rfl ?_
  refine jw_bipush dX4_init_10 (v := (30 : Int32)) (by decide) ?_
  obtain ⟨h2, eh2, hq⟩ := Option.bind_eq_some_iff.mp hq
  obtain ⟨ew3, eh2⟩ := jw_mka_spec eh2
  refine jw_mkB dX4_init_12 ac_byte ew3.1 ew3.2 ?_
  rw [eh2]
  obtain ⟨h4, eh4, hq⟩ := Option.bind_eq_some_iff.mp hq
  refine jw_putF (o := (some x0)) (x := (some (jw_n h1))) dX4_init_14 eh4 fl_X4_15 fk_X4_15 rfl rfl rfl rfl ?_
  refine jw_aload_n dX4_init_17 (o := (some x0)) rfl ?_
  refine jw_bipush dX4_init_18 (v := (30 : Int32)) (by decide) ?_
  obtain ⟨h5, eh5, hq⟩ := Option.bind_eq_some_iff.mp hq
  obtain ⟨ew6, eh5⟩ := jw_mka_spec eh5
  refine jw_mkL dX4_init_20 ac_long ew6.1 ew6.2 ?_
  rw [eh5]
  obtain ⟨h7, eh7, hq⟩ := Option.bind_eq_some_iff.mp hq
  refine jw_putF (o := (some x0)) (x := (some (jw_n h4))) dX4_init_22 eh7 fl_X4_19 fk_X4_19 rfl rfl rfl rfl ?_
  refine jw_aload_n dX4_init_25 (o := (some x0)) rfl ?_
  refine jw_iconst dX4_init_26 (v := (3 : Int32)) (by decide) ?_
  obtain ⟨h8, eh8, hq⟩ := Option.bind_eq_some_iff.mp hq
  obtain ⟨ew9, eh8⟩ := jw_mka_spec eh8
  refine jw_mkI dX4_init_27 ac_int ew9.1 ew9.2 ?_
  rw [eh8]
  obtain ⟨h10, eh10, hq⟩ := Option.bind_eq_some_iff.mp hq
  refine jw_putF (o := (some x0)) (x := (some (jw_n h7))) dX4_init_29 eh10 fl_X4_23 fk_X4_23 rfl rfl rfl rfl ?_
  refine jw_aload_n dX4_init_32 (o := (some x0)) rfl ?_
  refine jw_iconst dX4_init_33 (v := (3 : Int32)) (by decide) ?_
  obtain ⟨h11, eh11, hq⟩ := Option.bind_eq_some_iff.mp hq
  obtain ⟨ew12, eh11⟩ := jw_mka_spec eh11
  refine jw_mkI dX4_init_34 ac_int ew12.1 ew12.2 ?_
  rw [eh11]
  obtain ⟨h13, eh13, hq⟩ := Option.bind_eq_some_iff.mp hq
  refine jw_putF (o := (some x0)) (x := (some (jw_n h10))) dX4_init_36 eh13 fl_X4_27 fk_X4_27 rfl rfl rfl rfl ?_
  cases hq
  exact jw_vret dX4_init_39 rfl

theorem c_X4_init {h : jw_H} {x0 : Nat} {x1 : Option Nat} {r : Unit} {h' : jw_H} (hq : f_X4_init h x0 x1 = some (r, h')) : jw_Con (Cond.code yX4_init cX4_init 2 none) yX4_init 1 [.ref x0, va_rf x1] h (.inl none) h' :=
  jw_con true (plainFor_of_name (by decide +kernel)) (fun _ => rfl) (by simp [jw_ent, jw_sl0_nil, jw_sl0_int, jw_sl0_long, jw_sl0_ref, jw_sl0_rf, jw_sl0_scr, List.replicate]) (by simp [jw_sl0_nil, jw_sl0_int, jw_sl0_long, jw_sl0_ref, jw_sl0_rf, jw_sl0_scr]) (l_X4_init hq)


/-! X2_init -/
noncomputable def f_X2_init (h : jw_H) (x0 : Nat) (x1 : Option Nat) (x2 : Option Nat) : Option (Unit × jw_H) :=
 (jw_pR h 2 (some x0) 0 x1).bind fun h1 =>
 (jw_pR h1 2 (some x0) 1 x2).bind fun h2 =>
 (jw_mka h2 21 (30 : Int32)).bind fun h3 =>
 (jw_pR h3 2 (some x0) 2 (some (jw_n h2))).bind fun h5 =>
 some ((), h5)

set_option maxRecDepth 100000 in
set_option maxHeartbeats 4000000 in
theorem l_X2_init {hi : jw_H} {h : jw_H} {x0 : Nat} {x1 : Option Nat} {x2 : Option Nat} {r : Unit} {h' : jw_H} (hq : f_X2_init  h x0 x1 x2 = some (r, h')) : jw_E 1 uX2_init hi 0 [some (.ref x0), some (va_rf x1), some (va_rf x2)] [] h (.inl none) h' := by
  unfold f_X2_init at hq
  refine jw_aload_n dX2_init_0 (o := (some x0)) rfl ?_
  refine jw_obj dX2_init_1 ol_X2_3 oi_0 oc_0 (by decide) (Nat.le_of_ble_eq_true rfl) ?_
  refine jw_aload_n dX2_init_4 (o := (some x0)) rfl ?_
  refine jw_aload_n dX2_init_5 (o := x1) rfl ?_
  obtain ⟨h1, eh1, hq⟩ := Option.bind_eq_some_iff.mp hq
  refine jw_putF (o := (some x0)) (x := x1) dX2_init_6 eh1 fl_X2_9 fk_X2_9 rfl rfl rfl rfl ?_
  refine jw_aload_n dX2_init_9 (o := (some x0)) rfl ?_
  refine jw_aload_n dX2_init_10 (o := x2) rfl ?_
  obtain ⟨h2, eh2, hq⟩ := Option.bind_eq_some_iff.mp hq
  refine jw_putF (o := (some x0)) (x := x2) dX2_init_11 eh2 fl_X2_15 fk_X2_15 rfl rfl rfl rfl ?_
  refine jw_aload_n dX2_init_14 (o := (some x0)) rfl ?_
  refine jw_bipush dX2_init_15 (v := (30 : Int32)) (by decide) ?_
  obtain ⟨h3, eh3, hq⟩ := Option.bind_eq_some_iff.mp hq
  obtain ⟨ew4, eh3⟩ := jw_mka_spec eh3
  refine jw_mkB dX2_init_17 ac_byte ew4.1 ew4.2 ?_
  rw [eh3]
  obtain ⟨h5, eh5, hq⟩ := Option.bind_eq_some_iff.mp hq
  refine jw_putF (o := (some x0)) (x := (some (jw_n h2))) dX2_init_19 eh5 fl_X2_19 fk_X2_19 rfl rfl rfl rfl ?_
  cases hq
  exact jw_vret dX2_init_22 rfl

theorem c_X2_init {h : jw_H} {x0 : Nat} {x1 : Option Nat} {x2 : Option Nat} {r : Unit} {h' : jw_H} (hq : f_X2_init h x0 x1 x2 = some (r, h')) : jw_Con (Cond.code yX2_init cX2_init 3 none) yX2_init 1 [.ref x0, va_rf x1, va_rf x2] h (.inl none) h' :=
  jw_con true (plainFor_of_name (by decide +kernel)) (fun _ => rfl) (by simp [jw_ent, jw_sl0_nil, jw_sl0_int, jw_sl0_long, jw_sl0_ref, jw_sl0_rf, jw_sl0_scr, List.replicate]) (by simp [jw_sl0_nil, jw_sl0_int, jw_sl0_long, jw_sl0_ref, jw_sl0_rf, jw_sl0_scr]) (l_X2_init hq)


/-! X10_init -/
noncomputable def f_X10_init (h : jw_H) (x0 : Nat) (x1 : Option Nat) (x2 : Option Nat) (x3 : Option Nat) (x4 : Option Nat) (x5 : Option Nat) (x6 : Option Nat) (x7 : Option Nat) : Option (Unit × jw_H) :=
 (jw_pR h 10 (some x0) 0 x1).bind fun h1 =>
 (jw_pR h1 10 (some x0) 1 x2).bind fun h2 =>
 (jw_pR h2 10 (some x0) 2 x3).bind fun h3 =>
 (jw_pR h3 10 (some x0) 3 x4).bind fun h4 =>
 (jw_pR h4 10 (some x0) 4 x5).bind fun h5 =>
 (jw_pR h5 10 (some x0) 5 x6).bind fun h6 =>
 (jw_pR h6 10 (some x0) 6 x7).bind fun h7 =>
 (some (jw_new h7 (7, 0) (jw_nf 7))).bind fun h8 =>
 jw_b2 (f_X7_init h8 (jw_n h7) (60 : Int32)) fun w10 h9 =>
 (jw_pR h9 10 (some x0) 7 (some (jw_n h7))).bind fun h11 =>
 (some (jw_new h11 (9, 0) (jw_nf 9))).bind fun h12 =>
 jw_b2 (f_X9_init h12 (jw_n h11)) fun w14 h13 =>
 (jw_pR h13 10 (some x0) 8 (some (jw_n h11))).bind fun h15 =>
 (jw_mka h15 20 (40 : Int32)).bind fun h16 =>
 (jw_pR h16 10 (some x0) 9 (some (jw_n h15))).bind fun h18 =>
 (jw_mka h18 20 (40 : Int32)).bind fun h19 =>
 (jw_pR h19 10 (some x0) 10 (some (jw_n h18))).bind fun h21 =>
 some ((), h21)

set_option maxRecDepth 100000 in
set_option maxHeartbeats 4000000 in
theorem l_X10_init {hi : jw_H} {h : jw_H} {x0 : Nat} {x1 : Option Nat} {x2 : Option Nat} {x3 : Option Nat} {x4 : Option Nat} {x5 : Option Nat} {x6 : Option Nat} {x7 : Option Nat} {r : Unit} {h' : jw_H} (hq : f_X10_init  h x0 x1 x2 x3 x4 x5 x6 x7 = some (r, h')) : jw_E 3 uX10_init hi 0 [some (.ref x0), some (va_rf x1), some (va_rf x2), some (va_rf x3), some (va_rf x4), some (va_rf x5), some (va_rf x6), some (va_rf x7)] [] h (.inl none) h' := by
  unfold f_X10_init at hq
  refine jw_aload_n dX10_init_0 (o := (some x0)) rfl ?_
  refine jw_obj dX10_init_1 ol_X10_3 oi_0 oc_0 (by decide) (Nat.le_of_ble_eq_true rfl) ?_
  refine jw_aload_n dX10_init_4 (o := (some x0)) rfl ?_
  refine jw_aload_n dX10_init_5 (o := x1) rfl ?_
  obtain ⟨h1, eh1, hq⟩ := Option.bind_eq_some_iff.mp hq
  refine jw_putF (o := (some x0)) (x := x1) dX10_init_6 eh1 fl_X10_9 fk_X10_9 rfl rfl rfl rfl ?_
  refine jw_aload_n dX10_init_9 (o := (some x0)) rfl ?_
  refine jw_aload_n dX10_init_10 (o := x2) rfl ?_
  obtain ⟨h2, eh2, hq⟩ := Option.bind_eq_some_iff.mp hq
  refine jw_putF (o := (some x0)) (x := x2) dX10_init_11 eh2 fl_X10_15 fk_X10_15 rfl rfl rfl rfl ?_
  refine jw_aload_n dX10_init_14 (o := (some x0)) rfl ?_
  refine jw_aload_n dX10_init_15 (o := x3) rfl ?_
  obtain ⟨h3, eh3, hq⟩ := Option.bind_eq_some_iff.mp hq
  refine jw_putF (o := (some x0)) (x := x3) dX10_init_16 eh3 fl_X10_19 fk_X10_19 rfl rfl rfl rfl ?_
  refine jw_aload_n dX10_init_19 (o := (some x0)) rfl ?_
  refine jw_aload dX10_init_20 (o := x4) rfl ?_
  obtain ⟨h4, eh4, hq⟩ := Option.bind_eq_some_iff.mp hq
  refine jw_putF (o := (some x0)) (x := x4) dX10_init_22 eh4 fl_X10_23 fk_X10_23 rfl rfl rfl rfl ?_
  refine jw_aload_n dX10_init_25 (o := (some x0)) rfl ?_
  refine jw_aload dX10_init_26 (o := x5) rfl ?_
  obtain ⟨h5, eh5, hq⟩ := Option.bind_eq_some_iff.mp hq
  refine jw_putF (o := (some x0)) (x := x5) dX10_init_28 eh5 fl_X10_26 fk_X10_26 rfl rfl rfl rfl ?_
  refine jw_aload_n dX10_init_31 (o := (some x0)) rfl ?_
  refine jw_aload dX10_init_32 (o := x6) rfl ?_
  obtain ⟨h6, eh6, hq⟩ := Option.bind_eq_some_iff.mp hq
  refine jw_putF (o := (some x0)) (x := x6) dX10_init_34 eh6 fl_X10_30 fk_X10_30 rfl rfl rfl rfl ?_
  refine jw_aload_n dX10_init_37 (o := (some x0)) rfl ?_
  refine jw_aload dX10_init_38 (o := x7) rfl ?_
  obtain ⟨h7, eh7, hq⟩ := Option.bind_eq_some_iff.mp hq
  refine jw_putF (o := (some x0)) (x := x7) dX10_init_40 eh7 fl_X10_34 fk_X10_34 rfl rfl rfl rfl ?_
  refine jw_aload_n dX10_init_43 (o := (some x0)) rfl ?_
  obtain ⟨h8, eh8, hq⟩ := Option.bind_eq_some_iff.mp hq
  have eh8 := Option.some.inj eh8
  refine jw_mk (c := 7) dX10_init_44 (by decide) cl_X10_38 inst_7 ini_7 ?_
  rw [eh8]
  refine jw_dup dX10_init_47 rfl ?_
  refine jw_bipush dX10_init_48 (v := (60 : Int32)) (by decide) ?_
  obtain ⟨w10, h9, ew10, hq⟩ := jw_b2_spec hq
  refine jw_callI (As := [.int (60 : Int32)]) (S := [.ref (jw_n h7), .ref x0]) (a := (jw_n h7)) (v := none) dX10_init_50 mt_X7_init in_X7_init rfl lk_X10_40 (c_X7_init ew10) rfl (by decide) (Nat.le_of_ble_eq_true rfl) rfl ?_
  obtain ⟨h11, eh11, hq⟩ := Option.bind_eq_some_iff.mp hq
  refine jw_putF (o := (some x0)) (x := (some (jw_n h7))) dX10_init_53 eh11 fl_X10_43 fk_X10_43 rfl rfl rfl rfl ?_
  refine jw_aload_n dX10_init_56 (o := (some x0)) rfl ?_
  obtain ⟨h12, eh12, hq⟩ := Option.bind_eq_some_iff.mp hq
  have eh12 := Option.some.inj eh12
  refine jw_mk (c := 9) dX10_init_57 (by decide) cl_X10_47 inst_9 ini_9 ?_
  rw [eh12]
  refine jw_dup dX10_init_60 rfl ?_
  obtain ⟨w14, h13, ew14, hq⟩ := jw_b2_spec hq
  refine jw_callI (As := []) (S := [.ref (jw_n h11), .ref x0]) (a := (jw_n h11)) (v := none) dX10_init_61 mt_X9_init in_X9_init rfl lk_X10_49 (c_X9_init ew14) rfl (by decide) (Nat.le_of_ble_eq_true rfl) rfl ?_
  obtain ⟨h15, eh15, hq⟩ := Option.bind_eq_some_iff.mp hq
  refine jw_putF (o := (some x0)) (x := (some (jw_n h11))) dX10_init_64 eh15 fl_X10_50 fk_X10_50 rfl rfl rfl rfl ?_
  refine jw_aload_n dX10_init_67 (o := (some x0)) rfl ?_
  refine jw_bipush dX10_init_68 (v := (40 : Int32)) (by decide) ?_
  obtain ⟨h16, eh16, hq⟩ := Option.bind_eq_some_iff.mp hq
  obtain ⟨ew17, eh16⟩ := jw_mka_spec eh16
  refine jw_mkI dX10_init_70 ac_int ew17.1 ew17.2 ?_
  rw [eh16]
  obtain ⟨h18, eh18, hq⟩ := Option.bind_eq_some_iff.mp hq
  refine jw_putF (o := (some x0)) (x := (some (jw_n h15))) dX10_init_72 eh18 fl_X10_53 fk_X10_53 rfl rfl rfl rfl ?_
  refine jw_aload_n dX10_init_75 (o := (some x0)) rfl ?_
  refine jw_bipush dX10_init_76 (v := (40 : Int32)) (by decide) ?_
  obtain ⟨h19, eh19, hq⟩ := Option.bind_eq_some_iff.mp hq
  obtain ⟨ew20, eh19⟩ := jw_mka_spec eh19
  refine jw_mkI dX10_init_78 ac_int ew20.1 ew20.2 ?_
  rw [eh19]
  obtain ⟨h21, eh21, hq⟩ := Option.bind_eq_some_iff.mp hq
  refine jw_putF (o := (some x0)) (x := (some (jw_n h18))) dX10_init_80 eh21 fl_X10_57 fk_X10_57 rfl rfl rfl rfl ?_
  cases hq
  exact jw_vret dX10_init_83 rfl

theorem c_X10_init {h : jw_H} {x0 : Nat} {x1 : Option Nat} {x2 : Option Nat} {x3 : Option Nat} {x4 : Option Nat} {x5 : Option Nat} {x6 : Option Nat} {x7 : Option Nat} {r : Unit} {h' : jw_H} (hq : f_X10_init h x0 x1 x2 x3 x4 x5 x6 x7 = some (r, h')) : jw_Con (Cond.code yX10_init cX10_init 8 none) yX10_init 3 [.ref x0, va_rf x1, va_rf x2, va_rf x3, va_rf x4, va_rf x5, va_rf x6, va_rf x7] h (.inl none) h' :=
  jw_con true (plainFor_of_name (by decide +kernel)) (fun _ => rfl) (by simp [jw_ent, jw_sl0_nil, jw_sl0_int, jw_sl0_long, jw_sl0_ref, jw_sl0_rf, jw_sl0_scr, List.replicate]) (by simp [jw_sl0_nil, jw_sl0_int, jw_sl0_long, jw_sl0_ref, jw_sl0_rf, jw_sl0_scr]) (l_X10_init hq)


/-! X1_init -/
noncomputable def f_X1_init (h : jw_H) (x0 : Nat) (x1 : Option Nat) (x2 : Option Nat) (x3 : Option Nat) (x4 : Option Nat) (x5 : Option Nat) (x6 : Option Nat) : Option (Unit × jw_H) :=
 (jw_pR h 1 (some x0) 0 x1).bind fun h1 =>
 (jw_pR h1 1 (some x0) 1 x2).bind fun h2 =>
 (jw_pR h2 1 (some x0) 2 x3).bind fun h3 =>
 (jw_pR h3 1 (some x0) 3 x4).bind fun h4 =>
 (jw_pR h4 1 (some x0) 4 x5).bind fun h5 =>
 (jw_pR h5 1 (some x0) 5 x6).bind fun h6 =>
 (some (jw_new h6 (9, 0) (jw_nf 9))).bind fun h7 =>
 jw_b2 (f_X9_init h7 (jw_n h6)) fun w9 h8 =>
 (jw_pR h8 1 (some x0) 6 (some (jw_n h6))).bind fun h10 =>
 (some (jw_new h10 (7, 0) (jw_nf 7))).bind fun h11 =>
 jw_b2 (f_X7_init h11 (jw_n h10) (1 : Int32)) fun w13 h12 =>
 (jw_pR h12 1 (some x0) 7 (some (jw_n h10))).bind fun h14 =>
 (some (jw_new h14 (7, 0) (jw_nf 7))).bind fun h15 =>
 jw_b2 (f_X7_init h15 (jw_n h14) (41 : Int32)) fun w17 h16 =>
 (jw_pR h16 1 (some x0) 8 (some (jw_n h14))).bind fun h18 =>
 (some (jw_new h18 (7, 0) (jw_nf 7))).bind fun h19 =>
 jw_b2 (f_X7_init h19 (jw_n h18) (60 : Int32)) fun w21 h20 =>
 (jw_pR h20 1 (some x0) 9 (some (jw_n h18))).bind fun h22 =>
 some ((), h22)

set_option maxRecDepth 100000 in
set_option maxHeartbeats 4000000 in
theorem l_X1_init {hi : jw_H} {h : jw_H} {x0 : Nat} {x1 : Option Nat} {x2 : Option Nat} {x3 : Option Nat} {x4 : Option Nat} {x5 : Option Nat} {x6 : Option Nat} {r : Unit} {h' : jw_H} (hq : f_X1_init  h x0 x1 x2 x3 x4 x5 x6 = some (r, h')) : jw_E 3 uX1_init hi 0 [some (.ref x0), some (va_rf x1), some (va_rf x2), some (va_rf x3), some (va_rf x4), some (va_rf x5), some (va_rf x6)] [] h (.inl none) h' := by
  unfold f_X1_init at hq
  refine jw_aload_n dX1_init_0 (o := (some x0)) rfl ?_
  refine jw_obj dX1_init_1 ol_X1_3 oi_0 oc_0 (by decide) (Nat.le_of_ble_eq_true rfl) ?_
  refine jw_aload_n dX1_init_4 (o := (some x0)) rfl ?_
  refine jw_aload_n dX1_init_5 (o := x1) rfl ?_
  obtain ⟨h1, eh1, hq⟩ := Option.bind_eq_some_iff.mp hq
  refine jw_putF (o := (some x0)) (x := x1) dX1_init_6 eh1 fl_X1_9 fk_X1_9 rfl rfl rfl rfl ?_
  refine jw_aload_n dX1_init_9 (o := (some x0)) rfl ?_
  refine jw_aload_n dX1_init_10 (o := x2) rfl ?_
  obtain ⟨h2, eh2, hq⟩ := Option.bind_eq_some_iff.mp hq
  refine jw_putF (o := (some x0)) (x := x2) dX1_init_11 eh2 fl_X1_15 fk_X1_15 rfl rfl rfl rfl ?_
  refine jw_aload_n dX1_init_14 (o := (some x0)) rfl ?_
  refine jw_aload_n dX1_init_15 (o := x3) rfl ?_
  obtain ⟨h3, eh3, hq⟩ := Option.bind_eq_some_iff.mp hq
  refine jw_putF (o := (some x0)) (x := x3) dX1_init_16 eh3 fl_X1_19 fk_X1_19 rfl rfl rfl rfl ?_
  refine jw_aload_n dX1_init_19 (o := (some x0)) rfl ?_
  refine jw_aload dX1_init_20 (o := x4) rfl ?_
  obtain ⟨h4, eh4, hq⟩ := Option.bind_eq_some_iff.mp hq
  refine jw_putF (o := (some x0)) (x := x4) dX1_init_22 eh4 fl_X1_23 fk_X1_23 rfl rfl rfl rfl ?_
  refine jw_aload_n dX1_init_25 (o := (some x0)) rfl ?_
  refine jw_aload dX1_init_26 (o := x5) rfl ?_
  obtain ⟨h5, eh5, hq⟩ := Option.bind_eq_some_iff.mp hq
  refine jw_putF (o := (some x0)) (x := x5) dX1_init_28 eh5 fl_X1_26 fk_X1_26 rfl rfl rfl rfl ?_
  refine jw_aload_n dX1_init_31 (o := (some x0)) rfl ?_
  refine jw_aload dX1_init_32 (o := x6) rfl ?_
  obtain ⟨h6, eh6, hq⟩ := Option.bind_eq_some_iff.mp hq
  refine jw_putF (o := (some x0)) (x := x6) dX1_init_34 eh6 fl_X1_30 fk_X1_30 rfl rfl rfl rfl ?_
  refine jw_aload_n dX1_init_37 (o := (some x0)) rfl ?_
  obtain ⟨h7, eh7, hq⟩ := Option.bind_eq_some_iff.mp hq
  have eh7 := Option.some.inj eh7
  refine jw_mk (c := 9) dX1_init_38 (by decide) cl_X1_34 inst_9 ini_9 ?_
  rw [eh7]
  refine jw_dup dX1_init_41 rfl ?_
  obtain ⟨w9, h8, ew9, hq⟩ := jw_b2_spec hq
  refine jw_callI (As := []) (S := [.ref (jw_n h6), .ref x0]) (a := (jw_n h6)) (v := none) dX1_init_42 mt_X9_init in_X9_init rfl lk_X1_36 (c_X9_init ew9) rfl (by decide) (Nat.le_of_ble_eq_true rfl) rfl ?_
  obtain ⟨h10, eh10, hq⟩ := Option.bind_eq_some_iff.mp hq
  refine jw_putF (o := (some x0)) (x := (some (jw_n h6))) dX1_init_45 eh10 fl_X1_37 fk_X1_37 rfl rfl rfl rfl ?_
  refine jw_aload_n dX1_init_48 (o := (some x0)) rfl ?_
  obtain ⟨h11, eh11, hq⟩ := Option.bind_eq_some_iff.mp hq
  have eh11 := Option.some.inj eh11
  refine jw_mk (c := 7) dX1_init_49 (by decide) cl_X1_40 inst_7 ini_7 ?_
  rw [eh11]
  refine jw_dup dX1_init_52 rfl ?_
  refine jw_iconst dX1_init_53 (v := (1 : Int32)) (by decide) ?_
  obtain ⟨w13, h12, ew13, hq⟩ := jw_b2_spec hq
  refine jw_callI (As := [.int (1 : Int32)]) (S := [.ref (jw_n h10), .ref x0]) (a := (jw_n h10)) (v := none) dX1_init_54 mt_X7_init in_X7_init rfl lk_X1_42 (c_X7_init ew13) rfl (by decide) (Nat.le_of_ble_eq_true rfl) rfl ?_
  obtain ⟨h14, eh14, hq⟩ := Option.bind_eq_some_iff.mp hq
  refine jw_putF (o := (some x0)) (x := (some (jw_n h10))) dX1_init_57 eh14 fl_X1_45 fk_X1_45 rfl rfl rfl rfl ?_
  refine jw_aload_n dX1_init_60 (o := (some x0)) rfl ?_
  obtain ⟨h15, eh15, hq⟩ := Option.bind_eq_some_iff.mp hq
  have eh15 := Option.some.inj eh15
  refine jw_mk (c := 7) dX1_init_61 (by decide) cl_X1_40 inst_7 ini_7 ?_
  rw [eh15]
  refine jw_dup dX1_init_64 rfl ?_
  refine jw_bipush dX1_init_65 (v := (41 : Int32)) (by decide) ?_
  obtain ⟨w17, h16, ew17, hq⟩ := jw_b2_spec hq
  refine jw_callI (As := [.int (41 : Int32)]) (S := [.ref (jw_n h14), .ref x0]) (a := (jw_n h14)) (v := none) dX1_init_67 mt_X7_init in_X7_init rfl lk_X1_42 (c_X7_init ew17) rfl (by decide) (Nat.le_of_ble_eq_true rfl) rfl ?_
  obtain ⟨h18, eh18, hq⟩ := Option.bind_eq_some_iff.mp hq
  refine jw_putF (o := (some x0)) (x := (some (jw_n h14))) dX1_init_70 eh18 fl_X1_49 fk_X1_49 rfl rfl rfl rfl ?_
  refine jw_aload_n dX1_init_73 (o := (some x0)) rfl ?_
  obtain ⟨h19, eh19, hq⟩ := Option.bind_eq_some_iff.mp hq
  have eh19 := Option.some.inj eh19
  refine jw_mk (c := 7) dX1_init_74 (by decide) cl_X1_40 inst_7 ini_7 ?_
  rw [eh19]
  refine jw_dup dX1_init_77 rfl ?_
  refine jw_bipush dX1_init_78 (v := (60 : Int32)) (by decide) ?_
  obtain ⟨w21, h20, ew21, hq⟩ := jw_b2_spec hq
  refine jw_callI (As := [.int (60 : Int32)]) (S := [.ref (jw_n h18), .ref x0]) (a := (jw_n h18)) (v := none) dX1_init_80 mt_X7_init in_X7_init rfl lk_X1_42 (c_X7_init ew21) rfl (by decide) (Nat.le_of_ble_eq_true rfl) rfl ?_
  obtain ⟨h22, eh22, hq⟩ := Option.bind_eq_some_iff.mp hq
  refine jw_putF (o := (some x0)) (x := (some (jw_n h18))) dX1_init_83 eh22 fl_X1_52 fk_X1_52 rfl rfl rfl rfl ?_
  cases hq
  exact jw_vret dX1_init_86 rfl

theorem c_X1_init {h : jw_H} {x0 : Nat} {x1 : Option Nat} {x2 : Option Nat} {x3 : Option Nat} {x4 : Option Nat} {x5 : Option Nat} {x6 : Option Nat} {r : Unit} {h' : jw_H} (hq : f_X1_init h x0 x1 x2 x3 x4 x5 x6 = some (r, h')) : jw_Con (Cond.code yX1_init cX1_init 7 none) yX1_init 3 [.ref x0, va_rf x1, va_rf x2, va_rf x3, va_rf x4, va_rf x5, va_rf x6] h (.inl none) h' :=
  jw_con true (plainFor_of_name (by decide +kernel)) (fun _ => rfl) (by simp [jw_ent, jw_sl0_nil, jw_sl0_int, jw_sl0_long, jw_sl0_ref, jw_sl0_rf, jw_sl0_scr, List.replicate]) (by simp [jw_sl0_nil, jw_sl0_int, jw_sl0_long, jw_sl0_ref, jw_sl0_rf, jw_sl0_scr]) (l_X1_init hq)


/-! X11_init -/
noncomputable def g_X11_init_b32 (k32 : jw_H → Nat → Int32 → Option (Unit × jw_H)) (h : jw_H) (x0 : Nat) (x1 : Int32) : Option (Unit × jw_H) :=
 if (4 : Int32) ≤ x1 then ((jw_mka h 20 (1681 : Int32)).bind fun h2 =>
 (jw_pR h2 11 (some x0) 3 (some (jw_n h))).bind fun h4 =>
 (jw_mka h4 20 (40 : Int32)).bind fun h5 =>
 (jw_pR h5 11 (some x0) 4 (some (jw_n h4))).bind fun h7 =>
 (some (jw_new h7 (6, 0) (jw_nf 6))).bind fun h8 =>
 jw_b2 (f_X6_init h8 (jw_n h7)) fun w10 h9 =>
 (jw_pR h9 11 (some x0) 5 (some (jw_n h7))).bind fun h11 =>
 (some (jw_new h11 (9, 0) (jw_nf 9))).bind fun h12 =>
 jw_b2 (f_X9_init h12 (jw_n h11)) fun w14 h13 =>
 (jw_pR h13 11 (some x0) 6 (some (jw_n h11))).bind fun h15 =>
 (some (jw_new h15 (8, 0) (jw_nf 8))).bind fun h16 =>
 jw_b2 (f_X8_init h16 (jw_n h15)) fun w18 h17 =>
 (jw_pR h17 11 (some x0) 7 (some (jw_n h15))).bind fun h19 =>
 (some (jw_new h19 (3, 0) (jw_nf 3))).bind fun h20 =>
 jw_b2 (f_X3_init h20 (jw_n h19)) fun w22 h21 =>
 (jw_pR h21 11 (some x0) 11 (some (jw_n h19))).bind fun h23 =>
 (some (jw_new h23 (4, 0) (jw_nf 4))).bind fun h24 =>
 (jw_gR h24 11 (some x0) 5).bind fun v25 =>
 jw_b2 (f_X4_init h24 (jw_n h23) v25) fun w27 h26 =>
 (jw_pR h26 11 (some x0) 8 (some (jw_n h23))).bind fun h28 =>
 (some (jw_new h28 (2, 0) (jw_nf 2))).bind fun h29 =>
 (jw_gR h29 11 (some x0) 5).bind fun v30 =>
 (jw_gR h29 11 (some x0) 8).bind fun v31 =>
 jw_b2 (f_X2_init h29 (jw_n h28) v30 v31) fun w33 h32 =>
 (some (jw_new h32 (8, 0) (jw_nf 8))).bind fun h34 =>
 jw_b2 (f_X8_init h34 (jw_n h32)) fun w36 h35 =>
 (some (jw_new h35 (10, 0) (jw_nf 10))).bind fun h37 =>
 (jw_gR h37 11 (some x0) 5).bind fun v38 =>
 (jw_gR h37 11 (some x0) 6).bind fun v39 =>
 (jw_gR h37 11 (some x0) 7).bind fun v40 =>
 (jw_gR h37 11 (some x0) 8).bind fun v41 =>
 (jw_gR h37 11 (some x0) 11).bind fun v42 =>
 jw_b2 (f_X10_init h37 (jw_n h35) v38 v39 v40 (some (jw_n h32)) v41 (some (jw_n h28)) v42) fun w44 h43 =>
 (jw_pR h43 11 (some x0) 9 (some (jw_n h35))).bind fun h45 =>
 (some (jw_new h45 (1, 0) (jw_nf 1))).bind fun h46 =>
 (jw_gR h46 11 (some x0) 5).bind fun v47 =>
 (jw_gR h46 11 (some x0) 6).bind fun v48 =>
 (jw_gR h46 11 (some x0) 7).bind fun v49 =>
 (jw_gR h46 11 (some x0) 8).bind fun v50 =>
 jw_b2 (f_X1_init h46 (jw_n h45) v47 v48 v49 (some (jw_n h32)) v50 (some (jw_n h28))) fun w52 h51 =>
 (jw_pR h51 11 (some x0) 10 (some (jw_n h45))).bind fun h53 =>
 some ((), h53))
 else ((jw_gR h 11 (some x0) 2).bind fun v54 =>
 (jw_si h 20 v54 x1 (-1 : Int32)).bind fun h55 =>
 k32 h55 x0 (x1 + (1 : Int32)))

noncomputable def f_X11_init_b32 (n : Nat) : jw_H → Nat → Int32 → Option (Unit × jw_H) :=
 Nat.rec (fun _ _ _ => none) (fun _ k32 => g_X11_init_b32 k32) n

noncomputable def f_X11_init (h : jw_H) (x0 : Nat) : Option (Unit × jw_H) :=
 (jw_mka h 21 (60 : Int32)).bind fun h1 =>
 (jw_pR h1 11 (some x0) 0 (some (jw_n h))).bind fun h3 =>
 (some (jw_mm h3)).bind fun h4 =>
 (jw_pR h4 11 (some x0) 1 (some (jw_n h3))).bind fun h5 =>
 (jw_mka h5 20 (4 : Int32)).bind fun h6 =>
 (jw_pR h6 11 (some x0) 2 (some (jw_n h5))).bind fun h8 =>
 f_X11_init_b32  jw_FU h8 x0 (0 : Int32)

set_option maxRecDepth 100000 in
set_option maxHeartbeats 4000000 in
theorem l_X11_init_b32g {hi : jw_H} {k32 : jw_H → Nat → Int32 → Option (Unit × jw_H)} (hk32 : ∀ (h : jw_H) (x0 : Nat) (x1 : Int32) (r : Unit) (h' : jw_H), k32 h x0 x1 = some (r, h') → jw_E 4 uX11_init hi 32 [some (.ref x0), some (.int x1), none] [] h (.inl none) h') {h : jw_H} {x0 : Nat} {x1 : Int32} {r : Unit} {h' : jw_H} (hq : g_X11_init_b32 k32 h x0 x1 = some (r, h')) : jw_E 4 uX11_init hi 32 [some (.ref x0), some (.int x1), none] [] h (.inl none) h' := by
  unfold g_X11_init_b32 at hq
  refine jw_iload_n dX11_init_32 rfl ?_
  refine jw_iconst dX11_init_33 (v := (4 : Int32)) (by decide) ?_
  rcases jw_if hq with ⟨c1, hq⟩ | ⟨c1, hq⟩
  · refine jw_icmp_ge_t (tgt := 50) dX11_init_34 (by decide) c1 ?_
    refine jw_aload_n dX11_init_50 (o := (some x0)) rfl ?_
    refine jw_sipush dX11_init_51 (v := (1681 : Int32)) (by decide) ?_
    obtain ⟨h2, eh2, hq⟩ := Option.bind_eq_some_iff.mp hq
    obtain ⟨ew3, eh2⟩ := jw_mka_spec eh2
    refine jw_mkI dX11_init_54 ac_int ew3.1 ew3.2 ?_
    rw [eh2]
    obtain ⟨h4, eh4, hq⟩ := Option.bind_eq_some_iff.mp hq
    refine jw_putF (o := (some x0)) (x := (some (jw_n h))) dX11_init_56 eh4 fl_X11_22 fk_X11_22 rfl rfl rfl rfl ?_
    refine jw_aload_n dX11_init_59 (o := (some x0)) rfl ?_
    refine jw_bipush dX11_init_60 (v := (40 : Int32)) (by decide) ?_
    obtain ⟨h5, eh5, hq⟩ := Option.bind_eq_some_iff.mp hq
    obtain ⟨ew6, eh5⟩ := jw_mka_spec eh5
    refine jw_mkI dX11_init_62 ac_int ew6.1 ew6.2 ?_
    rw [eh5]
    obtain ⟨h7, eh7, hq⟩ := Option.bind_eq_some_iff.mp hq
    refine jw_putF (o := (some x0)) (x := (some (jw_n h4))) dX11_init_64 eh7 fl_X11_25 fk_X11_25 rfl rfl rfl rfl ?_
    refine jw_aload_n dX11_init_67 (o := (some x0)) rfl ?_
    obtain ⟨h8, eh8, hq⟩ := Option.bind_eq_some_iff.mp hq
    have eh8 := Option.some.inj eh8
    refine jw_mk (c := 6) dX11_init_68 (by decide) cl_X11_28 inst_6 ini_6 ?_
    rw [eh8]
    refine jw_dup dX11_init_71 rfl ?_
    obtain ⟨w10, h9, ew10, hq⟩ := jw_b2_spec hq
    refine jw_callI (As := []) (S := [.ref (jw_n h7), .ref x0]) (a := (jw_n h7)) (v := none) dX11_init_72 mt_X6_init in_X6_init rfl lk_X11_30 (c_X6_init ew10) rfl (by decide) (Nat.le_of_ble_eq_true rfl) rfl ?_
    obtain ⟨h11, eh11, hq⟩ := Option.bind_eq_some_iff.mp hq
    refine jw_putF (o := (some x0)) (x := (some (jw_n h7))) dX11_init_75 eh11 fl_X11_31 fk_X11_31 rfl rfl rfl rfl ?_
    refine jw_aload_n dX11_init_78 (o := (some x0)) rfl ?_
    obtain ⟨h12, eh12, hq⟩ := Option.bind_eq_some_iff.mp hq
    have eh12 := Option.some.inj eh12
    refine jw_mk (c := 9) dX11_init_79 (by decide) cl_X11_35 inst_9 ini_9 ?_
    rw [eh12]
    refine jw_dup dX11_init_82 rfl ?_
    obtain ⟨w14, h13, ew14, hq⟩ := jw_b2_spec hq
    refine jw_callI (As := []) (S := [.ref (jw_n h11), .ref x0]) (a := (jw_n h11)) (v := none) dX11_init_83 mt_X9_init in_X9_init rfl lk_X11_37 (c_X9_init ew14) rfl (by decide) (Nat.le_of_ble_eq_true rfl) rfl ?_
    obtain ⟨h15, eh15, hq⟩ := Option.bind_eq_some_iff.mp hq
    refine jw_putF (o := (some x0)) (x := (some (jw_n h11))) dX11_init_86 eh15 fl_X11_38 fk_X11_38 rfl rfl rfl rfl ?_
    refine jw_aload_n dX11_init_89 (o := (some x0)) rfl ?_
    obtain ⟨h16, eh16, hq⟩ := Option.bind_eq_some_iff.mp hq
    have eh16 := Option.some.inj eh16
    refine jw_mk (c := 8) dX11_init_90 (by decide) cl_X11_42 inst_8 ini_8 ?_
    rw [eh16]
    refine jw_dup dX11_init_93 rfl ?_
    obtain ⟨w18, h17, ew18, hq⟩ := jw_b2_spec hq
    refine jw_callI (As := []) (S := [.ref (jw_n h15), .ref x0]) (a := (jw_n h15)) (v := none) dX11_init_94 mt_X8_init in_X8_init rfl lk_X11_44 (c_X8_init ew18) rfl (by decide) (Nat.le_of_ble_eq_true rfl) rfl ?_
    obtain ⟨h19, eh19, hq⟩ := Option.bind_eq_some_iff.mp hq
    refine jw_putF (o := (some x0)) (x := (some (jw_n h15))) dX11_init_97 eh19 fl_X11_45 fk_X11_45 rfl rfl rfl rfl ?_
    refine jw_aload_n dX11_init_100 (o := (some x0)) rfl ?_
    obtain ⟨h20, eh20, hq⟩ := Option.bind_eq_some_iff.mp hq
    have eh20 := Option.some.inj eh20
    refine jw_mk (c := 3) dX11_init_101 (by decide) cl_X11_49 inst_3 ini_3 ?_
    rw [eh20]
    refine jw_dup dX11_init_104 rfl ?_
    obtain ⟨w22, h21, ew22, hq⟩ := jw_b2_spec hq
    refine jw_callI (As := []) (S := [.ref (jw_n h19), .ref x0]) (a := (jw_n h19)) (v := none) dX11_init_105 mt_X3_init in_X3_init rfl lk_X11_51 (c_X3_init ew22) rfl (by decide) (Nat.le_of_ble_eq_true rfl) rfl ?_
    obtain ⟨h23, eh23, hq⟩ := Option.bind_eq_some_iff.mp hq
    refine jw_putF (o := (some x0)) (x := (some (jw_n h19))) dX11_init_108 eh23 fl_X11_52 fk_X11_52 rfl rfl rfl rfl ?_
    refine jw_aload_n dX11_init_111 (o := (some x0)) rfl ?_
    obtain ⟨h24, eh24, hq⟩ := Option.bind_eq_some_iff.mp hq
    have eh24 := Option.some.inj eh24
    refine jw_mk (c := 4) dX11_init_112 (by decide) cl_X11_56 inst_4 ini_4 ?_
    rw [eh24]
    refine jw_dup dX11_init_115 rfl ?_
    refine jw_aload_n dX11_init_116 (o := (some x0)) rfl ?_
    obtain ⟨v25, ev25, hq⟩ := Option.bind_eq_some_iff.mp hq
    refine jw_getR (o := (some x0)) dX11_init_117 ev25 fl_X11_31 rfl ?_
    obtain ⟨w27, h26, ew27, hq⟩ := jw_b2_spec hq
    refine jw_callI (As := [va_rf v25]) (S := [.ref (jw_n h23), .ref x0]) (a := (jw_n h23)) (v := none) dX11_init_120 mt_X4_init in_X4_init rfl lk_X11_58 (c_X4_init ew27) rfl (by decide) (Nat.le_of_ble_eq_true rfl) rfl ?_
    obtain ⟨h28, eh28, hq⟩ := Option.bind_eq_some_iff.mp hq
    refine jw_putF (o := (some x0)) (x := (some (jw_n h23))) dX11_init_123 eh28 fl_X11_61 fk_X11_61 rfl rfl rfl rfl ?_
    obtain ⟨h29, eh29, hq⟩ := Option.bind_eq_some_iff.mp hq
    have eh29 := Option.some.inj eh29
    refine jw_mk (c := 2) dX11_init_126 (by decide) cl_X11_65 inst_2 ini_2 ?_
    rw [eh29]
    refine jw_dup dX11_init_129 rfl ?_
    refine jw_aload_n dX11_init_130 (o := (some x0)) rfl ?_
    obtain ⟨v30, ev30, hq⟩ := Option.bind_eq_some_iff.mp hq
    refine jw_getR (o := (some x0)) dX11_init_131 ev30 fl_X11_31 rfl ?_
    refine jw_aload_n dX11_init_134 (o := (some x0)) rfl ?_
    obtain ⟨v31, ev31, hq⟩ := Option.bind_eq_some_iff.mp hq
    refine jw_getR (o := (some x0)) dX11_init_135 ev31 fl_X11_61 rfl ?_
    obtain ⟨w33, h32, ew33, hq⟩ := jw_b2_spec hq
    refine jw_callI (As := [va_rf v30, va_rf v31]) (S := [.ref (jw_n h28)]) (a := (jw_n h28)) (v := none) dX11_init_138 mt_X2_init in_X2_init rfl lk_X11_67 (c_X2_init ew33) rfl (by decide) (Nat.le_of_ble_eq_true rfl) rfl ?_
    refine jw_astore_n (o := (some (jw_n h28))) (L' := [some (.ref x0), some (.ref (jw_n h28)), none]) dX11_init_141 (Nat.le_of_ble_eq_true rfl) rfl ?_
    obtain ⟨h34, eh34, hq⟩ := Option.bind_eq_some_iff.mp hq
    have eh34 := Option.some.inj eh34
    refine jw_mk (c := 8) dX11_init_142 (by decide) cl_X11_42 inst_8 ini_8 ?_
    rw [eh34]
    refine jw_dup dX11_init_145 rfl ?_
    obtain ⟨w36, h35, ew36, hq⟩ := jw_b2_spec hq
    refine jw_callI (As := []) (S := [.ref (jw_n h32)]) (a := (jw_n h32)) (v := none) dX11_init_146 mt_X8_init in_X8_init rfl lk_X11_44 (c_X8_init ew36) rfl (by decide) (Nat.le_of_ble_eq_true rfl) rfl ?_
    refine jw_astore_n (o := (some (jw_n h32))) (L' := [some (.ref x0), some (.ref (jw_n h28)), some (.ref (jw_n h32))]) dX11_init_149 (Nat.le_of_ble_eq_true rfl) rfl ?_
    refine jw_aload_n dX11_init_150 (o := (some x0)) rfl ?_
    obtain ⟨h37, eh37, hq⟩ := Option.bind_eq_some_iff.mp hq
    have eh37 := Option.some.inj eh37
    refine jw_mk (c := 10) dX11_init_151 (by decide) cl_X11_70 inst_10 ini_10 ?_
    rw [eh37]
    refine jw_dup dX11_init_154 rfl ?_
    refine jw_aload_n dX11_init_155 (o := (some x0)) rfl ?_
    obtain ⟨v38, ev38, hq⟩ := Option.bind_eq_some_iff.mp hq
    refine jw_getR (o := (some x0)) dX11_init_156 ev38 fl_X11_31 rfl ?_
    refine jw_aload_n dX11_init_159 (o := (some x0)) rfl ?_
    obtain ⟨v39, ev39, hq⟩ := Option.bind_eq_some_iff.mp hq
    refine jw_getR (o := (some x0)) dX11_init_160 ev39 fl_X11_38 rfl ?_
    refine jw_aload_n dX11_init_163 (o := (some x0)) rfl ?_
    obtain ⟨v40, ev40, hq⟩ := Option.bind_eq_some_iff.mp hq
    refine jw_getR (o := (some x0)) dX11_init_164 ev40 fl_X11_45 rfl ?_
    refine jw_aload_n dX11_init_167 (o := (some (jw_n h32))) rfl ?_
    refine jw_aload_n dX11_init_168 (o := (some x0)) rfl ?_
    obtain ⟨v41, ev41, hq⟩ := Option.bind_eq_some_iff.mp hq
    refine jw_getR (o := (some x0)) dX11_init_169 ev41 fl_X11_61 rfl ?_
    refine jw_aload_n dX11_init_172 (o := (some (jw_n h28))) rfl ?_
    refine jw_aload_n dX11_init_173 (o := (some x0)) rfl ?_
    obtain ⟨v42, ev42, hq⟩ := Option.bind_eq_some_iff.mp hq
    refine jw_getR (o := (some x0)) dX11_init_174 ev42 fl_X11_52 rfl ?_
    obtain ⟨w44, h43, ew44, hq⟩ := jw_b2_spec hq
    refine jw_callI (As := [va_rf v38, va_rf v39, va_rf v40, va_rf (some (jw_n h32)), va_rf v41, va_rf (some (jw_n h28)), va_rf v42]) (S := [.ref (jw_n h35), .ref x0]) (a := (jw_n h35)) (v := none) dX11_init_177 mt_X10_init in_X10_init rfl lk_X11_72 (c_X10_init ew44) rfl (by decide) (Nat.le_of_ble_eq_true rfl) rfl ?_
    obtain ⟨h45, eh45, hq⟩ := Option.bind_eq_some_iff.mp hq
    refine jw_putF (o := (some x0)) (x := (some (jw_n h35))) dX11_init_180 eh45 fl_X11_75 fk_X11_75 rfl rfl rfl rfl ?_
    refine jw_aload_n dX11_init_183 (o := (some x0)) rfl ?_
    obtain ⟨h46, eh46, hq⟩ := Option.bind_eq_some_iff.mp hq
    have eh46 := Option.some.inj eh46
    refine jw_mk (c := 1) dX11_init_184 (by decide) cl_X11_79 inst_1 ini_1 ?_
    rw [eh46]
    refine jw_dup dX11_init_187 rfl ?_
    refine jw_aload_n dX11_init_188 (o := (some x0)) rfl ?_
    obtain ⟨v47, ev47, hq⟩ := Option.bind_eq_some_iff.mp hq
    refine jw_getR (o := (some x0)) dX11_init_189 ev47 fl_X11_31 rfl ?_
    refine jw_aload_n dX11_init_192 (o := (some x0)) rfl ?_
    obtain ⟨v48, ev48, hq⟩ := Option.bind_eq_some_iff.mp hq
    refine jw_getR (o := (some x0)) dX11_init_193 ev48 fl_X11_38 rfl ?_
    refine jw_aload_n dX11_init_196 (o := (some x0)) rfl ?_
    obtain ⟨v49, ev49, hq⟩ := Option.bind_eq_some_iff.mp hq
    refine jw_getR (o := (some x0)) dX11_init_197 ev49 fl_X11_45 rfl ?_
    refine jw_aload_n dX11_init_200 (o := (some (jw_n h32))) rfl ?_
    refine jw_aload_n dX11_init_201 (o := (some x0)) rfl ?_
    obtain ⟨v50, ev50, hq⟩ := Option.bind_eq_some_iff.mp hq
    refine jw_getR (o := (some x0)) dX11_init_202 ev50 fl_X11_61 rfl ?_
    refine jw_aload_n dX11_init_205 (o := (some (jw_n h28))) rfl ?_
    obtain ⟨w52, h51, ew52, hq⟩ := jw_b2_spec hq
    refine jw_callI (As := [va_rf v47, va_rf v48, va_rf v49, va_rf (some (jw_n h32)), va_rf v50, va_rf (some (jw_n h28))]) (S := [.ref (jw_n h45), .ref x0]) (a := (jw_n h45)) (v := none) dX11_init_206 mt_X1_init in_X1_init rfl lk_X11_81 (c_X1_init ew52) rfl (by decide) (Nat.le_of_ble_eq_true rfl) rfl ?_
    obtain ⟨h53, eh53, hq⟩ := Option.bind_eq_some_iff.mp hq
    refine jw_putF (o := (some x0)) (x := (some (jw_n h45))) dX11_init_209 eh53 fl_X11_84 fk_X11_84 rfl rfl rfl rfl ?_
    cases hq
    exact jw_vret dX11_init_212 rfl
  · refine jw_icmp_ge_f (tgt := 50) dX11_init_34 (by decide) c1 ?_
    refine jw_aload_n dX11_init_37 (o := (some x0)) rfl ?_
    obtain ⟨v54, ev54, hq⟩ := Option.bind_eq_some_iff.mp hq
    refine jw_getR (o := (some x0)) dX11_init_38 ev54 fl_X11_18 rfl ?_
    refine jw_iload_n dX11_init_41 rfl ?_
    refine jw_iconst dX11_init_42 (v := (-1 : Int32)) (by decide) ?_
    obtain ⟨h55, eh55, hq⟩ := Option.bind_eq_some_iff.mp hq
    refine jw_iast (o := v54) dX11_init_43 eh55 ?_
    refine jw_iinc (L' := [some (.ref x0), some (.int (x1 + (1 : Int32))), none]) dX11_init_44 rfl (v := (1 : Int32)) (by decide) (Nat.le_of_ble_eq_true rfl) rfl ?_
    refine jw_goto (tgt := 32) dX11_init_47 (by decide) ?_
    exact hk32 _ _ _ _ _ hq

theorem l_X11_init_b32 {hi : jw_H} : ∀ (n : Nat) (h : jw_H) (x0 : Nat) (x1 : Int32) (r : Unit) (h' : jw_H), f_X11_init_b32  n h x0 x1 = some (r, h') → jw_E 4 uX11_init hi 32 [some (.ref x0), some (.int x1), none] [] h (.inl none) h' := by
  intro n
  induction n with
  | zero => intro h x0 x1 r h' hq; exact nomatch hq
  | succ n ih => intro h x0 x1 r h' hq; exact l_X11_init_b32g ih hq

set_option maxRecDepth 100000 in
set_option maxHeartbeats 4000000 in
theorem l_X11_init {hi : jw_H} {h : jw_H} {x0 : Nat} {r : Unit} {h' : jw_H} (hq : f_X11_init  h x0 = some (r, h')) : jw_E 4 uX11_init hi 0 [some (.ref x0), none, none] [] h (.inl none) h' := by
  unfold f_X11_init at hq
  refine jw_aload_n dX11_init_0 (o := (some x0)) rfl ?_
  refine jw_obj dX11_init_1 ol_X11_1 oi_0 oc_0 (by decide) (Nat.le_of_ble_eq_true rfl) ?_
  refine jw_aload_n dX11_init_4 (o := (some x0)) rfl ?_
  refine jw_bipush dX11_init_5 (v := (60 : Int32)) (by decide) ?_
  obtain ⟨h1, eh1, hq⟩ := Option.bind_eq_some_iff.mp hq
  obtain ⟨ew2, eh1⟩ := jw_mka_spec eh1
  refine jw_mkB dX11_init_7 ac_byte ew2.1 ew2.2 ?_
  rw [eh1]
  obtain ⟨h3, eh3, hq⟩ := Option.bind_eq_some_iff.mp hq
  refine jw_putF (o := (some x0)) (x := (some (jw_n h))) dX11_init_9 eh3 fl_X11_9 fk_X11_9 rfl rfl rfl rfl ?_
  refine jw_aload_n dX11_init_12 (o := (some x0)) rfl ?_
  refine jw_iconst dX11_init_13 (v := (4 : Int32)) (by decide) ?_
  refine jw_bipush dX11_init_14 (v := (60 : Int32)) (by decide) ?_
  obtain ⟨h4, eh4, hq⟩ := Option.bind_eq_some_iff.mp hq
  have eh4 := Option.some.inj eh4
  refine jw_mka2 dX11_init_16 cl_X11_13 ac_byte ?_
  rw [eh4]
  obtain ⟨h5, eh5, hq⟩ := Option.bind_eq_some_iff.mp hq
  refine jw_putF (o := (some x0)) (x := (some (jw_n h3))) dX11_init_20 eh5 fl_X11_15 fk_X11_15 rfl rfl rfl rfl ?_
  refine jw_aload_n dX11_init_23 (o := (some x0)) rfl ?_
  refine jw_iconst dX11_init_24 (v := (4 : Int32)) (by decide) ?_
  obtain ⟨h6, eh6, hq⟩ := Option.bind_eq_some_iff.mp hq
  obtain ⟨ew7, eh6⟩ := jw_mka_spec eh6
  refine jw_mkI dX11_init_25 ac_int ew7.1 ew7.2 ?_
  rw [eh6]
  obtain ⟨h8, eh8, hq⟩ := Option.bind_eq_some_iff.mp hq
  refine jw_putF (o := (some x0)) (x := (some (jw_n h5))) dX11_init_27 eh8 fl_X11_18 fk_X11_18 rfl rfl rfl rfl ?_
  refine jw_iconst dX11_init_30 (v := (0 : Int32)) (by decide) ?_
  refine jw_istore_n (L' := [some (.ref x0), some (.int (0 : Int32)), none]) dX11_init_31 (Nat.le_of_ble_eq_true rfl) rfl ?_
  exact l_X11_init_b32  jw_FU _ _ _ _ _ hq

theorem c_X11_init {h : jw_H} {x0 : Nat} {r : Unit} {h' : jw_H} (hq : f_X11_init h x0 = some (r, h')) : jw_Con (Cond.code yX11_init cX11_init 3 none) yX11_init 4 [.ref x0] h (.inl none) h' :=
  jw_con true (plainFor_of_name (by decide +kernel)) (fun _ => rfl) (by simp [jw_ent, jw_sl0_nil, jw_sl0_int, jw_sl0_long, jw_sl0_ref, jw_sl0_rf, jw_sl0_scr, List.replicate]) (by simp [jw_sl0_nil, jw_sl0_int, jw_sl0_long, jw_sl0_ref, jw_sl0_rf, jw_sl0_scr]) (l_X11_init hq)


/-! X9_nextLot -/
noncomputable def f_X9_nextLot (h : jw_H) (x0 : Nat) (x1 : Int32) : Option (Int32 × jw_H) :=
 some (((((25173 : Int32) * x1) + (13849 : Int32)) &&& (65535 : Int32)), h)

set_option maxRecDepth 100000 in
set_option maxHeartbeats 4000000 in
theorem l_X9_nextLot {hi : jw_H} {h : jw_H} {x0 : Nat} {x1 : Int32} {r : Int32} {h' : jw_H} (hq : f_X9_nextLot  h x0 x1 = some (r, h')) : jw_E 0 uX9_nextLot hi 0 [some (.ref x0), some (.int x1)] [] h (.inl (some (.int r))) h' := by
  unfold f_X9_nextLot at hq
  refine jw_sipush dX9_nextLot_0 (v := (25173 : Int32)) (by decide) ?_
  refine jw_iload_n dX9_nextLot_3 rfl ?_
  refine jw_imul dX9_nextLot_4 ?_
  refine jw_sipush dX9_nextLot_5 (v := (13849 : Int32)) (by decide) ?_
  refine jw_iadd dX9_nextLot_8 ?_
  refine jw_ldc dX9_nextLot_9 cw_X9_87 ?_
  refine jw_iand dX9_nextLot_11 ?_
  cases hq
  exact jw_iret (ty := .int) dX9_nextLot_12 rfl rfl

theorem c_X9_nextLot {h : jw_H} {x0 : Nat} {x1 : Int32} {r : Int32} {h' : jw_H} (hq : f_X9_nextLot h x0 x1 = some (r, h')) : jw_Con (Cond.code yX9_nextLot cX9_nextLot 2 (some .int)) yX9_nextLot 0 [.ref x0, .int x1] h (.inl (some (.int r))) h' :=
  jw_con false (plainFor_of_name (by decide +kernel)) (fun z => nomatch z) (by simp [jw_ent, jw_sl0_nil, jw_sl0_int, jw_sl0_long, jw_sl0_ref, jw_sl0_rf, jw_sl0_scr, List.replicate]) (by simp [jw_sl0_nil, jw_sl0_int, jw_sl0_long, jw_sl0_ref, jw_sl0_rf, jw_sl0_scr]) (l_X9_nextLot hq)


/-! X9_addSample -/
noncomputable def g_X9_addSample_b89 (k38 : jw_H → Nat → Int32 → Option Nat → Int32 → Int32 → Int32 → Int32 → Option (Unit × jw_H)) (h : jw_H) (x0 : Nat) (x2 : Int32) (x3 : Option Nat) (x4 : Int32) (x5 : Int32) (x6 : Int32) (x7 : Int32) (t0 : Option Nat) (t1 : Int32) (t2 : Int32) : Option (Unit × jw_H) :=
 (jw_si h 21 t0 t1 (vp_nar .byte t2.toInt8.toInt32)).bind fun h1 =>
 k38 h1 x0 x2 x3 x4 x5 x6 (x7 + (1 : Int32))

noncomputable def g_X9_addSample_b132 (k11 : jw_H → Nat → Int32 → Option Nat → Int32 → Int32 → Option (Unit × jw_H)) (h : jw_H) (x0 : Nat) (x2 : Int32) (x3 : Option Nat) (x4 : Int32) (x5 : Int32) : Option (Unit × jw_H) :=
 k11 h x0 x2 x3 x4 (x5 + (1 : Int32))

noncomputable def g_X9_addSample_b97 (k11 : jw_H → Nat → Int32 → Option Nat → Int32 → Int32 → Option (Unit × jw_H)) (h : jw_H) (x0 : Nat) (x2 : Int32) (x3 : Option Nat) (x4 : Int32) (x5 : Int32) (x6 : Int32) : Option (Unit × jw_H) :=
 (jw_gR h 9 (some x0) 0).bind fun v1 =>
 (jw_gI h 7 v1 2).bind fun v2 =>
 (jw_rc h 9 (some x0)).bind fun a3 =>
 jw_b2 (f_X9_open h a3 (v2 + (1 : Int32)) (1 : Int32)) fun w5 h4 =>
 if w5 = 0 then (g_X9_addSample_b132 k11 h4 x0 x2 x3 x4 x5)
 else ((jw_gR h4 9 (some x0) 0).bind fun v7 =>
 (jw_gR h4 9 (some x0) 0).bind fun v8 =>
 (jw_gI h4 7 v8 2).bind fun v9 =>
 (jw_rc h4 7 v7).bind fun a10 =>
 jw_b2 (f_X7_write h4 a10 v9 x3 (0 : Int32) x6) fun w12 h11 =>
 g_X9_addSample_b132 k11 h11 x0 x2 x3 x4 x5)

noncomputable def g_X9_addSample_b38 (k11 : jw_H → Nat → Int32 → Option Nat → Int32 → Int32 → Option (Unit × jw_H)) (k38 : jw_H → Nat → Int32 → Option Nat → Int32 → Int32 → Int32 → Int32 → Option (Unit × jw_H)) (h : jw_H) (x0 : Nat) (x2 : Int32) (x3 : Option Nat) (x4 : Int32) (x5 : Int32) (x6 : Int32) (x7 : Int32) : Option (Unit × jw_H) :=
 if x6 ≤ x7 then (g_X9_addSample_b97 k11 h x0 x2 x3 x4 x5 x6)
 else ((jw_ln h x3).bind fun v2 =>
 if v2 ≤ x7 then (g_X9_addSample_b97 k11 h x0 x2 x3 x4 x5 x6)
 else ((jw_rc h 9 (some x0)).bind fun a4 =>
 jw_b2 (f_X9_nextLot h a4 x4) fun w6 h5 =>
 if ((w6 / (16 : Int32)) - (w6 / (16 : Int32)) / (6 : Int32) * (6 : Int32)) = (5 : Int32) then (g_X9_addSample_b89 k38 h5 x0 x2 x3 w6 x5 x6 x7 x3 x7 (32 : Int32))
 else (g_X9_addSample_b89 k38 h5 x0 x2 x3 w6 x5 x6 x7 x3 x7 ((97 : Int32) + ((w6 / (16 : Int32)) - (w6 / (16 : Int32)) / (6 : Int32) * (6 : Int32))))))

noncomputable def f_X9_addSample_b38 (k11 : jw_H → Nat → Int32 → Option Nat → Int32 → Int32 → Option (Unit × jw_H)) (n : Nat) : jw_H → Nat → Int32 → Option Nat → Int32 → Int32 → Int32 → Int32 → Option (Unit × jw_H) :=
 Nat.rec (fun _ _ _ _ _ _ _ _ => none) (fun _ k38 => g_X9_addSample_b38 k11 k38) n

noncomputable def g_X9_addSample_b11 (k11 : jw_H → Nat → Int32 → Option Nat → Int32 → Int32 → Option (Unit × jw_H)) (h : jw_H) (x0 : Nat) (x2 : Int32) (x3 : Option Nat) (x4 : Int32) (x5 : Int32) : Option (Unit × jw_H) :=
 if x2 ≤ x5 then ((jw_gR h 9 (some x0) 0).bind fun v2 =>
 (jw_gI h 7 v2 2).bind fun v3 =>
 (jw_pI h 9 (some x0) 3 v3).bind fun h4 =>
 some ((), h4))
 else ((jw_rc h 9 (some x0)).bind fun a5 =>
 jw_b2 (f_X9_nextLot h a5 x4) fun w7 h6 =>
 f_X9_addSample_b38 k11 jw_FU h6 x0 x2 x3 w7 x5 ((w7 / (16 : Int32)) - (w7 / (16 : Int32)) / (9 : Int32) * (9 : Int32)) (0 : Int32))

noncomputable def f_X9_addSample_b11 (n : Nat) : jw_H → Nat → Int32 → Option Nat → Int32 → Int32 → Option (Unit × jw_H) :=
 Nat.rec (fun _ _ _ _ _ _ => none) (fun _ k11 => g_X9_addSample_b11 k11) n

noncomputable def f_X9_addSample (h : jw_H) (x0 : Nat) (x1 : Int32) (x2 : Int32) : Option (Unit × jw_H) :=
 (jw_mka h 21 (9 : Int32)).bind fun h1 =>
 f_X9_addSample_b11  jw_FU h1 x0 x2 (some (jw_n h)) x1 (0 : Int32)

set_option maxRecDepth 100000 in
set_option maxHeartbeats 4000000 in
theorem l_X9_addSample_b89 {hi : jw_H} {k38 : jw_H → Nat → Int32 → Option Nat → Int32 → Int32 → Int32 → Int32 → Option (Unit × jw_H)} (hk38 : ∀ (h : jw_H) (x0 : Nat) (x2 : Int32) (x3 : Option Nat) (x4 : Int32) (x5 : Int32) (x6 : Int32) (x7 : Int32) (r : Unit) (h' : jw_H), k38 h x0 x2 x3 x4 x5 x6 x7 = some (r, h') → jw_E 3 uX9_addSample hi 38 [some (.ref x0), none, some (.int x2), some (va_rf x3), some (.int x4), some (.int x5), some (.int x6), some (.int x7), none] [] h (.inl none) h') {h : jw_H} {x0 : Nat} {x2 : Int32} {x3 : Option Nat} {x4 : Int32} {x5 : Int32} {x6 : Int32} {x7 : Int32} {t0 : Option Nat} {t1 : Int32} {t2 : Int32} {r : Unit} {h' : jw_H} (hq : g_X9_addSample_b89 k38 h x0 x2 x3 x4 x5 x6 x7 t0 t1 t2 = some (r, h')) : jw_E 3 uX9_addSample hi 89 [some (.ref x0), none, some (.int x2), some (va_rf x3), some (.int x4), some (.int x5), some (.int x6), some (.int x7), none] [.int t2, .int t1, va_rf t0] h (.inl none) h' := by
  unfold g_X9_addSample_b89 at hq
  refine jw_i2b dX9_addSample_89 ?_
  obtain ⟨h1, eh1, hq⟩ := Option.bind_eq_some_iff.mp hq
  refine jw_bast (o := t0) rfl dX9_addSample_90 eh1 ?_
  refine jw_iinc (L' := [some (.ref x0), none, some (.int x2), some (va_rf x3), some (.int x4), some (.int x5), some (.int x6), some (.int (x7 + (1 : Int32))), none]) dX9_addSample_91 rfl (v := (1 : Int32)) (by decide) (Nat.le_of_ble_eq_true rfl) rfl ?_
  refine jw_goto (tgt := 38) dX9_addSample_94 (by decide) ?_
  exact hk38 _ _ _ _ _ _ _ _ _ _ hq

set_option maxRecDepth 100000 in
set_option maxHeartbeats 4000000 in
theorem l_X9_addSample_b132 {hi : jw_H} {k11 : jw_H → Nat → Int32 → Option Nat → Int32 → Int32 → Option (Unit × jw_H)} (hk11 : ∀ (h : jw_H) (x0 : Nat) (x2 : Int32) (x3 : Option Nat) (x4 : Int32) (x5 : Int32) (r : Unit) (h' : jw_H), k11 h x0 x2 x3 x4 x5 = some (r, h') → jw_E 3 uX9_addSample hi 11 [some (.ref x0), none, some (.int x2), some (va_rf x3), some (.int x4), some (.int x5), none, none, none] [] h (.inl none) h') {h : jw_H} {x0 : Nat} {x2 : Int32} {x3 : Option Nat} {x4 : Int32} {x5 : Int32} {r : Unit} {h' : jw_H} (hq : g_X9_addSample_b132 k11 h x0 x2 x3 x4 x5 = some (r, h')) : jw_E 3 uX9_addSample hi 132 [some (.ref x0), none, some (.int x2), some (va_rf x3), some (.int x4), some (.int x5), none, none, none] [] h (.inl none) h' := by
  unfold g_X9_addSample_b132 at hq
  refine jw_iinc (L' := [some (.ref x0), none, some (.int x2), some (va_rf x3), some (.int x4), some (.int (x5 + (1 : Int32))), none, none, none]) dX9_addSample_132 rfl (v := (1 : Int32)) (by decide) (Nat.le_of_ble_eq_true rfl) rfl ?_
  refine jw_goto (tgt := 11) dX9_addSample_135 (by decide) ?_
  exact hk11 _ _ _ _ _ _ _ _ hq

set_option maxRecDepth 100000 in
set_option maxHeartbeats 4000000 in
theorem l_X9_addSample_b97 {hi : jw_H} {k11 : jw_H → Nat → Int32 → Option Nat → Int32 → Int32 → Option (Unit × jw_H)} (hk11 : ∀ (h : jw_H) (x0 : Nat) (x2 : Int32) (x3 : Option Nat) (x4 : Int32) (x5 : Int32) (r : Unit) (h' : jw_H), k11 h x0 x2 x3 x4 x5 = some (r, h') → jw_E 3 uX9_addSample hi 11 [some (.ref x0), none, some (.int x2), some (va_rf x3), some (.int x4), some (.int x5), none, none, none] [] h (.inl none) h') {h : jw_H} {x0 : Nat} {x2 : Int32} {x3 : Option Nat} {x4 : Int32} {x5 : Int32} {x6 : Int32} {r : Unit} {h' : jw_H} (hq : g_X9_addSample_b97 k11 h x0 x2 x3 x4 x5 x6 = some (r, h')) : jw_E 3 uX9_addSample hi 97 [some (.ref x0), none, some (.int x2), some (va_rf x3), some (.int x4), some (.int x5), some (.int x6), none, none] [] h (.inl none) h' := by
  unfold g_X9_addSample_b97 at hq
  refine jw_aload_n dX9_addSample_97 (o := (some x0)) rfl ?_
  refine jw_aload_n dX9_addSample_98 (o := (some x0)) rfl ?_
  obtain ⟨v1, ev1, hq⟩ := Option.bind_eq_some_iff.mp hq
  refine jw_getR (o := (some x0)) dX9_addSample_99 ev1 fl_X9_14 rfl ?_
  obtain ⟨v2, ev2, hq⟩ := Option.bind_eq_some_iff.mp hq
  refine jw_getI (o := v1) dX9_addSample_102 ev2 fl_X9_41 rfl ?_
  refine jw_iconst dX9_addSample_105 (v := (1 : Int32)) (by decide) ?_
  refine jw_iadd dX9_addSample_106 ?_
  refine jw_iconst dX9_addSample_107 (v := (1 : Int32)) (by decide) ?_
  obtain ⟨a3, ea3, hq⟩ := Option.bind_eq_some_iff.mp hq
  obtain ⟨eoa3, eta3⟩ := jw_rc_spec ea3
  obtain ⟨w5, h4, ew5, hq⟩ := jw_b2_spec hq
  refine jw_callV (As := [.int (v2 + (1 : Int32)), .int (1 : Int32)]) (S := []) (a := a3) (v := some (.int w5)) dX9_addSample_108 mt_X9_open in_X9_open se_X9_open lk_X9_82 (c_X9_open ew5) eta3 (by decide) rfl rfl (by decide) (Nat.le_of_ble_eq_true rfl) (by cases eoa3; rfl) ?_
  rcases jw_if hq with ⟨c6, hq⟩ | ⟨c6, hq⟩
  · refine jw_if_eq_t (tgt := 132) dX9_addSample_111 (by decide) c6 ?_
    refine jw_forget [true, true, true, true, true, true, false, true, true] (L' := [some (.ref x0), none, some (.int x2), some (va_rf x3), some (.int x4), some (.int x5), none, none, none]) rfl ?_
    exact l_X9_addSample_b132 hk11 hq
  · refine jw_if_eq_f (tgt := 132) dX9_addSample_111 (by decide) c6 ?_
    refine jw_aload_n dX9_addSample_114 (o := (some x0)) rfl ?_
    obtain ⟨v7, ev7, hq⟩ := Option.bind_eq_some_iff.mp hq
    refine jw_getR (o := (some x0)) dX9_addSample_115 ev7 fl_X9_14 rfl ?_
    refine jw_aload_n dX9_addSample_118 (o := (some x0)) rfl ?_
    obtain ⟨v8, ev8, hq⟩ := Option.bind_eq_some_iff.mp hq
    refine jw_getR (o := (some x0)) dX9_addSample_119 ev8 fl_X9_14 rfl ?_
    obtain ⟨v9, ev9, hq⟩ := Option.bind_eq_some_iff.mp hq
    refine jw_getI (o := v8) dX9_addSample_122 ev9 fl_X9_41 rfl ?_
    refine jw_aload_n dX9_addSample_125 (o := x3) rfl ?_
    refine jw_iconst dX9_addSample_126 (v := (0 : Int32)) (by decide) ?_
    refine jw_iload dX9_addSample_127 rfl ?_
    obtain ⟨a10, ea10, hq⟩ := Option.bind_eq_some_iff.mp hq
    obtain ⟨eoa10, eta10⟩ := jw_rc_spec ea10
    obtain ⟨w12, h11, ew12, hq⟩ := jw_b2_spec hq
    refine jw_callV (As := [.int v9, va_rf x3, .int (0 : Int32), .int x6]) (S := []) (a := a10) (v := none) dX9_addSample_129 mt_X7_write in_X7_write se_X7_write lk_X9_83 (c_X7_write ew12) eta10 (by decide) rfl rfl (by decide) (Nat.le_of_ble_eq_true rfl) (by cases eoa10; rfl) ?_
    refine jw_forget [true, true, true, true, true, true, false, true, true] (L' := [some (.ref x0), none, some (.int x2), some (va_rf x3), some (.int x4), some (.int x5), none, none, none]) rfl ?_
    exact l_X9_addSample_b132 hk11 hq

set_option maxRecDepth 100000 in
set_option maxHeartbeats 4000000 in
theorem l_X9_addSample_b38g {hi : jw_H} {k11 : jw_H → Nat → Int32 → Option Nat → Int32 → Int32 → Option (Unit × jw_H)} (hk11 : ∀ (h : jw_H) (x0 : Nat) (x2 : Int32) (x3 : Option Nat) (x4 : Int32) (x5 : Int32) (r : Unit) (h' : jw_H), k11 h x0 x2 x3 x4 x5 = some (r, h') → jw_E 3 uX9_addSample hi 11 [some (.ref x0), none, some (.int x2), some (va_rf x3), some (.int x4), some (.int x5), none, none, none] [] h (.inl none) h') {k38 : jw_H → Nat → Int32 → Option Nat → Int32 → Int32 → Int32 → Int32 → Option (Unit × jw_H)} (hk38 : ∀ (h : jw_H) (x0 : Nat) (x2 : Int32) (x3 : Option Nat) (x4 : Int32) (x5 : Int32) (x6 : Int32) (x7 : Int32) (r : Unit) (h' : jw_H), k38 h x0 x2 x3 x4 x5 x6 x7 = some (r, h') → jw_E 3 uX9_addSample hi 38 [some (.ref x0), none, some (.int x2), some (va_rf x3), some (.int x4), some (.int x5), some (.int x6), some (.int x7), none] [] h (.inl none) h') {h : jw_H} {x0 : Nat} {x2 : Int32} {x3 : Option Nat} {x4 : Int32} {x5 : Int32} {x6 : Int32} {x7 : Int32} {r : Unit} {h' : jw_H} (hq : g_X9_addSample_b38 k11 k38 h x0 x2 x3 x4 x5 x6 x7 = some (r, h')) : jw_E 3 uX9_addSample hi 38 [some (.ref x0), none, some (.int x2), some (va_rf x3), some (.int x4), some (.int x5), some (.int x6), some (.int x7), none] [] h (.inl none) h' := by
  unfold g_X9_addSample_b38 at hq
  refine jw_iload dX9_addSample_38 rfl ?_
  refine jw_iload dX9_addSample_40 rfl ?_
  rcases jw_if hq with ⟨c1, hq⟩ | ⟨c1, hq⟩
  · refine jw_icmp_ge_t (tgt := 97) dX9_addSample_42 (by decide) c1 ?_
    refine jw_forget [true, true, true, true, true, true, true, false, true] (L' := [some (.ref x0), none, some (.int x2), some (va_rf x3), some (.int x4), some (.int x5), some (.int x6), none, none]) rfl ?_
    exact l_X9_addSample_b97 hk11 hq
  · refine jw_icmp_ge_f (tgt := 97) dX9_addSample_42 (by decide) c1 ?_
    refine jw_iload dX9_addSample_45 rfl ?_
    refine jw_aload_n dX9_addSample_47 (o := x3) rfl ?_
    obtain ⟨v2, ev2, hq⟩ := Option.bind_eq_some_iff.mp hq
    refine jw_alen (o := x3) dX9_addSample_48 ev2 ?_
    rcases jw_if hq with ⟨c3, hq⟩ | ⟨c3, hq⟩
    · refine jw_icmp_ge_t (tgt := 97) dX9_addSample_49 (by decide) c3 ?_
      refine jw_forget [true, true, true, true, true, true, true, false, true] (L' := [some (.ref x0), none, some (.int x2), some (va_rf x3), some (.int x4), some (.int x5), some (.int x6), none, none]) rfl ?_
      exact l_X9_addSample_b97 hk11 hq
    · refine jw_icmp_ge_f (tgt := 97) dX9_addSample_49 (by decide) c3 ?_
      refine jw_aload_n dX9_addSample_52 (o := (some x0)) rfl ?_
      refine jw_iload dX9_addSample_53 rfl ?_
      obtain ⟨a4, ea4, hq⟩ := Option.bind_eq_some_iff.mp hq
      obtain ⟨eoa4, eta4⟩ := jw_rc_spec ea4
      obtain ⟨w6, h5, ew6, hq⟩ := jw_b2_spec hq
      refine jw_callV (As := [.int x4]) (S := []) (a := a4) (v := some (.int w6)) dX9_addSample_55 mt_X9_nextLot in_X9_nextLot se_X9_nextLot lk_X9_79 (c_X9_nextLot ew6) eta4 (by decide) rfl rfl (by decide) (Nat.le_of_ble_eq_true rfl) (by cases eoa4; rfl) ?_
      refine jw_istore (L' := [some (.ref x0), none, some (.int x2), some (va_rf x3), some (.int w6), some (.int x5), some (.int x6), some (.int x7), none]) dX9_addSample_58 (Nat.le_of_ble_eq_true rfl) ((jw_st1_of (j := 3) jw_long_rf).trans rfl) ?_
      refine jw_iload dX9_addSample_60 rfl ?_
      refine jw_bipush dX9_addSample_62 (v := (16 : Int32)) (by decide) ?_
      refine jw_idiv dX9_addSample_64 (by decide) ?_
      refine jw_bipush dX9_addSample_65 (v := (6 : Int32)) (by decide) ?_
      refine jw_irem dX9_addSample_67 (by decide) ?_
      refine jw_istore (L' := [some (.ref x0), none, some (.int x2), some (va_rf x3), some (.int w6), some (.int x5), some (.int x6), some (.int x7), some (.int ((w6 / (16 : Int32)) - (w6 / (16 : Int32)) / (6 : Int32) * (6 : Int32)))]) dX9_addSample_68 (Nat.le_of_ble_eq_true rfl) rfl ?_
      refine jw_aload_n dX9_addSample_70 (o := x3) rfl ?_
      refine jw_iload dX9_addSample_71 rfl ?_
      refine jw_iload dX9_addSample_73 rfl ?_
      refine jw_iconst dX9_addSample_75 (v := (5 : Int32)) (by decide) ?_
      rcases jw_if hq with ⟨c7, hq⟩ | ⟨c7, hq⟩
      · refine jw_icmp_ne_f (tgt := 84) dX9_addSample_76 (by decide) c7 ?_
        refine jw_bipush dX9_addSample_79 (v := (32 : Int32)) (by decide) ?_
        refine jw_goto (tgt := 89) dX9_addSample_81 (by decide) ?_
        refine jw_forget [true, true, true, true, true, true, true, true, false] (L' := [some (.ref x0), none, some (.int x2), some (va_rf x3), some (.int w6), some (.int x5), some (.int x6), some (.int x7), none]) rfl ?_
        exact l_X9_addSample_b89 hk38 hq
      · refine jw_icmp_ne_t (tgt := 84) dX9_addSample_76 (by decide) c7 ?_
        refine jw_bipush dX9_addSample_84 (v := (97 : Int32)) (by decide) ?_
        refine jw_iload dX9_addSample_86 rfl ?_
        refine jw_iadd dX9_addSample_88 ?_
        refine jw_forget [true, true, true, true, true, true, true, true, false] (L' := [some (.ref x0), none, some (.int x2), some (va_rf x3), some (.int w6), some (.int x5), some (.int x6), some (.int x7), none]) rfl ?_
        exact l_X9_addSample_b89 hk38 hq

theorem l_X9_addSample_b38 {hi : jw_H} {k11 : jw_H → Nat → Int32 → Option Nat → Int32 → Int32 → Option (Unit × jw_H)} (hk11 : ∀ (h : jw_H) (x0 : Nat) (x2 : Int32) (x3 : Option Nat) (x4 : Int32) (x5 : Int32) (r : Unit) (h' : jw_H), k11 h x0 x2 x3 x4 x5 = some (r, h') → jw_E 3 uX9_addSample hi 11 [some (.ref x0), none, some (.int x2), some (va_rf x3), some (.int x4), some (.int x5), none, none, none] [] h (.inl none) h') : ∀ (n : Nat) (h : jw_H) (x0 : Nat) (x2 : Int32) (x3 : Option Nat) (x4 : Int32) (x5 : Int32) (x6 : Int32) (x7 : Int32) (r : Unit) (h' : jw_H), f_X9_addSample_b38 k11 n h x0 x2 x3 x4 x5 x6 x7 = some (r, h') → jw_E 3 uX9_addSample hi 38 [some (.ref x0), none, some (.int x2), some (va_rf x3), some (.int x4), some (.int x5), some (.int x6), some (.int x7), none] [] h (.inl none) h' := by
  intro n
  induction n with
  | zero => intro h x0 x2 x3 x4 x5 x6 x7 r h' hq; exact nomatch hq
  | succ n ih => intro h x0 x2 x3 x4 x5 x6 x7 r h' hq; exact l_X9_addSample_b38g hk11 ih hq

set_option maxRecDepth 100000 in
set_option maxHeartbeats 4000000 in
theorem l_X9_addSample_b11g {hi : jw_H} {k11 : jw_H → Nat → Int32 → Option Nat → Int32 → Int32 → Option (Unit × jw_H)} (hk11 : ∀ (h : jw_H) (x0 : Nat) (x2 : Int32) (x3 : Option Nat) (x4 : Int32) (x5 : Int32) (r : Unit) (h' : jw_H), k11 h x0 x2 x3 x4 x5 = some (r, h') → jw_E 3 uX9_addSample hi 11 [some (.ref x0), none, some (.int x2), some (va_rf x3), some (.int x4), some (.int x5), none, none, none] [] h (.inl none) h') {h : jw_H} {x0 : Nat} {x2 : Int32} {x3 : Option Nat} {x4 : Int32} {x5 : Int32} {r : Unit} {h' : jw_H} (hq : g_X9_addSample_b11 k11 h x0 x2 x3 x4 x5 = some (r, h')) : jw_E 3 uX9_addSample hi 11 [some (.ref x0), none, some (.int x2), some (va_rf x3), some (.int x4), some (.int x5), none, none, none] [] h (.inl none) h' := by
  unfold g_X9_addSample_b11 at hq
  refine jw_iload dX9_addSample_11 rfl ?_
  refine jw_iload_n dX9_addSample_13 rfl ?_
  rcases jw_if hq with ⟨c1, hq⟩ | ⟨c1, hq⟩
  · refine jw_icmp_ge_t (tgt := 138) dX9_addSample_14 (by decide) c1 ?_
    refine jw_aload_n dX9_addSample_138 (o := (some x0)) rfl ?_
    refine jw_aload_n dX9_addSample_139 (o := (some x0)) rfl ?_
    obtain ⟨v2, ev2, hq⟩ := Option.bind_eq_some_iff.mp hq
    refine jw_getR (o := (some x0)) dX9_addSample_140 ev2 fl_X9_14 rfl ?_
    obtain ⟨v3, ev3, hq⟩ := Option.bind_eq_some_iff.mp hq
    refine jw_getI (o := v2) dX9_addSample_143 ev3 fl_X9_41 rfl ?_
    obtain ⟨h4, eh4, hq⟩ := Option.bind_eq_some_iff.mp hq
    refine jw_putI (o := (some x0)) dX9_addSample_146 eh4 fl_X9_37 rfl rfl ?_
    cases hq
    exact jw_vret dX9_addSample_149 rfl
  · refine jw_icmp_ge_f (tgt := 138) dX9_addSample_14 (by decide) c1 ?_
    refine jw_aload_n dX9_addSample_17 (o := (some x0)) rfl ?_
    refine jw_iload dX9_addSample_18 rfl ?_
    obtain ⟨a5, ea5, hq⟩ := Option.bind_eq_some_iff.mp hq
    obtain ⟨eoa5, eta5⟩ := jw_rc_spec ea5
    obtain ⟨w7, h6, ew7, hq⟩ := jw_b2_spec hq
    refine jw_callV (As := [.int x4]) (S := []) (a := a5) (v := some (.int w7)) dX9_addSample_20 mt_X9_nextLot in_X9_nextLot se_X9_nextLot lk_X9_79 (c_X9_nextLot ew7) eta5 (by decide) rfl rfl (by decide) (Nat.le_of_ble_eq_true rfl) (by cases eoa5; rfl) ?_
    refine jw_istore (L' := [some (.ref x0), none, some (.int x2), some (va_rf x3), some (.int w7), some (.int x5), none, none, none]) dX9_addSample_23 (Nat.le_of_ble_eq_true rfl) ((jw_st1_of (j := 3) jw_long_rf).trans rfl) ?_
    refine jw_iload dX9_addSample_25 rfl ?_
    refine jw_bipush dX9_addSample_27 (v := (16 : Int32)) (by decide) ?_
    refine jw_idiv dX9_addSample_29 (by decide) ?_
    refine jw_bipush dX9_addSample_30 (v := (9 : Int32)) (by decide) ?_
    refine jw_irem dX9_addSample_32 (by decide) ?_
    refine jw_istore (L' := [some (.ref x0), none, some (.int x2), some (va_rf x3), some (.int w7), some (.int x5), some (.int ((w7 / (16 : Int32)) - (w7 / (16 : Int32)) / (9 : Int32) * (9 : Int32))), none, none]) dX9_addSample_33 (Nat.le_of_ble_eq_true rfl) rfl ?_
    refine jw_iconst dX9_addSample_35 (v := (0 : Int32)) (by decide) ?_
    refine jw_istore (L' := [some (.ref x0), none, some (.int x2), some (va_rf x3), some (.int w7), some (.int x5), some (.int ((w7 / (16 : Int32)) - (w7 / (16 : Int32)) / (9 : Int32) * (9 : Int32))), some (.int (0 : Int32)), none]) dX9_addSample_36 (Nat.le_of_ble_eq_true rfl) rfl ?_
    exact l_X9_addSample_b38 hk11 jw_FU _ _ _ _ _ _ _ _ _ _ hq

theorem l_X9_addSample_b11 {hi : jw_H} : ∀ (n : Nat) (h : jw_H) (x0 : Nat) (x2 : Int32) (x3 : Option Nat) (x4 : Int32) (x5 : Int32) (r : Unit) (h' : jw_H), f_X9_addSample_b11  n h x0 x2 x3 x4 x5 = some (r, h') → jw_E 3 uX9_addSample hi 11 [some (.ref x0), none, some (.int x2), some (va_rf x3), some (.int x4), some (.int x5), none, none, none] [] h (.inl none) h' := by
  intro n
  induction n with
  | zero => intro h x0 x2 x3 x4 x5 r h' hq; exact nomatch hq
  | succ n ih => intro h x0 x2 x3 x4 x5 r h' hq; exact l_X9_addSample_b11g ih hq

set_option maxRecDepth 100000 in
set_option maxHeartbeats 4000000 in
theorem l_X9_addSample {hi : jw_H} {h : jw_H} {x0 : Nat} {x1 : Int32} {x2 : Int32} {r : Unit} {h' : jw_H} (hq : f_X9_addSample  h x0 x1 x2 = some (r, h')) : jw_E 3 uX9_addSample hi 0 [some (.ref x0), some (.int x1), some (.int x2), none, none, none, none, none, none] [] h (.inl none) h' := by
  unfold f_X9_addSample at hq
  refine jw_bipush dX9_addSample_0 (v := (9 : Int32)) (by decide) ?_
  obtain ⟨h1, eh1, hq⟩ := Option.bind_eq_some_iff.mp hq
  obtain ⟨ew2, eh1⟩ := jw_mka_spec eh1
  refine jw_mkB dX9_addSample_2 ac_byte ew2.1 ew2.2 ?_
  rw [eh1]
  refine jw_astore_n (o := (some (jw_n h))) (L' := [some (.ref x0), some (.int x1), some (.int x2), some (va_rf (some (jw_n h))), none, none, none, none, none]) dX9_addSample_4 (Nat.le_of_ble_eq_true rfl) rfl ?_
  refine jw_iload_n dX9_addSample_5 rfl ?_
  refine jw_istore (L' := [some (.ref x0), some (.int x1), some (.int x2), some (va_rf (some (jw_n h))), some (.int x1), none, none, none, none]) dX9_addSample_6 (Nat.le_of_ble_eq_true rfl) ((jw_st1_of (j := 3) jw_long_rf).trans rfl) ?_
  refine jw_iconst dX9_addSample_8 (v := (0 : Int32)) (by decide) ?_
  refine jw_istore (L' := [some (.ref x0), some (.int x1), some (.int x2), some (va_rf (some (jw_n h))), some (.int x1), some (.int (0 : Int32)), none, none, none]) dX9_addSample_9 (Nat.le_of_ble_eq_true rfl) rfl ?_
  refine jw_forget [true, false, true, true, true, true, true, true, true] (L' := [some (.ref x0), none, some (.int x2), some (va_rf (some (jw_n h))), some (.int x1), some (.int (0 : Int32)), none, none, none]) rfl ?_
  exact l_X9_addSample_b11  jw_FU _ _ _ _ _ _ _ _ hq

theorem c_X9_addSample {h : jw_H} {x0 : Nat} {x1 : Int32} {x2 : Int32} {r : Unit} {h' : jw_H} (hq : f_X9_addSample h x0 x1 x2 = some (r, h')) : jw_Con (Cond.code yX9_addSample cX9_addSample 9 none) yX9_addSample 3 [.ref x0, .int x1, .int x2] h (.inl none) h' :=
  jw_con false (plainFor_of_name (by decide +kernel)) (fun z => nomatch z) (by simp [jw_ent, jw_sl0_nil, jw_sl0_int, jw_sl0_long, jw_sl0_ref, jw_sl0_rf, jw_sl0_scr, List.replicate]) (by simp [jw_sl0_nil, jw_sl0_int, jw_sl0_long, jw_sl0_ref, jw_sl0_rf, jw_sl0_scr]) (l_X9_addSample hq)


/-! X11_sample -/
noncomputable def g_X11_sample_b21 (h : jw_H)  : Option ((Int32 ⊕ String) × jw_H) :=
 some (Sum.inr "java/lang/IllegalArgumentException", jw_thw h)

noncomputable def f_X11_sample (h : jw_H) (x0 : Nat) (x1 : Int32) (x2 : Int32) : Option ((Int32 ⊕ String) × jw_H) :=
 if x1 < 0 then (g_X11_sample_b21  h )
 else (if (65535 : Int32) < x1 then (g_X11_sample_b21  h )
 else (if x2 < (1 : Int32) then (g_X11_sample_b21  h )
 else (if x2 ≤ (20 : Int32) then ((jw_gR h 11 (some x0) 6).bind fun v5 =>
 (jw_gR h 9 v5 0).bind fun v6 =>
 (jw_gI h 7 v6 2).bind fun v7 =>
 if (v7 + x2) ≤ (40 : Int32) then ((jw_gI h 11 (some x0) 13).bind fun v9 =>
 (jw_pI h 11 (some x0) 13 (v9 + (1 : Int32))).bind fun h10 =>
 (jw_gR h10 11 (some x0) 11).bind fun v11 =>
 (jw_gR h10 11 (some x0) 6).bind fun v12 =>
 (jw_rc h10 3 v11).bind fun a13 =>
 jw_b2 (f_X3_note h10 a13 v12) fun w15 h14 =>
 (jw_gR h14 11 (some x0) 6).bind fun v16 =>
 (jw_rc h14 9 v16).bind fun a17 =>
 jw_b2 (f_X9_addSample h14 a17 x1 x2) fun w19 h18 =>
 (jw_gR h18 11 (some x0) 11).bind fun v20 =>
 (jw_gI h18 11 (some x0) 13).bind fun v21 =>
 (jw_rc h18 3 v20).bind fun a22 =>
 jw_b2 (f_X3_store h18 a22 v21) fun w24 h23 =>
 (jw_gR h23 11 (some x0) 6).bind fun v25 =>
 (jw_gR h23 9 v25 0).bind fun v26 =>
 (jw_gI h23 7 v26 2).bind fun v27 =>
 some (Sum.inl v27, h23))
 else (some (Sum.inr "java/lang/IllegalStateException", jw_thw h)))
 else (g_X11_sample_b21  h ))))

set_option maxRecDepth 100000 in
set_option maxHeartbeats 4000000 in
theorem l_X11_sample_b21 {hi : jw_H} {h : jw_H}  {r : Int32 ⊕ String} {h' : jw_H} (hq : g_X11_sample_b21  h  = some (r, h')) : jw_E 8 uX11_sample hi 21 [none, none, none] [] h (jw_res r) h' := by
  unfold g_X11_sample_b21 at hq
  cases hq
  exact jw_throw th_X11_sample_21 (Nat.le_of_ble_eq_true rfl) (Nat.le_of_ble_eq_true rfl)

set_option maxRecDepth 100000 in
set_option maxHeartbeats 4000000 in
theorem l_X11_sample {hi : jw_H} {h : jw_H} {x0 : Nat} {x1 : Int32} {x2 : Int32} {r : Int32 ⊕ String} {h' : jw_H} (hq : f_X11_sample  h x0 x1 x2 = some (r, h')) : jw_E 8 uX11_sample hi 0 [some (.ref x0), some (.int x1), some (.int x2)] [] h (jw_res r) h' := by
  unfold f_X11_sample at hq
  refine jw_iload_n dX11_sample_0 rfl ?_
  rcases jw_if hq with ⟨c1, hq⟩ | ⟨c1, hq⟩
  · refine jw_if_lt_t (tgt := 21) dX11_sample_1 (by decide) c1 ?_
    refine jw_forget [false, false, false] (L' := [none, none, none]) rfl ?_
    exact l_X11_sample_b21  hq
  · refine jw_if_lt_f (tgt := 21) dX11_sample_1 (by decide) c1 ?_
    refine jw_iload_n dX11_sample_4 rfl ?_
    refine jw_ldc dX11_sample_5 cw_X11_197 ?_
    rcases jw_if hq with ⟨c2, hq⟩ | ⟨c2, hq⟩
    · refine jw_icmp_gt_t (tgt := 21) dX11_sample_7 (by decide) c2 ?_
      refine jw_forget [false, false, false] (L' := [none, none, none]) rfl ?_
      exact l_X11_sample_b21  hq
    · refine jw_icmp_gt_f (tgt := 21) dX11_sample_7 (by decide) c2 ?_
      refine jw_iload_n dX11_sample_10 rfl ?_
      refine jw_iconst dX11_sample_11 (v := (1 : Int32)) (by decide) ?_
      rcases jw_if hq with ⟨c3, hq⟩ | ⟨c3, hq⟩
      · refine jw_icmp_lt_t (tgt := 21) dX11_sample_12 (by decide) c3 ?_
        refine jw_forget [false, false, false] (L' := [none, none, none]) rfl ?_
        exact l_X11_sample_b21  hq
      · refine jw_icmp_lt_f (tgt := 21) dX11_sample_12 (by decide) c3 ?_
        refine jw_iload_n dX11_sample_15 rfl ?_
        refine jw_bipush dX11_sample_16 (v := (20 : Int32)) (by decide) ?_
        rcases jw_if hq with ⟨c4, hq⟩ | ⟨c4, hq⟩
        · refine jw_icmp_le_t (tgt := 31) dX11_sample_18 (by decide) c4 ?_
          refine jw_aload_n dX11_sample_31 (o := (some x0)) rfl ?_
          obtain ⟨v5, ev5, hq⟩ := Option.bind_eq_some_iff.mp hq
          refine jw_getR (o := (some x0)) dX11_sample_32 ev5 fl_X11_38 rfl ?_
          obtain ⟨v6, ev6, hq⟩ := Option.bind_eq_some_iff.mp hq
          refine jw_getR (o := v5) dX11_sample_35 ev6 fl_X11_160 rfl ?_
          obtain ⟨v7, ev7, hq⟩ := Option.bind_eq_some_iff.mp hq
          refine jw_getI (o := v6) dX11_sample_38 ev7 fl_X11_164 rfl ?_
          refine jw_iload_n dX11_sample_41 rfl ?_
          refine jw_iadd dX11_sample_42 ?_
          refine jw_bipush dX11_sample_43 (v := (40 : Int32)) (by decide) ?_
          rcases jw_if hq with ⟨c8, hq⟩ | ⟨c8, hq⟩
          · refine jw_icmp_le_t (tgt := 58) dX11_sample_45 (by decide) c8 ?_
            refine jw_aload_n dX11_sample_58 (o := (some x0)) rfl ?_
            refine jw_dup dX11_sample_59 rfl ?_
            obtain ⟨v9, ev9, hq⟩ := Option.bind_eq_some_iff.mp hq
            refine jw_getI (o := (some x0)) dX11_sample_60 ev9 fl_X11_113 rfl ?_
            refine jw_iconst dX11_sample_63 (v := (1 : Int32)) (by decide) ?_
            refine jw_iadd dX11_sample_64 ?_
            obtain ⟨h10, eh10, hq⟩ := Option.bind_eq_some_iff.mp hq
            refine jw_putI (o := (some x0)) dX11_sample_65 eh10 fl_X11_113 rfl rfl ?_
            refine jw_aload_n dX11_sample_68 (o := (some x0)) rfl ?_
            obtain ⟨v11, ev11, hq⟩ := Option.bind_eq_some_iff.mp hq
            refine jw_getR (o := (some x0)) dX11_sample_69 ev11 fl_X11_52 rfl ?_
            refine jw_aload_n dX11_sample_72 (o := (some x0)) rfl ?_
            obtain ⟨v12, ev12, hq⟩ := Option.bind_eq_some_iff.mp hq
            refine jw_getR (o := (some x0)) dX11_sample_73 ev12 fl_X11_38 rfl ?_
            obtain ⟨a13, ea13, hq⟩ := Option.bind_eq_some_iff.mp hq
            obtain ⟨eoa13, eta13⟩ := jw_rc_spec ea13
            obtain ⟨w15, h14, ew15, hq⟩ := jw_b2_spec hq
            refine jw_callV (As := [va_rf v12]) (S := []) (a := a13) (v := none) dX11_sample_76 mt_X3_note in_X3_note se_X3_note lk_X11_137 (c_X3_note ew15) eta13 (by decide) rfl rfl (by decide) (Nat.le_of_ble_eq_true rfl) (by cases eoa13; rfl) ?_
            refine jw_aload_n dX11_sample_79 (o := (some x0)) rfl ?_
            obtain ⟨v16, ev16, hq⟩ := Option.bind_eq_some_iff.mp hq
            refine jw_getR (o := (some x0)) dX11_sample_80 ev16 fl_X11_38 rfl ?_
            refine jw_iload_n dX11_sample_83 rfl ?_
            refine jw_iload_n dX11_sample_84 rfl ?_
            obtain ⟨a17, ea17, hq⟩ := Option.bind_eq_some_iff.mp hq
            obtain ⟨eoa17, eta17⟩ := jw_rc_spec ea17
            obtain ⟨w19, h18, ew19, hq⟩ := jw_b2_spec hq
            refine jw_callV (As := [.int x1, .int x2]) (S := []) (a := a17) (v := none) dX11_sample_85 mt_X9_addSample in_X9_addSample se_X9_addSample lk_X11_202 (c_X9_addSample ew19) eta17 (by decide) rfl rfl (by decide) (Nat.le_of_ble_eq_true rfl) (by cases eoa17; rfl) ?_
            refine jw_aload_n dX11_sample_88 (o := (some x0)) rfl ?_
            obtain ⟨v20, ev20, hq⟩ := Option.bind_eq_some_iff.mp hq
            refine jw_getR (o := (some x0)) dX11_sample_89 ev20 fl_X11_52 rfl ?_
            refine jw_aload_n dX11_sample_92 (o := (some x0)) rfl ?_
            obtain ⟨v21, ev21, hq⟩ := Option.bind_eq_some_iff.mp hq
            refine jw_getI (o := (some x0)) dX11_sample_93 ev21 fl_X11_113 rfl ?_
            obtain ⟨a22, ea22, hq⟩ := Option.bind_eq_some_iff.mp hq
            obtain ⟨eoa22, eta22⟩ := jw_rc_spec ea22
            obtain ⟨w24, h23, ew24, hq⟩ := jw_b2_spec hq
            refine jw_callV (As := [.int v21]) (S := []) (a := a22) (v := none) dX11_sample_96 mt_X3_store in_X3_store se_X3_store lk_X11_145 (c_X3_store ew24) eta22 (by decide) rfl rfl (by decide) (Nat.le_of_ble_eq_true rfl) (by cases eoa22; rfl) ?_
            refine jw_aload_n dX11_sample_99 (o := (some x0)) rfl ?_
            obtain ⟨v25, ev25, hq⟩ := Option.bind_eq_some_iff.mp hq
            refine jw_getR (o := (some x0)) dX11_sample_100 ev25 fl_X11_38 rfl ?_
            obtain ⟨v26, ev26, hq⟩ := Option.bind_eq_some_iff.mp hq
            refine jw_getR (o := v25) dX11_sample_103 ev26 fl_X11_160 rfl ?_
            obtain ⟨v27, ev27, hq⟩ := Option.bind_eq_some_iff.mp hq
            refine jw_getI (o := v26) dX11_sample_106 ev27 fl_X11_164 rfl ?_
            cases hq
            exact jw_iret (ty := .int) dX11_sample_109 rfl rfl
          · refine jw_icmp_le_f (tgt := 58) dX11_sample_45 (by decide) c8 ?_
            cases hq
            exact jw_throw th_X11_sample_48 (Nat.le_of_ble_eq_true rfl) (Nat.le_of_ble_eq_true rfl)
        · refine jw_icmp_le_f (tgt := 31) dX11_sample_18 (by decide) c4 ?_
          refine jw_forget [false, false, false] (L' := [none, none, none]) rfl ?_
          exact l_X11_sample_b21  hq

theorem c_X11_sample {h : jw_H} {x0 : Nat} {x1 : Int32} {x2 : Int32} {r : Int32 ⊕ String} {h' : jw_H} (hq : f_X11_sample h x0 x1 x2 = some (r, h')) : jw_Con (Cond.code yX11_sample cX11_sample 3 (some .int)) yX11_sample 8 [.ref x0, .int x1, .int x2] h (jw_res r) h' :=
  jw_con false (plainFor_of_name (by decide +kernel)) (fun z => nomatch z) (by simp [jw_ent, jw_sl0_nil, jw_sl0_int, jw_sl0_long, jw_sl0_ref, jw_sl0_rf, jw_sl0_scr, List.replicate]) (by simp [jw_sl0_nil, jw_sl0_int, jw_sl0_long, jw_sl0_ref, jw_sl0_rf, jw_sl0_scr]) (l_X11_sample hq)

