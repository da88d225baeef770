/-! X11_type -/
noncomputable def g_X11_type_b12 (h : jw_H)  : Option ((Int32 ⊕ String) × jw_H) :=
 some (Sum.inr "java/lang/IllegalArgumentException", jw_thw h)

noncomputable def g_X11_type_b41 (h : jw_H)  : Option ((Int32 ⊕ String) × jw_H) :=
 some (Sum.inr "java/lang/IllegalStateException", jw_thw h)

noncomputable def f_X11_type (h : jw_H) (x0 : Nat) (x1 : Int32) : Option ((Int32 ⊕ String) × jw_H) :=
 if x1 < (32 : Int32) then (g_X11_type_b12  h )
 else (if x1 ≤ (126 : Int32) then ((jw_gI h 11 (some x0) 12).bind fun v3 =>
 if v3 < 0 then (g_X11_type_b41  h )
 else ((jw_gI h 11 (some x0) 12).bind fun v5 =>
 (jw_gR h 11 (some x0) 0).bind fun v6 =>
 (jw_ln h v6).bind fun v7 =>
 if v5 < v7 then ((jw_gR h 11 (some x0) 0).bind fun v9 =>
 (jw_gI h 11 (some x0) 12).bind fun v10 =>
 (jw_si h 21 v9 v10 (vp_nar .byte x1.toInt8.toInt32)).bind fun h11 =>
 (jw_gI h11 11 (some x0) 12).bind fun v12 =>
 (jw_pI h11 11 (some x0) 12 (v12 + (1 : Int32))).bind fun h13 =>
 (jw_gI h13 11 (some x0) 12).bind fun v14 =>
 some (Sum.inl v14, h13))
 else (g_X11_type_b41  h )))
 else (g_X11_type_b12  h ))

set_option maxRecDepth 100000 in
set_option maxHeartbeats 4000000 in
theorem l_X11_type_b12 {hi : jw_H} {h : jw_H}  {r : Int32 ⊕ String} {h' : jw_H} (hq : g_X11_type_b12  h  = some (r, h')) : jw_E 8 uX11_type hi 12 [none, none] [] h (jw_res r) h' := by
  unfold g_X11_type_b12 at hq
  cases hq
  exact jw_throw th_X11_type_12 (Nat.le_of_ble_eq_true rfl) (Nat.le_of_ble_eq_true rfl)

set_option maxRecDepth 100000 in
set_option maxHeartbeats 4000000 in
theorem l_X11_type_b41 {hi : jw_H} {h : jw_H}  {r : Int32 ⊕ String} {h' : jw_H} (hq : g_X11_type_b41  h  = some (r, h')) : jw_E 8 uX11_type hi 41 [none, none] [] h (jw_res r) h' := by
  unfold g_X11_type_b41 at hq
  cases hq
  exact jw_throw th_X11_type_41 (Nat.le_of_ble_eq_true rfl) (Nat.le_of_ble_eq_true rfl)

set_option maxRecDepth 100000 in
set_option maxHeartbeats 4000000 in
theorem l_X11_type {hi : jw_H} {h : jw_H} {x0 : Nat} {x1 : Int32} {r : Int32 ⊕ String} {h' : jw_H} (hq : f_X11_type  h x0 x1 = some (r, h')) : jw_E 8 uX11_type hi 0 [some (.ref x0), some (.int x1)] [] h (jw_res r) h' := by
  unfold f_X11_type at hq
  refine jw_iload_n dX11_type_0 rfl ?_
  refine jw_bipush dX11_type_1 (v := (32 : Int32)) (by decide) ?_
  rcases jw_if hq with ⟨c1, hq⟩ | ⟨c1, hq⟩
  · refine jw_icmp_lt_t (tgt := 12) dX11_type_3 (by decide) c1 ?_
    refine jw_forget [false, false] (L' := [none, none]) rfl ?_
    exact l_X11_type_b12  hq
  · refine jw_icmp_lt_f (tgt := 12) dX11_type_3 (by decide) c1 ?_
    refine jw_iload_n dX11_type_6 rfl ?_
    refine jw_bipush dX11_type_7 (v := (126 : Int32)) (by decide) ?_
    rcases jw_if hq with ⟨c2, hq⟩ | ⟨c2, hq⟩
    · refine jw_icmp_le_t (tgt := 22) dX11_type_9 (by decide) c2 ?_
      refine jw_aload_n dX11_type_22 (o := (some x0)) rfl ?_
      obtain ⟨v3, ev3, hq⟩ := Option.bind_eq_some_iff.mp hq
      refine jw_getI (o := (some x0)) dX11_type_23 ev3 fl_X11_95 rfl ?_
      rcases jw_if hq with ⟨c4, hq⟩ | ⟨c4, hq⟩
      · refine jw_if_lt_t (tgt := 41) dX11_type_26 (by decide) c4 ?_
        refine jw_forget [false, false] (L' := [none, none]) rfl ?_
        exact l_X11_type_b41  hq
      · refine jw_if_lt_f (tgt := 41) dX11_type_26 (by decide) c4 ?_
        refine jw_aload_n dX11_type_29 (o := (some x0)) rfl ?_
        obtain ⟨v5, ev5, hq⟩ := Option.bind_eq_some_iff.mp hq
        refine jw_getI (o := (some x0)) dX11_type_30 ev5 fl_X11_95 rfl ?_
        refine jw_aload_n dX11_type_33 (o := (some x0)) rfl ?_
        obtain ⟨v6, ev6, hq⟩ := Option.bind_eq_some_iff.mp hq
        refine jw_getR (o := (some x0)) dX11_type_34 ev6 fl_X11_9 rfl ?_
        obtain ⟨v7, ev7, hq⟩ := Option.bind_eq_some_iff.mp hq
        refine jw_alen (o := v6) dX11_type_37 ev7 ?_
        rcases jw_if hq with ⟨c8, hq⟩ | ⟨c8, hq⟩
        · refine jw_icmp_lt_t (tgt := 51) dX11_type_38 (by decide) c8 ?_
          refine jw_aload_n dX11_type_51 (o := (some x0)) rfl ?_
          obtain ⟨v9, ev9, hq⟩ := Option.bind_eq_some_iff.mp hq
          refine jw_getR (o := (some x0)) dX11_type_52 ev9 fl_X11_9 rfl ?_
          refine jw_aload_n dX11_type_55 (o := (some x0)) rfl ?_
          obtain ⟨v10, ev10, hq⟩ := Option.bind_eq_some_iff.mp hq
          refine jw_getI (o := (some x0)) dX11_type_56 ev10 fl_X11_95 rfl ?_
          refine jw_iload_n dX11_type_59 rfl ?_
          refine jw_i2b dX11_type_60 ?_
          obtain ⟨h11, eh11, hq⟩ := Option.bind_eq_some_iff.mp hq
          refine jw_bast (o := v9) rfl dX11_type_61 eh11 ?_
          refine jw_aload_n dX11_type_62 (o := (some x0)) rfl ?_
          refine jw_dup dX11_type_63 rfl ?_
          obtain ⟨v12, ev12, hq⟩ := Option.bind_eq_some_iff.mp hq
          refine jw_getI (o := (some x0)) dX11_type_64 ev12 fl_X11_95 rfl ?_
          refine jw_iconst dX11_type_67 (v := (1 : Int32)) (by decide) ?_
          refine jw_iadd dX11_type_68 ?_
          obtain ⟨h13, eh13, hq⟩ := Option.bind_eq_some_iff.mp hq
          refine jw_putI (o := (some x0)) dX11_type_69 eh13 fl_X11_95 rfl rfl ?_
          refine jw_aload_n dX11_type_72 (o := (some x0)) rfl ?_
          obtain ⟨v14, ev14, hq⟩ := Option.bind_eq_some_iff.mp hq
          refine jw_getI (o := (some x0)) dX11_type_73 ev14 fl_X11_95 rfl ?_
          cases hq
          exact jw_iret (ty := .int) dX11_type_76 rfl rfl
        · refine jw_icmp_lt_f (tgt := 51) dX11_type_38 (by decide) c8 ?_
          refine jw_forget [false, false] (L' := [none, none]) rfl ?_
          exact l_X11_type_b41  hq
    · refine jw_icmp_le_f (tgt := 22) dX11_type_9 (by decide) c2 ?_
      refine jw_forget [false, false] (L' := [none, none]) rfl ?_
      exact l_X11_type_b12  hq

theorem c_X11_type {h : jw_H} {x0 : Nat} {x1 : Int32} {r : Int32 ⊕ String} {h' : jw_H} (hq : f_X11_type h x0 x1 = some (r, h')) : jw_Con (Cond.code yX11_type cX11_type 2 (some .int)) yX11_type 8 [.ref x0, .int x1] h (jw_res r) h' :=
  jw_con false (plainFor_of_name (by decide +kernel)) (fun z => nomatch z) (by simp [jw_ent, jw_sl0_nil, jw_sl0_int, jw_sl0_long, jw_sl0_ref, jw_sl0_rf, jw_sl0_scr, List.replicate]) (by simp [jw_sl0_nil, jw_sl0_int, jw_sl0_long, jw_sl0_ref, jw_sl0_rf, jw_sl0_scr]) (l_X11_type hq)


/-! X11_wipe -/
noncomputable def f_X11_wipe (h : jw_H) (x0 : Nat) : Option (Int32 × jw_H) :=
 (jw_gI h 11 (some x0) 12).bind fun v1 =>
 (jw_pI h 11 (some x0) 12 (0 : Int32)).bind fun h2 =>
 some (v1, h2)

set_option maxRecDepth 100000 in
set_option maxHeartbeats 4000000 in
theorem l_X11_wipe {hi : jw_H} {h : jw_H} {x0 : Nat} {r : Int32} {h' : jw_H} (hq : f_X11_wipe  h x0 = some (r, h')) : jw_E 0 uX11_wipe hi 0 [some (.ref x0), none] [] h (.inl (some (.int r))) h' := by
  unfold f_X11_wipe at hq
  refine jw_aload_n dX11_wipe_0 (o := (some x0)) rfl ?_
  obtain ⟨v1, ev1, hq⟩ := Option.bind_eq_some_iff.mp hq
  refine jw_getI (o := (some x0)) dX11_wipe_1 ev1 fl_X11_95 rfl ?_
  refine jw_istore_n (L' := [some (.ref x0), some (.int v1)]) dX11_wipe_4 (Nat.le_of_ble_eq_true rfl) rfl ?_
  refine jw_aload_n dX11_wipe_5 (o := (some x0)) rfl ?_
  refine jw_iconst dX11_wipe_6 (v := (0 : Int32)) (by decide) ?_
  obtain ⟨h2, eh2, hq⟩ := Option.bind_eq_some_iff.mp hq
  refine jw_putI (o := (some x0)) dX11_wipe_7 eh2 fl_X11_95 rfl rfl ?_
  refine jw_iload_n dX11_wipe_10 rfl ?_
  cases hq
  exact jw_iret (ty := .int) dX11_wipe_11 rfl rfl

theorem c_X11_wipe {h : jw_H} {x0 : Nat} {r : Int32} {h' : jw_H} (hq : f_X11_wipe h x0 = some (r, h')) : jw_Con (Cond.code yX11_wipe cX11_wipe 2 (some .int)) yX11_wipe 0 [.ref x0] h (.inl (some (.int r))) h' :=
  jw_con false (plainFor_of_name (by decide +kernel)) (fun z => nomatch z) (by simp [jw_ent, jw_sl0_nil, jw_sl0_int, jw_sl0_long, jw_sl0_ref, jw_sl0_rf, jw_sl0_scr, List.replicate]) (by simp [jw_sl0_nil, jw_sl0_int, jw_sl0_long, jw_sl0_ref, jw_sl0_rf, jw_sl0_scr]) (l_X11_wipe hq)


/-! X11_lines -/
noncomputable def f_X11_lines (h : jw_H) (x0 : Nat) : Option (Int32 × jw_H) :=
 (jw_gR h 11 (some x0) 6).bind fun v1 =>
 (jw_gR h 9 v1 0).bind fun v2 =>
 (jw_gI h 7 v2 2).bind fun v3 =>
 some (v3, h)

set_option maxRecDepth 100000 in
set_option maxHeartbeats 4000000 in
theorem l_X11_lines {hi : jw_H} {h : jw_H} {x0 : Nat} {r : Int32} {h' : jw_H} (hq : f_X11_lines  h x0 = some (r, h')) : jw_E 0 uX11_lines hi 0 [some (.ref x0)] [] h (.inl (some (.int r))) h' := by
  unfold f_X11_lines at hq
  refine jw_aload_n dX11_lines_0 (o := (some x0)) rfl ?_
  obtain ⟨v1, ev1, hq⟩ := Option.bind_eq_some_iff.mp hq
  refine jw_getR (o := (some x0)) dX11_lines_1 ev1 fl_X11_38 rfl ?_
  obtain ⟨v2, ev2, hq⟩ := Option.bind_eq_some_iff.mp hq
  refine jw_getR (o := v1) dX11_lines_4 ev2 fl_X11_160 rfl ?_
  obtain ⟨v3, ev3, hq⟩ := Option.bind_eq_some_iff.mp hq
  refine jw_getI (o := v2) dX11_lines_7 ev3 fl_X11_164 rfl ?_
  cases hq
  exact jw_iret (ty := .int) dX11_lines_10 rfl rfl

theorem c_X11_lines {h : jw_H} {x0 : Nat} {r : Int32} {h' : jw_H} (hq : f_X11_lines h x0 = some (r, h')) : jw_Con (Cond.code yX11_lines cX11_lines 1 (some .int)) yX11_lines 0 [.ref x0] h (.inl (some (.int r))) h' :=
  jw_con false (plainFor_of_name (by decide +kernel)) (fun z => nomatch z) (by simp [jw_ent, jw_sl0_nil, jw_sl0_int, jw_sl0_long, jw_sl0_ref, jw_sl0_rf, jw_sl0_scr, List.replicate]) (by simp [jw_sl0_nil, jw_sl0_int, jw_sl0_long, jw_sl0_ref, jw_sl0_rf, jw_sl0_scr]) (l_X11_lines hq)


/-! X7_has -/
noncomputable def g_X7_has_b27 (h : jw_H) (t0 : Int32) : Option (Int32 × jw_H) :=
 (jw_rb t0).bind fun v1 =>
 some (t0, h)

noncomputable def g_X7_has_b26 (h : jw_H)  : Option (Int32 × jw_H) :=
 g_X7_has_b27  h (0 : Int32)

noncomputable def f_X7_has (h : jw_H) (x0 : Nat) (x1 : Int32) : Option (Int32 × jw_H) :=
 if x1 < (1 : Int32) then (g_X7_has_b26  h )
 else ((jw_gI h 7 (some x0) 2).bind fun v2 =>
 if v2 < x1 then (g_X7_has_b26  h )
 else ((jw_gR h 7 (some x0) 0).bind fun v4 =>
 (jw_ln h v4).bind fun v5 =>
 if v5 < x1 then (g_X7_has_b26  h )
 else (g_X7_has_b27  h (1 : Int32))))

set_option maxRecDepth 100000 in
set_option maxHeartbeats 4000000 in
theorem l_X7_has_b27 {hi : jw_H} {h : jw_H} {t0 : Int32} {r : Int32} {h' : jw_H} (hq : g_X7_has_b27  h t0 = some (r, h')) : jw_E 0 uX7_has hi 27 [none, none] [.int t0] h (.inl (some (.int r))) h' := by
  unfold g_X7_has_b27 at hq
  obtain ⟨v1, ev1, hq⟩ := Option.bind_eq_some_iff.mp hq
  cases hq
  exact jw_iret (ty := .boolean) dX7_has_27 rfl (jw_rb_spec ev1)

set_option maxRecDepth 100000 in
set_option maxHeartbeats 4000000 in
theorem l_X7_has_b26 {hi : jw_H} {h : jw_H}  {r : Int32} {h' : jw_H} (hq : g_X7_has_b26  h  = some (r, h')) : jw_E 0 uX7_has hi 26 [none, none] [] h (.inl (some (.int r))) h' := by
  unfold g_X7_has_b26 at hq
  refine jw_iconst dX7_has_26 (v := (0 : Int32)) (by decide) ?_
  exact l_X7_has_b27  hq

set_option maxRecDepth 100000 in
set_option maxHeartbeats 4000000 in
theorem l_X7_has {hi : jw_H} {h : jw_H} {x0 : Nat} {x1 : Int32} {r : Int32} {h' : jw_H} (hq : f_X7_has  h x0 x1 = some (r, h')) : jw_E 0 uX7_has hi 0 [some (.ref x0), some (.int x1)] [] h (.inl (some (.int r))) h' := by
  unfold f_X7_has at hq
  refine jw_iload_n dX7_has_0 rfl ?_
  refine jw_iconst dX7_has_1 (v := (1 : Int32)) (by decide) ?_
  rcases jw_if hq with ⟨c1, hq⟩ | ⟨c1, hq⟩
  · refine jw_icmp_lt_t (tgt := 26) dX7_has_2 (by decide) c1 ?_
    refine jw_forget [false, false] (L' := [none, none]) rfl ?_
    exact l_X7_has_b26  hq
  · refine jw_icmp_lt_f (tgt := 26) dX7_has_2 (by decide) c1 ?_
    refine jw_iload_n dX7_has_5 rfl ?_
    refine jw_aload_n dX7_has_6 (o := (some x0)) rfl ?_
    obtain ⟨v2, ev2, hq⟩ := Option.bind_eq_some_iff.mp hq
    refine jw_getI (o := (some x0)) dX7_has_7 ev2 fl_X7_25 rfl ?_
    rcases jw_if hq with ⟨c3, hq⟩ | ⟨c3, hq⟩
    · refine jw_icmp_gt_t (tgt := 26) dX7_has_10 (by decide) c3 ?_
      refine jw_forget [false, false] (L' := [none, none]) rfl ?_
      exact l_X7_has_b26  hq
    · refine jw_icmp_gt_f (tgt := 26) dX7_has_10 (by decide) c3 ?_
      refine jw_iload_n dX7_has_13 rfl ?_
      refine jw_aload_n dX7_has_14 (o := (some x0)) rfl ?_
      obtain ⟨v4, ev4, hq⟩ := Option.bind_eq_some_iff.mp hq
      refine jw_getR (o := (some x0)) dX7_has_15 ev4 fl_X7_15 rfl ?_
      obtain ⟨v5, ev5, hq⟩ := Option.bind_eq_some_iff.mp hq
      refine jw_alen (o := v4) dX7_has_18 ev5 ?_
      rcases jw_if hq with ⟨c6, hq⟩ | ⟨c6, hq⟩
      · refine jw_icmp_gt_t (tgt := 26) dX7_has_19 (by decide) c6 ?_
        refine jw_forget [false, false] (L' := [none, none]) rfl ?_
        exact l_X7_has_b26  hq
      · refine jw_icmp_gt_f (tgt := 26) dX7_has_19 (by decide) c6 ?_
        refine jw_iconst dX7_has_22 (v := (1 : Int32)) (by decide) ?_
        refine jw_goto (tgt := 27) dX7_has_23 (by decide) ?_
        refine jw_forget [false, false] (L' := [none, none]) rfl ?_
        exact l_X7_has_b27  hq

theorem c_X7_has {h : jw_H} {x0 : Nat} {x1 : Int32} {r : Int32} {h' : jw_H} (hq : f_X7_has h x0 x1 = some (r, h')) : jw_Con (Cond.code yX7_has cX7_has 2 (some .boolean)) yX7_has 0 [.ref x0, .int x1] h (.inl (some (.int r))) h' :=
  jw_con false (plainFor_of_name (by decide +kernel)) (fun z => nomatch z) (by simp [jw_ent, jw_sl0_nil, jw_sl0_int, jw_sl0_long, jw_sl0_ref, jw_sl0_rf, jw_sl0_scr, List.replicate]) (by simp [jw_sl0_nil, jw_sl0_int, jw_sl0_long, jw_sl0_ref, jw_sl0_rf, jw_sl0_scr]) (l_X7_has hq)


/-! X7_lengthOf -/
noncomputable def g_X7_lengthOf_b34 (h : jw_H) (t0 : Int32) : Option (Int32 × jw_H) :=
 some (t0, h)

noncomputable def g_X7_lengthOf_b33 (h : jw_H)  : Option (Int32 × jw_H) :=
 g_X7_lengthOf_b34  h (-1 : Int32)

noncomputable def f_X7_lengthOf (h : jw_H) (x0 : Nat) (x1 : Int32) : Option (Int32 × jw_H) :=
 if x1 < (1 : Int32) then (g_X7_lengthOf_b33  h )
 else ((jw_gI h 7 (some x0) 2).bind fun v2 =>
 if v2 < x1 then (g_X7_lengthOf_b33  h )
 else ((jw_gR h 7 (some x0) 0).bind fun v4 =>
 (jw_ln h v4).bind fun v5 =>
 if v5 < x1 then (g_X7_lengthOf_b33  h )
 else ((jw_gR h 7 (some x0) 0).bind fun v7 =>
 (jw_ai h 20 v7 (x1 - (1 : Int32))).bind fun v8 =>
 g_X7_lengthOf_b34  h v8)))

set_option maxRecDepth 100000 in
set_option maxHeartbeats 4000000 in
theorem l_X7_lengthOf_b34 {hi : jw_H} {h : jw_H} {t0 : Int32} {r : Int32} {h' : jw_H} (hq : g_X7_lengthOf_b34  h t0 = some (r, h')) : jw_E 0 uX7_lengthOf hi 34 [none, none] [.int t0] h (.inl (some (.int r))) h' := by
  unfold g_X7_lengthOf_b34 at hq
  cases hq
  exact jw_iret (ty := .int) dX7_lengthOf_34 rfl rfl

set_option maxRecDepth 100000 in
set_option maxHeartbeats 4000000 in
theorem l_X7_lengthOf_b33 {hi : jw_H} {h : jw_H}  {r : Int32} {h' : jw_H} (hq : g_X7_lengthOf_b33  h  = some (r, h')) : jw_E 0 uX7_lengthOf hi 33 [none, none] [] h (.inl (some (.int r))) h' := by
  unfold g_X7_lengthOf_b33 at hq
  refine jw_iconst dX7_lengthOf_33 (v := (-1 : Int32)) (by decide) ?_
  exact l_X7_lengthOf_b34  hq

set_option maxRecDepth 100000 in
set_option maxHeartbeats 4000000 in
theorem l_X7_lengthOf {hi : jw_H} {h : jw_H} {x0 : Nat} {x1 : Int32} {r : Int32} {h' : jw_H} (hq : f_X7_lengthOf  h x0 x1 = some (r, h')) : jw_E 0 uX7_lengthOf hi 0 [some (.ref x0), some (.int x1)] [] h (.inl (some (.int r))) h' := by
  unfold f_X7_lengthOf at hq
  refine jw_iload_n dX7_lengthOf_0 rfl ?_
  refine jw_iconst dX7_lengthOf_1 (v := (1 : Int32)) (by decide) ?_
  rcases jw_if hq with ⟨c1, hq⟩ | ⟨c1, hq⟩
  · refine jw_icmp_lt_t (tgt := 33) dX7_lengthOf_2 (by decide) c1 ?_
    refine jw_forget [false, false] (L' := [none, none]) rfl ?_
    exact l_X7_lengthOf_b33  hq
  · refine jw_icmp_lt_f (tgt := 33) dX7_lengthOf_2 (by decide) c1 ?_
    refine jw_iload_n dX7_lengthOf_5 rfl ?_
    refine jw_aload_n dX7_lengthOf_6 (o := (some x0)) rfl ?_
    obtain ⟨v2, ev2, hq⟩ := Option.bind_eq_some_iff.mp hq
    refine jw_getI (o := (some x0)) dX7_lengthOf_7 ev2 fl_X7_25 rfl ?_
    rcases jw_if hq with ⟨c3, hq⟩ | ⟨c3, hq⟩
    · refine jw_icmp_gt_t (tgt := 33) dX7_lengthOf_10 (by decide) c3 ?_
      refine jw_forget [false, false] (L' := [none, none]) rfl ?_
      exact l_X7_lengthOf_b33  hq
    · refine jw_icmp_gt_f (tgt := 33) dX7_lengthOf_10 (by decide) c3 ?_
      refine jw_iload_n dX7_lengthOf_13 rfl ?_
      refine jw_aload_n dX7_lengthOf_14 (o := (some x0)) rfl ?_
      obtain ⟨v4, ev4, hq⟩ := Option.bind_eq_some_iff.mp hq
      refine jw_getR (o := (some x0)) dX7_lengthOf_15 ev4 fl_X7_15 rfl ?_
      obtain ⟨v5, ev5, hq⟩ := Option.bind_eq_some_iff.mp hq
      refine jw_alen (o := v4) dX7_lengthOf_18 ev5 ?_
      rcases jw_if hq with ⟨c6, hq⟩ | ⟨c6, hq⟩
      · refine jw_icmp_gt_t (tgt := 33) dX7_lengthOf_19 (by decide) c6 ?_
        refine jw_forget [false, false] (L' := [none, none]) rfl ?_
        exact l_X7_lengthOf_b33  hq
      · refine jw_icmp_gt_f (tgt := 33) dX7_lengthOf_19 (by decide) c6 ?_
        refine jw_aload_n dX7_lengthOf_22 (o := (some x0)) rfl ?_
        obtain ⟨v7, ev7, hq⟩ := Option.bind_eq_some_iff.mp hq
        refine jw_getR (o := (some x0)) dX7_lengthOf_23 ev7 fl_X7_15 rfl ?_
        refine jw_iload_n dX7_lengthOf_26 rfl ?_
        refine jw_iconst dX7_lengthOf_27 (v := (1 : Int32)) (by decide) ?_
        refine jw_isub dX7_lengthOf_28 ?_
        obtain ⟨v8, ev8, hq⟩ := Option.bind_eq_some_iff.mp hq
        refine jw_iald (o := v7) dX7_lengthOf_29 ev8 ?_
        refine jw_goto (tgt := 34) dX7_lengthOf_30 (by decide) ?_
        refine jw_forget [false, false] (L' := [none, none]) rfl ?_
        exact l_X7_lengthOf_b34  hq

theorem c_X7_lengthOf {h : jw_H} {x0 : Nat} {x1 : Int32} {r : Int32} {h' : jw_H} (hq : f_X7_lengthOf h x0 x1 = some (r, h')) : jw_Con (Cond.code yX7_lengthOf cX7_lengthOf 2 (some .int)) yX7_lengthOf 0 [.ref x0, .int x1] h (.inl (some (.int r))) h' :=
  jw_con false (plainFor_of_name (by decide +kernel)) (fun z => nomatch z) (by simp [jw_ent, jw_sl0_nil, jw_sl0_int, jw_sl0_long, jw_sl0_ref, jw_sl0_rf, jw_sl0_scr, List.replicate]) (by simp [jw_sl0_nil, jw_sl0_int, jw_sl0_long, jw_sl0_ref, jw_sl0_rf, jw_sl0_scr]) (l_X7_lengthOf hq)


/-! X11_length -/
noncomputable def f_X11_length (h : jw_H) (x0 : Nat) (x1 : Int32) : Option ((Int32 ⊕ String) × jw_H) :=
 (jw_gR h 11 (some x0) 6).bind fun v1 =>
 (jw_gR h 9 v1 0).bind fun v2 =>
 (jw_rc h 7 v2).bind fun a3 =>
 jw_b2 (f_X7_has h a3 x1) fun w5 h4 =>
 if w5 = 0 then (some (Sum.inr "java/lang/IndexOutOfBoundsException", jw_thw h4))
 else ((jw_gR h4 11 (some x0) 6).bind fun v7 =>
 (jw_gR h4 9 v7 0).bind fun v8 =>
 (jw_rc h4 7 v8).bind fun a9 =>
 jw_b2 (f_X7_lengthOf h4 a9 x1) fun w11 h10 =>
 some (Sum.inl w11, h10))

set_option maxRecDepth 100000 in
set_option maxHeartbeats 4000000 in
theorem l_X11_length {hi : jw_H} {h : jw_H} {x0 : Nat} {x1 : Int32} {r : Int32 ⊕ String} {h' : jw_H} (hq : f_X11_length  h x0 x1 = some (r, h')) : jw_E 8 uX11_length hi 0 [some (.ref x0), some (.int x1)] [] h (jw_res r) h' := by
  unfold f_X11_length at hq
  refine jw_aload_n dX11_length_0 (o := (some x0)) rfl ?_
  obtain ⟨v1, ev1, hq⟩ := Option.bind_eq_some_iff.mp hq
  refine jw_getR (o := (some x0)) dX11_length_1 ev1 fl_X11_38 rfl ?_
  obtain ⟨v2, ev2, hq⟩ := Option.bind_eq_some_iff.mp hq
  refine jw_getR (o := v1) dX11_length_4 ev2 fl_X11_160 rfl ?_
  refine jw_iload_n dX11_length_7 rfl ?_
  obtain ⟨a3, ea3, hq⟩ := Option.bind_eq_some_iff.mp hq
  obtain ⟨eoa3, eta3⟩ := jw_rc_spec ea3
  obtain ⟨w5, h4, ew5, hq⟩ := jw_b2_spec hq
  refine jw_callV (As := [.int x1]) (S := []) (a := a3) (v := some (.int w5)) dX11_length_8 mt_X7_has in_X7_has se_X7_has lk_X11_169 (c_X7_has ew5) eta3 (by decide) rfl rfl (by decide) (Nat.le_of_ble_eq_true rfl) (by cases eoa3; rfl) ?_
  rcases jw_if hq with ⟨c6, hq⟩ | ⟨c6, hq⟩
  · refine jw_if_ne_f (tgt := 24) dX11_length_11 (by decide) c6 ?_
    cases hq
    exact jw_throw th_X11_length_14 (Nat.le_of_ble_eq_true rfl) (Nat.le_of_ble_eq_true rfl)
  · refine jw_if_ne_t (tgt := 24) dX11_length_11 (by decide) c6 ?_
    refine jw_aload_n dX11_length_24 (o := (some x0)) rfl ?_
    obtain ⟨v7, ev7, hq⟩ := Option.bind_eq_some_iff.mp hq
    refine jw_getR (o := (some x0)) dX11_length_25 ev7 fl_X11_38 rfl ?_
    obtain ⟨v8, ev8, hq⟩ := Option.bind_eq_some_iff.mp hq
    refine jw_getR (o := v7) dX11_length_28 ev8 fl_X11_160 rfl ?_
    refine jw_iload_n dX11_length_31 rfl ?_
    obtain ⟨a9, ea9, hq⟩ := Option.bind_eq_some_iff.mp hq
    obtain ⟨eoa9, eta9⟩ := jw_rc_spec ea9
    obtain ⟨w11, h10, ew11, hq⟩ := jw_b2_spec hq
    refine jw_callV (As := [.int x1]) (S := []) (a := a9) (v := some (.int w11)) dX11_length_32 mt_X7_lengthOf in_X7_lengthOf se_X7_lengthOf lk_X11_174 (c_X7_lengthOf ew11) eta9 (by decide) rfl rfl (by decide) (Nat.le_of_ble_eq_true rfl) (by cases eoa9; rfl) ?_
    cases hq
    exact jw_iret (ty := .int) dX11_length_35 rfl rfl

theorem c_X11_length {h : jw_H} {x0 : Nat} {x1 : Int32} {r : Int32 ⊕ String} {h' : jw_H} (hq : f_X11_length h x0 x1 = some (r, h')) : jw_Con (Cond.code yX11_length cX11_length 2 (some .int)) yX11_length 8 [.ref x0, .int x1] h (jw_res r) h' :=
  jw_con false (plainFor_of_name (by decide +kernel)) (fun z => nomatch z) (by simp [jw_ent, jw_sl0_nil, jw_sl0_int, jw_sl0_long, jw_sl0_ref, jw_sl0_rf, jw_sl0_scr, List.replicate]) (by simp [jw_sl0_nil, jw_sl0_int, jw_sl0_long, jw_sl0_ref, jw_sl0_rf, jw_sl0_scr]) (l_X11_length hq)


/-! X7_signAt -/
noncomputable def f_X7_signAt (h : jw_H) (x0 : Nat) (x1 : Int32) (x2 : Int32) : Option (Int32 × jw_H) :=
 if x1 < (1 : Int32) then (some ((-1 : Int32), h))
 else ((jw_gI h 7 (some x0) 2).bind fun v2 =>
 if v2 < x1 then (some ((-1 : Int32), h))
 else ((jw_gR h 7 (some x0) 0).bind fun v4 =>
 (jw_ln h v4).bind fun v5 =>
 if x1 ≤ v5 then (if x2 < 0 then (some ((-1 : Int32), h))
 else ((jw_gR h 7 (some x0) 0).bind fun v8 =>
 (jw_ai h 20 v8 (x1 - (1 : Int32))).bind fun v9 =>
 if v9 ≤ x2 then (some ((-1 : Int32), h))
 else (if x2 < (30 : Int32) then ((jw_gR h 7 (some x0) 1).bind fun v12 =>
 (jw_ai h 21 v12 (((x1 - (1 : Int32)) * (30 : Int32)) + x2)).bind fun v13 =>
 some (v13, h))
 else (some ((-1 : Int32), h)))))
 else (some ((-1 : Int32), h))))

set_option maxRecDepth 100000 in
set_option maxHeartbeats 4000000 in
theorem l_X7_signAt {hi : jw_H} {h : jw_H} {x0 : Nat} {x1 : Int32} {x2 : Int32} {r : Int32} {h' : jw_H} (hq : f_X7_signAt  h x0 x1 x2 = some (r, h')) : jw_E 0 uX7_signAt hi 0 [some (.ref x0), some (.int x1), some (.int x2)] [] h (.inl (some (.int r))) h' := by
  unfold f_X7_signAt at hq
  refine jw_iload_n dX7_signAt_0 rfl ?_
  refine jw_iconst dX7_signAt_1 (v := (1 : Int32)) (by decide) ?_
  rcases jw_if hq with ⟨c1, hq⟩ | ⟨c1, hq⟩
  · refine jw_icmp_lt_t (tgt := 22) dX7_signAt_2 (by decide) c1 ?_
    refine jw_iconst dX7_signAt_22 (v := (-1 : Int32)) (by decide) ?_
    cases hq
    exact jw_iret (ty := .int) dX7_signAt_23 rfl rfl
  · refine jw_icmp_lt_f (tgt := 22) dX7_signAt_2 (by decide) c1 ?_
    refine jw_iload_n dX7_signAt_5 rfl ?_
    refine jw_aload_n dX7_signAt_6 (o := (some x0)) rfl ?_
    obtain ⟨v2, ev2, hq⟩ := Option.bind_eq_some_iff.mp hq
    refine jw_getI (o := (some x0)) dX7_signAt_7 ev2 fl_X7_25 rfl ?_
    rcases jw_if hq with ⟨c3, hq⟩ | ⟨c3, hq⟩
    · refine jw_icmp_gt_t (tgt := 22) dX7_signAt_10 (by decide) c3 ?_
      refine jw_iconst dX7_signAt_22 (v := (-1 : Int32)) (by decide) ?_
      cases hq
      exact jw_iret (ty := .int) dX7_signAt_23 rfl rfl
    · refine jw_icmp_gt_f (tgt := 22) dX7_signAt_10 (by decide) c3 ?_
      refine jw_iload_n dX7_signAt_13 rfl ?_
      refine jw_aload_n dX7_signAt_14 (o := (some x0)) rfl ?_
      obtain ⟨v4, ev4, hq⟩ := Option.bind_eq_some_iff.mp hq
      refine jw_getR (o := (some x0)) dX7_signAt_15 ev4 fl_X7_15 rfl ?_
      obtain ⟨v5, ev5, hq⟩ := Option.bind_eq_some_iff.mp hq
      refine jw_alen (o := v4) dX7_signAt_18 ev5 ?_
      rcases jw_if hq with ⟨c6, hq⟩ | ⟨c6, hq⟩
      · refine jw_icmp_le_t (tgt := 24) dX7_signAt_19 (by decide) c6 ?_
        refine jw_iload_n dX7_signAt_24 rfl ?_
        rcases jw_if hq with ⟨c7, hq⟩ | ⟨c7, hq⟩
        · refine jw_if_lt_t (tgt := 46) dX7_signAt_25 (by decide) c7 ?_
          refine jw_iconst dX7_signAt_46 (v := (-1 : Int32)) (by decide) ?_
          cases hq
          exact jw_iret (ty := .int) dX7_signAt_47 rfl rfl
        · refine jw_if_lt_f (tgt := 46) dX7_signAt_25 (by decide) c7 ?_
          refine jw_iload_n dX7_signAt_28 rfl ?_
          refine jw_aload_n dX7_signAt_29 (o := (some x0)) rfl ?_
          obtain ⟨v8, ev8, hq⟩ := Option.bind_eq_some_iff.mp hq
          refine jw_getR (o := (some x0)) dX7_signAt_30 ev8 fl_X7_15 rfl ?_
          refine jw_iload_n dX7_signAt_33 rfl ?_
          refine jw_iconst dX7_signAt_34 (v := (1 : Int32)) (by decide) ?_
          refine jw_isub dX7_signAt_35 ?_
          obtain ⟨v9, ev9, hq⟩ := Option.bind_eq_some_iff.mp hq
          refine jw_iald (o := v8) dX7_signAt_36 ev9 ?_
          rcases jw_if hq with ⟨c10, hq⟩ | ⟨c10, hq⟩
          · refine jw_icmp_ge_t (tgt := 46) dX7_signAt_37 (by decide) c10 ?_
            refine jw_iconst dX7_signAt_46 (v := (-1 : Int32)) (by decide) ?_
            cases hq
            exact jw_iret (ty := .int) dX7_signAt_47 rfl rfl
          · refine jw_icmp_ge_f (tgt := 46) dX7_signAt_37 (by decide) c10 ?_
            refine jw_iload_n dX7_signAt_40 rfl ?_
            refine jw_bipush dX7_signAt_41 (v := (30 : Int32)) (by decide) ?_
            rcases jw_if hq with ⟨c11, hq⟩ | ⟨c11, hq⟩
            · refine jw_icmp_lt_t (tgt := 48) dX7_signAt_43 (by decide) c11 ?_
              refine jw_aload_n dX7_signAt_48 (o := (some x0)) rfl ?_
              obtain ⟨v12, ev12, hq⟩ := Option.bind_eq_some_iff.mp hq
              refine jw_getR (o := (some x0)) dX7_signAt_49 ev12 fl_X7_21 rfl ?_
              refine jw_iload_n dX7_signAt_52 rfl ?_
              refine jw_iconst dX7_signAt_53 (v := (1 : Int32)) (by decide) ?_
              refine jw_isub dX7_signAt_54 ?_
              refine jw_bipush dX7_signAt_55 (v := (30 : Int32)) (by decide) ?_
              refine jw_imul dX7_signAt_57 ?_
              refine jw_iload_n dX7_signAt_58 rfl ?_
              refine jw_iadd dX7_signAt_59 ?_
              obtain ⟨v13, ev13, hq⟩ := Option.bind_eq_some_iff.mp hq
              refine jw_bald (o := v12) dX7_signAt_60 ev13 ?_
              cases hq
              exact jw_iret (ty := .int) dX7_signAt_61 rfl rfl
            · refine jw_icmp_lt_f (tgt := 48) dX7_signAt_43 (by decide) c11 ?_
              refine jw_iconst dX7_signAt_46 (v := (-1 : Int32)) (by decide) ?_
              cases hq
              exact jw_iret (ty := .int) dX7_signAt_47 rfl rfl
      · refine jw_icmp_le_f (tgt := 24) dX7_signAt_19 (by decide) c6 ?_
        refine jw_iconst dX7_signAt_22 (v := (-1 : Int32)) (by decide) ?_
        cases hq
        exact jw_iret (ty := .int) dX7_signAt_23 rfl rfl

theorem c_X7_signAt {h : jw_H} {x0 : Nat} {x1 : Int32} {x2 : Int32} {r : Int32} {h' : jw_H} (hq : f_X7_signAt h x0 x1 x2 = some (r, h')) : jw_Con (Cond.code yX7_signAt cX7_signAt 3 (some .int)) yX7_signAt 0 [.ref x0, .int x1, .int x2] h (.inl (some (.int r))) h' :=
  jw_con false (plainFor_of_name (by decide +kernel)) (fun z => nomatch z) (by simp [jw_ent, jw_sl0_nil, jw_sl0_int, jw_sl0_long, jw_sl0_ref, jw_sl0_rf, jw_sl0_scr, List.replicate]) (by simp [jw_sl0_nil, jw_sl0_int, jw_sl0_long, jw_sl0_ref, jw_sl0_rf, jw_sl0_scr]) (l_X7_signAt hq)


/-! X11_at -/
noncomputable def f_X11_at (h : jw_H) (x0 : Nat) (x1 : Int32) (x2 : Int32) : Option ((Int32 ⊕ String) × jw_H) :=
 (jw_gR h 11 (some x0) 6).bind fun v1 =>
 (jw_gR h 9 v1 0).bind fun v2 =>
 (jw_rc h 7 v2).bind fun a3 =>
 jw_b2 (f_X7_signAt h a3 x1 x2) fun w5 h4 =>
 if w5 = (-1 : Int32) then (some (Sum.inr "java/lang/IndexOutOfBoundsException", jw_thw h4))
 else (some (Sum.inl w5, h4))

set_option maxRecDepth 100000 in
set_option maxHeartbeats 4000000 in
theorem l_X11_at {hi : jw_H} {h : jw_H} {x0 : Nat} {x1 : Int32} {x2 : Int32} {r : Int32 ⊕ String} {h' : jw_H} (hq : f_X11_at  h x0 x1 x2 = some (r, h')) : jw_E 8 uX11_at hi 0 [some (.ref x0), some (.int x1), some (.int x2), none] [] h (jw_res r) h' := by
  unfold f_X11_at at hq
  refine jw_aload_n dX11_at_0 (o := (some x0)) rfl ?_
  obtain ⟨v1, ev1, hq⟩ := Option.bind_eq_some_iff.mp hq
  refine jw_getR (o := (some x0)) dX11_at_1 ev1 fl_X11_38 rfl ?_
  obtain ⟨v2, ev2, hq⟩ := Option.bind_eq_some_iff.mp hq
  refine jw_getR (o := v1) dX11_at_4 ev2 fl_X11_160 rfl ?_
  refine jw_iload_n dX11_at_7 rfl ?_
  refine jw_iload_n dX11_at_8 rfl ?_
  obtain ⟨a3, ea3, hq⟩ := Option.bind_eq_some_iff.mp hq
  obtain ⟨eoa3, eta3⟩ := jw_rc_spec ea3
  obtain ⟨w5, h4, ew5, hq⟩ := jw_b2_spec hq
  refine jw_callV (As := [.int x1, .int x2]) (S := []) (a := a3) (v := some (.int w5)) dX11_at_9 mt_X7_signAt in_X7_signAt se_X7_signAt lk_X11_177 (c_X7_signAt ew5) eta3 (by decide) rfl rfl (by decide) (Nat.le_of_ble_eq_true rfl) (by cases eoa3; rfl) ?_
  refine jw_istore_n (L' := [some (.ref x0), some (.int x1), some (.int x2), some (.int w5)]) dX11_at_12 (Nat.le_of_ble_eq_true rfl) rfl ?_
  refine jw_iload_n dX11_at_13 rfl ?_
  refine jw_iconst dX11_at_14 (v := (-1 : Int32)) (by decide) ?_
  rcases jw_if hq with ⟨c6, hq⟩ | ⟨c6, hq⟩
  · refine jw_icmp_ne_f (tgt := 28) dX11_at_15 (by decide) c6 ?_
    cases hq
    exact jw_throw th_X11_at_18 (Nat.le_of_ble_eq_true rfl) (Nat.le_of_ble_eq_true rfl)
  · refine jw_icmp_ne_t (tgt := 28) dX11_at_15 (by decide) c6 ?_
    refine jw_iload_n dX11_at_28 rfl ?_
    cases hq
    exact jw_iret (ty := .int) dX11_at_29 rfl rfl

theorem c_X11_at {h : jw_H} {x0 : Nat} {x1 : Int32} {x2 : Int32} {r : Int32 ⊕ String} {h' : jw_H} (hq : f_X11_at h x0 x1 x2 = some (r, h')) : jw_Con (Cond.code yX11_at cX11_at 4 (some .int)) yX11_at 8 [.ref x0, .int x1, .int x2] h (jw_res r) h' :=
  jw_con false (plainFor_of_name (by decide +kernel)) (fun z => nomatch z) (by simp [jw_ent, jw_sl0_nil, jw_sl0_int, jw_sl0_long, jw_sl0_ref, jw_sl0_rf, jw_sl0_scr, List.replicate]) (by simp [jw_sl0_nil, jw_sl0_int, jw_sl0_long, jw_sl0_ref, jw_sl0_rf, jw_sl0_scr]) (l_X11_at hq)


/-! X11_present -/
noncomputable def f_X11_present (h : jw_H) (x0 : Nat) : Option (Int32 × jw_H) :=
 (jw_gR h 11 (some x0) 6).bind fun v1 =>
 (jw_gI h 9 v1 3).bind fun v2 =>
 some (v2, h)

set_option maxRecDepth 100000 in
set_option maxHeartbeats 4000000 in
theorem l_X11_present {hi : jw_H} {h : jw_H} {x0 : Nat} {r : Int32} {h' : jw_H} (hq : f_X11_present  h x0 = some (r, h')) : jw_E 0 uX11_present hi 0 [some (.ref x0)] [] h (.inl (some (.int r))) h' := by
  unfold f_X11_present at hq
  refine jw_aload_n dX11_present_0 (o := (some x0)) rfl ?_
  obtain ⟨v1, ev1, hq⟩ := Option.bind_eq_some_iff.mp hq
  refine jw_getR (o := (some x0)) dX11_present_1 ev1 fl_X11_38 rfl ?_
  obtain ⟨v2, ev2, hq⟩ := Option.bind_eq_some_iff.mp hq
  refine jw_getI (o := v1) dX11_present_4 ev2 fl_X11_189 rfl ?_
  cases hq
  exact jw_iret (ty := .int) dX11_present_7 rfl rfl

theorem c_X11_present {h : jw_H} {x0 : Nat} {r : Int32} {h' : jw_H} (hq : f_X11_present h x0 = some (r, h')) : jw_Con (Cond.code yX11_present cX11_present 1 (some .int)) yX11_present 0 [.ref x0] h (.inl (some (.int r))) h' :=
  jw_con false (plainFor_of_name (by decide +kernel)) (fun z => nomatch z) (by simp [jw_ent, jw_sl0_nil, jw_sl0_int, jw_sl0_long, jw_sl0_ref, jw_sl0_rf, jw_sl0_scr, List.replicate]) (by simp [jw_sl0_nil, jw_sl0_int, jw_sl0_long, jw_sl0_ref, jw_sl0_rf, jw_sl0_scr]) (l_X11_present hq)


/-! X9_idOf -/
noncomputable def g_X9_idOf_b37 (h : jw_H) (t0 : Int32) : Option (Int32 × jw_H) :=
 some (t0, h)

noncomputable def g_X9_idOf_b36 (h : jw_H)  : Option (Int32 × jw_H) :=
 g_X9_idOf_b37  h (-1 : Int32)

noncomputable def f_X9_idOf (h : jw_H) (x0 : Nat) (x1 : Int32) : Option (Int32 × jw_H) :=
 if x1 < (1 : Int32) then (g_X9_idOf_b36  h )
 else ((jw_gR h 9 (some x0) 0).bind fun v2 =>
 (jw_gI h 7 v2 2).bind fun v3 =>
 if v3 < x1 then (g_X9_idOf_b36  h )
 else ((jw_gR h 9 (some x0) 1).bind fun v5 =>
 (jw_ln h v5).bind fun v6 =>
 if v6 < x1 then (g_X9_idOf_b36  h )
 else ((jw_gR h 9 (some x0) 1).bind fun v8 =>
 (jw_ai h 20 v8 (x1 - (1 : Int32))).bind fun v9 =>
 g_X9_idOf_b37  h v9)))

set_option maxRecDepth 100000 in
set_option maxHeartbeats 4000000 in
theorem l_X9_idOf_b37 {hi : jw_H} {h : jw_H} {t0 : Int32} {r : Int32} {h' : jw_H} (hq : g_X9_idOf_b37  h t0 = some (r, h')) : jw_E 0 uX9_idOf hi 37 [none, none] [.int t0] h (.inl (some (.int r))) h' := by
  unfold g_X9_idOf_b37 at hq
  cases hq
  exact jw_iret (ty := .int) dX9_idOf_37 rfl rfl

set_option maxRecDepth 100000 in
set_option maxHeartbeats 4000000 in
theorem l_X9_idOf_b36 {hi : jw_H} {h : jw_H}  {r : Int32} {h' : jw_H} (hq : g_X9_idOf_b36  h  = some (r, h')) : jw_E 0 uX9_idOf hi 36 [none, none] [] h (.inl (some (.int r))) h' := by
  unfold g_X9_idOf_b36 at hq
  refine jw_iconst dX9_idOf_36 (v := (-1 : Int32)) (by decide) ?_
  exact l_X9_idOf_b37  hq

set_option maxRecDepth 100000 in
set_option maxHeartbeats 4000000 in
theorem l_X9_idOf {hi : jw_H} {h : jw_H} {x0 : Nat} {x1 : Int32} {r : Int32} {h' : jw_H} (hq : f_X9_idOf  h x0 x1 = some (r, h')) : jw_E 0 uX9_idOf hi 0 [some (.ref x0), some (.int x1)] [] h (.inl (some (.int r))) h' := by
  unfold f_X9_idOf at hq
  refine jw_iload_n dX9_idOf_0 rfl ?_
  refine jw_iconst dX9_idOf_1 (v := (1 : Int32)) (by decide) ?_
  rcases jw_if hq with ⟨c1, hq⟩ | ⟨c1, hq⟩
  · refine jw_icmp_lt_t (tgt := 36) dX9_idOf_2 (by decide) c1 ?_
    refine jw_forget [false, false] (L' := [none, none]) rfl ?_
    exact l_X9_idOf_b36  hq
  · refine jw_icmp_lt_f (tgt := 36) dX9_idOf_2 (by decide) c1 ?_
    refine jw_iload_n dX9_idOf_5 rfl ?_
    refine jw_aload_n dX9_idOf_6 (o := (some x0)) rfl ?_
    obtain ⟨v2, ev2, hq⟩ := Option.bind_eq_some_iff.mp hq
    refine jw_getR (o := (some x0)) dX9_idOf_7 ev2 fl_X9_14 rfl ?_
    obtain ⟨v3, ev3, hq⟩ := Option.bind_eq_some_iff.mp hq
    refine jw_getI (o := v2) dX9_idOf_10 ev3 fl_X9_41 rfl ?_
    rcases jw_if hq with ⟨c4, hq⟩ | ⟨c4, hq⟩
    · refine jw_icmp_gt_t (tgt := 36) dX9_idOf_13 (by decide) c4 ?_
      refine jw_forget [false, false] (L' := [none, none]) rfl ?_
      exact l_X9_idOf_b36  hq
    · refine jw_icmp_gt_f (tgt := 36) dX9_idOf_13 (by decide) c4 ?_
      refine jw_iload_n dX9_idOf_16 rfl ?_
      refine jw_aload_n dX9_idOf_17 (o := (some x0)) rfl ?_
      obtain ⟨v5, ev5, hq⟩ := Option.bind_eq_some_iff.mp hq
      refine jw_getR (o := (some x0)) dX9_idOf_18 ev5 fl_X9_20 rfl ?_
      obtain ⟨v6, ev6, hq⟩ := Option.bind_eq_some_iff.mp hq
      refine jw_alen (o := v5) dX9_idOf_21 ev6 ?_
      rcases jw_if hq with ⟨c7, hq⟩ | ⟨c7, hq⟩
      · refine jw_icmp_gt_t (tgt := 36) dX9_idOf_22 (by decide) c7 ?_
        refine jw_forget [false, false] (L' := [none, none]) rfl ?_
        exact l_X9_idOf_b36  hq
      · refine jw_icmp_gt_f (tgt := 36) dX9_idOf_22 (by decide) c7 ?_
        refine jw_aload_n dX9_idOf_25 (o := (some x0)) rfl ?_
        obtain ⟨v8, ev8, hq⟩ := Option.bind_eq_some_iff.mp hq
        refine jw_getR (o := (some x0)) dX9_idOf_26 ev8 fl_X9_20 rfl ?_
        refine jw_iload_n dX9_idOf_29 rfl ?_
        refine jw_iconst dX9_idOf_30 (v := (1 : Int32)) (by decide) ?_
        refine jw_isub dX9_idOf_31 ?_
        obtain ⟨v9, ev9, hq⟩ := Option.bind_eq_some_iff.mp hq
        refine jw_iald (o := v8) dX9_idOf_32 ev9 ?_
        refine jw_goto (tgt := 37) dX9_idOf_33 (by decide) ?_
        refine jw_forget [false, false] (L' := [none, none]) rfl ?_
        exact l_X9_idOf_b37  hq

theorem c_X9_idOf {h : jw_H} {x0 : Nat} {x1 : Int32} {r : Int32} {h' : jw_H} (hq : f_X9_idOf h x0 x1 = some (r, h')) : jw_Con (Cond.code yX9_idOf cX9_idOf 2 (some .int)) yX9_idOf 0 [.ref x0, .int x1] h (.inl (some (.int r))) h' :=
  jw_con false (plainFor_of_name (by decide +kernel)) (fun z => nomatch z) (by simp [jw_ent, jw_sl0_nil, jw_sl0_int, jw_sl0_long, jw_sl0_ref, jw_sl0_rf, jw_sl0_scr, List.replicate]) (by simp [jw_sl0_nil, jw_sl0_int, jw_sl0_long, jw_sl0_ref, jw_sl0_rf, jw_sl0_scr]) (l_X9_idOf hq)


/-! X11_id -/
noncomputable def f_X11_id (h : jw_H) (x0 : Nat) (x1 : Int32) : Option ((Int32 ⊕ String) × jw_H) :=
 (jw_gR h 11 (some x0) 6).bind fun v1 =>
 (jw_gR h 9 v1 0).bind fun v2 =>
 (jw_rc h 7 v2).bind fun a3 =>
 jw_b2 (f_X7_has h a3 x1) fun w5 h4 =>
 if w5 = 0 then (some (Sum.inr "java/lang/IndexOutOfBoundsException", jw_thw h4))
 else ((jw_gR h4 11 (some x0) 6).bind fun v7 =>
 (jw_rc h4 9 v7).bind fun a8 =>
 jw_b2 (f_X9_idOf h4 a8 x1) fun w10 h9 =>
 some (Sum.inl w10, h9))

set_option maxRecDepth 100000 in
set_option maxHeartbeats 4000000 in
theorem l_X11_id {hi : jw_H} {h : jw_H} {x0 : Nat} {x1 : Int32} {r : Int32 ⊕ String} {h' : jw_H} (hq : f_X11_id  h x0 x1 = some (r, h')) : jw_E 8 uX11_id hi 0 [some (.ref x0), some (.int x1)] [] h (jw_res r) h' := by
  unfold f_X11_id at hq
  refine jw_aload_n dX11_id_0 (o := (some x0)) rfl ?_
  obtain ⟨v1, ev1, hq⟩ := Option.bind_eq_some_iff.mp hq
  refine jw_getR (o := (some x0)) dX11_id_1 ev1 fl_X11_38 rfl ?_
  obtain ⟨v2, ev2, hq⟩ := Option.bind_eq_some_iff.mp hq
  refine jw_getR (o := v1) dX11_id_4 ev2 fl_X11_160 rfl ?_
  refine jw_iload_n dX11_id_7 rfl ?_
  obtain ⟨a3, ea3, hq⟩ := Option.bind_eq_some_iff.mp hq
  obtain ⟨eoa3, eta3⟩ := jw_rc_spec ea3
  obtain ⟨w5, h4, ew5, hq⟩ := jw_b2_spec hq
  refine jw_callV (As := [.int x1]) (S := []) (a := a3) (v := some (.int w5)) dX11_id_8 mt_X7_has in_X7_has se_X7_has lk_X11_169 (c_X7_has ew5) eta3 (by decide) rfl rfl (by decide) (Nat.le_of_ble_eq_true rfl) (by cases eoa3; rfl) ?_
  rcases jw_if hq with ⟨c6, hq⟩ | ⟨c6, hq⟩
  · refine jw_if_ne_f (tgt := 24) dX11_id_11 (by decide) c6 ?_
    cases hq
    exact jw_throw th_X11_id_14 (Nat.le_of_ble_eq_true rfl) (Nat.le_of_ble_eq_true rfl)
  · refine jw_if_ne_t (tgt := 24) dX11_id_11 (by decide) c6 ?_
    refine jw_aload_n dX11_id_24 (o := (some x0)) rfl ?_
    obtain ⟨v7, ev7, hq⟩ := Option.bind_eq_some_iff.mp hq
    refine jw_getR (o := (some x0)) dX11_id_25 ev7 fl_X11_38 rfl ?_
    refine jw_iload_n dX11_id_28 rfl ?_
    obtain ⟨a8, ea8, hq⟩ := Option.bind_eq_some_iff.mp hq
    obtain ⟨eoa8, eta8⟩ := jw_rc_spec ea8
    obtain ⟨w10, h9, ew10, hq⟩ := jw_b2_spec hq
    refine jw_callV (As := [.int x1]) (S := []) (a := a8) (v := some (.int w10)) dX11_id_29 mt_X9_idOf in_X9_idOf se_X9_idOf lk_X11_183 (c_X9_idOf ew10) eta8 (by decide) rfl rfl (by decide) (Nat.le_of_ble_eq_true rfl) (by cases eoa8; rfl) ?_
    cases hq
    exact jw_iret (ty := .int) dX11_id_32 rfl rfl

theorem c_X11_id {h : jw_H} {x0 : Nat} {x1 : Int32} {r : Int32 ⊕ String} {h' : jw_H} (hq : f_X11_id h x0 x1 = some (r, h')) : jw_Con (Cond.code yX11_id cX11_id 2 (some .int)) yX11_id 8 [.ref x0, .int x1] h (jw_res r) h' :=
  jw_con false (plainFor_of_name (by decide +kernel)) (fun z => nomatch z) (by simp [jw_ent, jw_sl0_nil, jw_sl0_int, jw_sl0_long, jw_sl0_ref, jw_sl0_rf, jw_sl0_scr, List.replicate]) (by simp [jw_sl0_nil, jw_sl0_int, jw_sl0_long, jw_sl0_ref, jw_sl0_rf, jw_sl0_scr]) (l_X11_id hq)


/-! X9_markedId -/
noncomputable def g_X9_markedId_b23 (h : jw_H) (t0 : Int32) : Option (Int32 × jw_H) :=
 some (t0, h)

noncomputable def g_X9_markedId_b22 (h : jw_H)  : Option (Int32 × jw_H) :=
 g_X9_markedId_b23  h (-1 : Int32)

noncomputable def f_X9_markedId (h : jw_H) (x0 : Nat) (x1 : Int32) : Option (Int32 × jw_H) :=
 if x1 < 0 then (g_X9_markedId_b22  h )
 else ((jw_gR h 9 (some x0) 2).bind fun v2 =>
 (jw_ln h v2).bind fun v3 =>
 if v3 ≤ x1 then (g_X9_markedId_b22  h )
 else ((jw_gR h 9 (some x0) 2).bind fun v5 =>
 (jw_ai h 20 v5 x1).bind fun v6 =>
 g_X9_markedId_b23  h v6))

set_option maxRecDepth 100000 in
set_option maxHeartbeats 4000000 in
theorem l_X9_markedId_b23 {hi : jw_H} {h : jw_H} {t0 : Int32} {r : Int32} {h' : jw_H} (hq : g_X9_markedId_b23  h t0 = some (r, h')) : jw_E 0 uX9_markedId hi 23 [none, none] [.int t0] h (.inl (some (.int r))) h' := by
  unfold g_X9_markedId_b23 at hq
  cases hq
  exact jw_iret (ty := .int) dX9_markedId_23 rfl rfl

set_option maxRecDepth 100000 in
set_option maxHeartbeats 4000000 in
theorem l_X9_markedId_b22 {hi : jw_H} {h : jw_H}  {r : Int32} {h' : jw_H} (hq : g_X9_markedId_b22  h  = some (r, h')) : jw_E 0 uX9_markedId hi 22 [none, none] [] h (.inl (some (.int r))) h' := by
  unfold g_X9_markedId_b22 at hq
  refine jw_iconst dX9_markedId_22 (v := (-1 : Int32)) (by decide) ?_
  exact l_X9_markedId_b23  hq

set_option maxRecDepth 100000 in
set_option maxHeartbeats 4000000 in
theorem l_X9_markedId {hi : jw_H} {h : jw_H} {x0 : Nat} {x1 : Int32} {r : Int32} {h' : jw_H} (hq : f_X9_markedId  h x0 x1 = some (r, h')) : jw_E 0 uX9_markedId hi 0 [some (.ref x0), some (.int x1)] [] h (.inl (some (.int r))) h' := by
  unfold f_X9_markedId at hq
  refine jw_iload_n dX9_markedId_0 rfl ?_
  rcases jw_if hq with ⟨c1, hq⟩ | ⟨c1, hq⟩
  · refine jw_if_lt_t (tgt := 22) dX9_markedId_1 (by decide) c1 ?_
    refine jw_forget [false, false] (L' := [none, none]) rfl ?_
    exact l_X9_markedId_b22  hq
  · refine jw_if_lt_f (tgt := 22) dX9_markedId_1 (by decide) c1 ?_
    refine jw_iload_n dX9_markedId_4 rfl ?_
    refine jw_aload_n dX9_markedId_5 (o := (some x0)) rfl ?_
    obtain ⟨v2, ev2, hq⟩ := Option.bind_eq_some_iff.mp hq
    refine jw_getR (o := (some x0)) dX9_markedId_6 ev2 fl_X9_24 rfl ?_
    obtain ⟨v3, ev3, hq⟩ := Option.bind_eq_some_iff.mp hq
    refine jw_alen (o := v2) dX9_markedId_9 ev3 ?_
    rcases jw_if hq with ⟨c4, hq⟩ | ⟨c4, hq⟩
    · refine jw_icmp_ge_t (tgt := 22) dX9_markedId_10 (by decide) c4 ?_
      refine jw_forget [false, false] (L' := [none, none]) rfl ?_
      exact l_X9_markedId_b22  hq
    · refine jw_icmp_ge_f (tgt := 22) dX9_markedId_10 (by decide) c4 ?_
      refine jw_aload_n dX9_markedId_13 (o := (some x0)) rfl ?_
      obtain ⟨v5, ev5, hq⟩ := Option.bind_eq_some_iff.mp hq
      refine jw_getR (o := (some x0)) dX9_markedId_14 ev5 fl_X9_24 rfl ?_
      refine jw_iload_n dX9_markedId_17 rfl ?_
      obtain ⟨v6, ev6, hq⟩ := Option.bind_eq_some_iff.mp hq
      refine jw_iald (o := v5) dX9_markedId_18 ev6 ?_
      refine jw_goto (tgt := 23) dX9_markedId_19 (by decide) ?_
      refine jw_forget [false, false] (L' := [none, none]) rfl ?_
      exact l_X9_markedId_b23  hq

theorem c_X9_markedId {h : jw_H} {x0 : Nat} {x1 : Int32} {r : Int32} {h' : jw_H} (hq : f_X9_markedId h x0 x1 = some (r, h')) : jw_Con (Cond.code yX9_markedId cX9_markedId 2 (some .int)) yX9_markedId 0 [.ref x0, .int x1] h (.inl (some (.int r))) h' :=
  jw_con false (plainFor_of_name (by decide +kernel)) (fun z => nomatch z) (by simp [jw_ent, jw_sl0_nil, jw_sl0_int, jw_sl0_long, jw_sl0_ref, jw_sl0_rf, jw_sl0_scr, List.replicate]) (by simp [jw_sl0_nil, jw_sl0_int, jw_sl0_long, jw_sl0_ref, jw_sl0_rf, jw_sl0_scr]) (l_X9_markedId hq)


/-! X9_numberOf -/
noncomputable def g_X9_numberOf_b2 (k2 : jw_H → Nat → Int32 → Int32 → Option (Int32 × jw_H)) (h : jw_H) (x0 : Nat) (x1 : Int32) (x2 : Int32) : Option (Int32 × jw_H) :=
 (jw_gR h 9 (some x0) 0).bind fun v1 =>
 (jw_gI h 7 v1 2).bind fun v2 =>
 if v2 < x2 then (some ((-1 : Int32), h))
 else ((jw_gR h 9 (some x0) 1).bind fun v4 =>
 (jw_ln h v4).bind fun v5 =>
 if v5 < x2 then (some ((-1 : Int32), h))
 else ((jw_gR h 9 (some x0) 1).bind fun v7 =>
 (jw_ai h 20 v7 (x2 - (1 : Int32))).bind fun v8 =>
 if v8 = x1 then (some (x2, h))
 else (k2 h x0 x1 (x2 + (1 : Int32)))))

noncomputable def f_X9_numberOf_b2 (n : Nat) : jw_H → Nat → Int32 → Int32 → Option (Int32 × jw_H) :=
 Nat.rec (fun _ _ _ _ => none) (fun _ k2 => g_X9_numberOf_b2 k2) n

noncomputable def f_X9_numberOf (h : jw_H) (x0 : Nat) (x1 : Int32) : Option (Int32 × jw_H) :=
 f_X9_numberOf_b2  jw_FU h x0 x1 (1 : Int32)

set_option maxRecDepth 100000 in
set_option maxHeartbeats 4000000 in
theorem l_X9_numberOf_b2g {hi : jw_H} {k2 : jw_H → Nat → Int32 → Int32 → Option (Int32 × jw_H)} (hk2 : ∀ (h : jw_H) (x0 : Nat) (x1 : Int32) (x2 : Int32) (r : Int32) (h' : jw_H), k2 h x0 x1 x2 = some (r, h') → jw_E 0 uX9_numberOf hi 2 [some (.ref x0), some (.int x1), some (.int x2)] [] h (.inl (some (.int r))) h') {h : jw_H} {x0 : Nat} {x1 : Int32} {x2 : Int32} {r : Int32} {h' : jw_H} (hq : g_X9_numberOf_b2 k2 h x0 x1 x2 = some (r, h')) : jw_E 0 uX9_numberOf hi 2 [some (.ref x0), some (.int x1), some (.int x2)] [] h (.inl (some (.int r))) h' := by
  unfold g_X9_numberOf_b2 at hq
  refine jw_iload_n dX9_numberOf_2 rfl ?_
  refine jw_aload_n dX9_numberOf_3 (o := (some x0)) rfl ?_
  obtain ⟨v1, ev1, hq⟩ := Option.bind_eq_some_iff.mp hq
  refine jw_getR (o := (some x0)) dX9_numberOf_4 ev1 fl_X9_14 rfl ?_
  obtain ⟨v2, ev2, hq⟩ := Option.bind_eq_some_iff.mp hq
  refine jw_getI (o := v1) dX9_numberOf_7 ev2 fl_X9_41 rfl ?_
  rcases jw_if hq with ⟨c3, hq⟩ | ⟨c3, hq⟩
  · refine jw_icmp_gt_t (tgt := 42) dX9_numberOf_10 (by decide) c3 ?_
    refine jw_iconst dX9_numberOf_42 (v := (-1 : Int32)) (by decide) ?_
    cases hq
    exact jw_iret (ty := .int) dX9_numberOf_43 rfl rfl
  · refine jw_icmp_gt_f (tgt := 42) dX9_numberOf_10 (by decide) c3 ?_
    refine jw_iload_n dX9_numberOf_13 rfl ?_
    refine jw_aload_n dX9_numberOf_14 (o := (some x0)) rfl ?_
    obtain ⟨v4, ev4, hq⟩ := Option.bind_eq_some_iff.mp hq
    refine jw_getR (o := (some x0)) dX9_numberOf_15 ev4 fl_X9_20 rfl ?_
    obtain ⟨v5, ev5, hq⟩ := Option.bind_eq_some_iff.mp hq
    refine jw_alen (o := v4) dX9_numberOf_18 ev5 ?_
    rcases jw_if hq with ⟨c6, hq⟩ | ⟨c6, hq⟩
    · refine jw_icmp_gt_t (tgt := 42) dX9_numberOf_19 (by decide) c6 ?_
      refine jw_iconst dX9_numberOf_42 (v := (-1 : Int32)) (by decide) ?_
      cases hq
      exact jw_iret (ty := .int) dX9_numberOf_43 rfl rfl
    · refine jw_icmp_gt_f (tgt := 42) dX9_numberOf_19 (by decide) c6 ?_
      refine jw_aload_n dX9_numberOf_22 (o := (some x0)) rfl ?_
      obtain ⟨v7, ev7, hq⟩ := Option.bind_eq_some_iff.mp hq
      refine jw_getR (o := (some x0)) dX9_numberOf_23 ev7 fl_X9_20 rfl ?_
      refine jw_iload_n dX9_numberOf_26 rfl ?_
      refine jw_iconst dX9_numberOf_27 (v := (1 : Int32)) (by decide) ?_
      refine jw_isub dX9_numberOf_28 ?_
      obtain ⟨v8, ev8, hq⟩ := Option.bind_eq_some_iff.mp hq
      refine jw_iald (o := v7) dX9_numberOf_29 ev8 ?_
      refine jw_iload_n dX9_numberOf_30 rfl ?_
      rcases jw_if hq with ⟨c9, hq⟩ | ⟨c9, hq⟩
      · refine jw_icmp_ne_f (tgt := 36) dX9_numberOf_31 (by decide) c9 ?_
        refine jw_iload_n dX9_numberOf_34 rfl ?_
        cases hq
        exact jw_iret (ty := .int) dX9_numberOf_35 rfl rfl
      · refine jw_icmp_ne_t (tgt := 36) dX9_numberOf_31 (by decide) c9 ?_
        refine jw_iinc (L' := [some (.ref x0), some (.int x1), some (.int (x2 + (1 : Int32)))]) dX9_numberOf_36 rfl (v := (1 : Int32)) (by decide) (Nat.le_of_ble_eq_true rfl) rfl ?_
        refine jw_goto (tgt := 2) dX9_numberOf_39 (by decide) ?_
        exact hk2 _ _ _ _ _ _ hq

theorem l_X9_numberOf_b2 {hi : jw_H} : ∀ (n : Nat) (h : jw_H) (x0 : Nat) (x1 : Int32) (x2 : Int32) (r : Int32) (h' : jw_H), f_X9_numberOf_b2  n h x0 x1 x2 = some (r, h') → jw_E 0 uX9_numberOf hi 2 [some (.ref x0), some (.int x1), some (.int x2)] [] h (.inl (some (.int r))) h' := by
  intro n
  induction n with
  | zero => intro h x0 x1 x2 r h' hq; exact nomatch hq
  | succ n ih => intro h x0 x1 x2 r h' hq; exact l_X9_numberOf_b2g ih hq

set_option maxRecDepth 100000 in
set_option maxHeartbeats 4000000 in
theorem l_X9_numberOf {hi : jw_H} {h : jw_H} {x0 : Nat} {x1 : Int32} {r : Int32} {h' : jw_H} (hq : f_X9_numberOf  h x0 x1 = some (r, h')) : jw_E 0 uX9_numberOf hi 0 [some (.ref x0), some (.int x1), none] [] h (.inl (some (.int r))) h' := by
  unfold f_X9_numberOf at hq
  refine jw_iconst dX9_numberOf_0 (v := (1 : Int32)) (by decide) ?_
  refine jw_istore_n (L' := [some (.ref x0), some (.int x1), some (.int (1 : Int32))]) dX9_numberOf_1 (Nat.le_of_ble_eq_true rfl) rfl ?_
  exact l_X9_numberOf_b2  jw_FU _ _ _ _ _ _ hq

theorem c_X9_numberOf {h : jw_H} {x0 : Nat} {x1 : Int32} {r : Int32} {h' : jw_H} (hq : f_X9_numberOf h x0 x1 = some (r, h')) : jw_Con (Cond.code yX9_numberOf cX9_numberOf 3 (some .int)) yX9_numberOf 0 [.ref x0, .int x1] h (.inl (some (.int r))) h' :=
  jw_con false (plainFor_of_name (by decide +kernel)) (fun z => nomatch z) (by simp [jw_ent, jw_sl0_nil, jw_sl0_int, jw_sl0_long, jw_sl0_ref, jw_sl0_rf, jw_sl0_scr, List.replicate]) (by simp [jw_sl0_nil, jw_sl0_int, jw_sl0_long, jw_sl0_ref, jw_sl0_rf, jw_sl0_scr]) (l_X9_numberOf hq)


/-! X9_markedLine -/
noncomputable def g_X9_markedLine_b20 (h : jw_H) (t0 : Int32) : Option (Int32 × jw_H) :=
 some (t0, h)

noncomputable def f_X9_markedLine (h : jw_H) (x0 : Nat) (x1 : Int32) : Option (Int32 × jw_H) :=
 (jw_rc h 9 (some x0)).bind fun a1 =>
 jw_b2 (f_X9_markedId h a1 x1) fun w3 h2 =>
 if w3 = (-1 : Int32) then (g_X9_markedLine_b20  h2 (-1 : Int32))
 else ((jw_rc h2 9 (some x0)).bind fun a5 =>
 jw_b2 (f_X9_numberOf h2 a5 w3) fun w7 h6 =>
 g_X9_markedLine_b20  h6 w7)

set_option maxRecDepth 100000 in
set_option maxHeartbeats 4000000 in
theorem l_X9_markedLine_b20 {hi : jw_H} {h : jw_H} {t0 : Int32} {r : Int32} {h' : jw_H} (hq : g_X9_markedLine_b20  h t0 = some (r, h')) : jw_E 1 uX9_markedLine hi 20 [none, none, none] [.int t0] h (.inl (some (.int r))) h' := by
  unfold g_X9_markedLine_b20 at hq
  cases hq
  exact jw_iret (ty := .int) dX9_markedLine_20 rfl rfl

set_option maxRecDepth 100000 in
set_option maxHeartbeats 4000000 in
theorem l_X9_markedLine {hi : jw_H} {h : jw_H} {x0 : Nat} {x1 : Int32} {r : Int32} {h' : jw_H} (hq : f_X9_markedLine  h x0 x1 = some (r, h')) : jw_E 1 uX9_markedLine hi 0 [some (.ref x0), some (.int x1), none] [] h (.inl (some (.int r))) h' := by
  unfold f_X9_markedLine at hq
  refine jw_aload_n dX9_markedLine_0 (o := (some x0)) rfl ?_
  refine jw_iload_n dX9_markedLine_1 rfl ?_
  obtain ⟨a1, ea1, hq⟩ := Option.bind_eq_some_iff.mp hq
  obtain ⟨eoa1, eta1⟩ := jw_rc_spec ea1
  obtain ⟨w3, h2, ew3, hq⟩ := jw_b2_spec hq
  refine jw_callV (As := [.int x1]) (S := []) (a := a1) (v := some (.int w3)) dX9_markedLine_2 mt_X9_markedId in_X9_markedId se_X9_markedId lk_X9_44 (c_X9_markedId ew3) eta1 (by decide) rfl rfl (by decide) (Nat.le_of_ble_eq_true rfl) (by cases eoa1; rfl) ?_
  refine jw_istore_n (L' := [some (.ref x0), some (.int x1), some (.int w3)]) dX9_markedLine_5 (Nat.le_of_ble_eq_true rfl) rfl ?_
  refine jw_iload_n dX9_markedLine_6 rfl ?_
  refine jw_iconst dX9_markedLine_7 (v := (-1 : Int32)) (by decide) ?_
  rcases jw_if hq with ⟨c4, hq⟩ | ⟨c4, hq⟩
  · refine jw_icmp_ne_f (tgt := 15) dX9_markedLine_8 (by decide) c4 ?_
    refine jw_iconst dX9_markedLine_11 (v := (-1 : Int32)) (by decide) ?_
    refine jw_goto (tgt := 20) dX9_markedLine_12 (by decide) ?_
    refine jw_forget [false, false, false] (L' := [none, none, none]) rfl ?_
    exact l_X9_markedLine_b20  hq
  · refine jw_icmp_ne_t (tgt := 15) dX9_markedLine_8 (by decide) c4 ?_
    refine jw_aload_n dX9_markedLine_15 (o := (some x0)) rfl ?_
    refine jw_iload_n dX9_markedLine_16 rfl ?_
    obtain ⟨a5, ea5, hq⟩ := Option.bind_eq_some_iff.mp hq
    obtain ⟨eoa5, eta5⟩ := jw_rc_spec ea5
    obtain ⟨w7, h6, ew7, hq⟩ := jw_b2_spec hq
    refine jw_callV (As := [.int w3]) (S := []) (a := a5) (v := some (.int w7)) dX9_markedLine_17 mt_X9_numberOf in_X9_numberOf se_X9_numberOf lk_X9_48 (c_X9_numberOf ew7) eta5 (by decide) rfl rfl (by decide) (Nat.le_of_ble_eq_true rfl) (by cases eoa5; rfl) ?_
    refine jw_forget [false, false, false] (L' := [none, none, none]) rfl ?_
    exact l_X9_markedLine_b20  hq

theorem c_X9_markedLine {h : jw_H} {x0 : Nat} {x1 : Int32} {r : Int32} {h' : jw_H} (hq : f_X9_markedLine h x0 x1 = some (r, h')) : jw_Con (Cond.code yX9_markedLine cX9_markedLine 3 (some .int)) yX9_markedLine 1 [.ref x0, .int x1] h (.inl (some (.int r))) h' :=
  jw_con false (plainFor_of_name (by decide +kernel)) (fun z => nomatch z) (by simp [jw_ent, jw_sl0_nil, jw_sl0_int, jw_sl0_long, jw_sl0_ref, jw_sl0_rf, jw_sl0_scr, List.replicate]) (by simp [jw_sl0_nil, jw_sl0_int, jw_sl0_long, jw_sl0_ref, jw_sl0_rf, jw_sl0_scr]) (l_X9_markedLine hq)


/-! X11_mark -/
noncomputable def g_X11_mark_b9 (h : jw_H)  : Option ((Int32 ⊕ String) × jw_H) :=
 some (Sum.inr "java/lang/IndexOutOfBoundsException", jw_thw h)

noncomputable def f_X11_mark (h : jw_H) (x0 : Nat) (x1 : Int32) : Option ((Int32 ⊕ String) × jw_H) :=
 if x1 < 0 then (g_X11_mark_b9  h )
 else (if x1 < (5 : Int32) then ((jw_gR h 11 (some x0) 6).bind fun v3 =>
 (jw_rc h 9 v3).bind fun a4 =>
 jw_b2 (f_X9_markedLine h a4 x1) fun w6 h5 =>
 some (Sum.inl w6, h5))
 else (g_X11_mark_b9  h ))

set_option maxRecDepth 100000 in
set_option maxHeartbeats 4000000 in
theorem l_X11_mark_b9 {hi : jw_H} {h : jw_H}  {r : Int32 ⊕ String} {h' : jw_H} (hq : g_X11_mark_b9  h  = some (r, h')) : jw_E 8 uX11_mark hi 9 [none, none] [] h (jw_res r) h' := by
  unfold g_X11_mark_b9 at hq
  cases hq
  exact jw_throw th_X11_mark_9 (Nat.le_of_ble_eq_true rfl) (Nat.le_of_ble_eq_true rfl)

set_option maxRecDepth 100000 in
set_option maxHeartbeats 4000000 in
theorem l_X11_mark {hi : jw_H} {h : jw_H} {x0 : Nat} {x1 : Int32} {r : Int32 ⊕ String} {h' : jw_H} (hq : f_X11_mark  h x0 x1 = some (r, h')) : jw_E 8 uX11_mark hi 0 [some (.ref x0), some (.int x1)] [] h (jw_res r) h' := by
  unfold f_X11_mark at hq
  refine jw_iload_n dX11_mark_0 rfl ?_
  rcases jw_if hq with ⟨c1, hq⟩ | ⟨c1, hq⟩
  · refine jw_if_lt_t (tgt := 9) dX11_mark_1 (by decide) c1 ?_
    refine jw_forget [false, false] (L' := [none, none]) rfl ?_
    exact l_X11_mark_b9  hq
  · refine jw_if_lt_f (tgt := 9) dX11_mark_1 (by decide) c1 ?_
    refine jw_iload_n dX11_mark_4 rfl ?_
    refine jw_iconst dX11_mark_5 (v := (5 : Int32)) (by decide) ?_
    rcases jw_if hq with ⟨c2, hq⟩ | ⟨c2, hq⟩
    · refine jw_icmp_lt_t (tgt := 19) dX11_mark_6 (by decide) c2 ?_
      refine jw_aload_n dX11_mark_19 (o := (some x0)) rfl ?_
      obtain ⟨v3, ev3, hq⟩ := Option.bind_eq_some_iff.mp hq
      refine jw_getR (o := (some x0)) dX11_mark_20 ev3 fl_X11_38 rfl ?_
      refine jw_iload_n dX11_mark_23 rfl ?_
      obtain ⟨a4, ea4, hq⟩ := Option.bind_eq_some_iff.mp hq
      obtain ⟨eoa4, eta4⟩ := jw_rc_spec ea4
      obtain ⟨w6, h5, ew6, hq⟩ := jw_b2_spec hq
      refine jw_callV (As := [.int x1]) (S := []) (a := a4) (v := some (.int w6)) dX11_mark_24 mt_X9_markedLine in_X9_markedLine se_X9_markedLine lk_X11_194 (c_X9_markedLine ew6) eta4 (by decide) rfl rfl (by decide) (Nat.le_of_ble_eq_true rfl) (by cases eoa4; rfl) ?_
      cases hq
      exact jw_iret (ty := .int) dX11_mark_27 rfl rfl
    · refine jw_icmp_lt_f (tgt := 19) dX11_mark_6 (by decide) c2 ?_
      refine jw_forget [false, false] (L' := [none, none]) rfl ?_
      exact l_X11_mark_b9  hq

theorem c_X11_mark {h : jw_H} {x0 : Nat} {x1 : Int32} {r : Int32 ⊕ String} {h' : jw_H} (hq : f_X11_mark h x0 x1 = some (r, h')) : jw_Con (Cond.code yX11_mark cX11_mark 2 (some .int)) yX11_mark 8 [.ref x0, .int x1] h (jw_res r) h' :=
  jw_con false (plainFor_of_name (by decide +kernel)) (fun z => nomatch z) (by simp [jw_ent, jw_sl0_nil, jw_sl0_int, jw_sl0_long, jw_sl0_ref, jw_sl0_rf, jw_sl0_scr, List.replicate]) (by simp [jw_sl0_nil, jw_sl0_int, jw_sl0_long, jw_sl0_ref, jw_sl0_rf, jw_sl0_scr]) (l_X11_mark hq)


/-! X11_deeds -/
noncomputable def f_X11_deeds (h : jw_H) (x0 : Nat) : Option (Int32 × jw_H) :=
 (jw_gR h 11 (some x0) 11).bind fun v1 =>
 (jw_gI h 3 v1 3).bind fun v2 =>
 some (v2, h)

set_option maxRecDepth 100000 in
set_option maxHeartbeats 4000000 in
theorem l_X11_deeds {hi : jw_H} {h : jw_H} {x0 : Nat} {r : Int32} {h' : jw_H} (hq : f_X11_deeds  h x0 = some (r, h')) : jw_E 0 uX11_deeds hi 0 [some (.ref x0)] [] h (.inl (some (.int r))) h' := by
  unfold f_X11_deeds at hq
  refine jw_aload_n dX11_deeds_0 (o := (some x0)) rfl ?_
  obtain ⟨v1, ev1, hq⟩ := Option.bind_eq_some_iff.mp hq
  refine jw_getR (o := (some x0)) dX11_deeds_1 ev1 fl_X11_52 rfl ?_
  obtain ⟨v2, ev2, hq⟩ := Option.bind_eq_some_iff.mp hq
  refine jw_getI (o := v1) dX11_deeds_4 ev2 fl_X11_149 rfl ?_
  cases hq
  exact jw_iret (ty := .int) dX11_deeds_7 rfl rfl

theorem c_X11_deeds {h : jw_H} {x0 : Nat} {r : Int32} {h' : jw_H} (hq : f_X11_deeds h x0 = some (r, h')) : jw_Con (Cond.code yX11_deeds cX11_deeds 1 (some .int)) yX11_deeds 0 [.ref x0] h (.inl (some (.int r))) h' :=
  jw_con false (plainFor_of_name (by decide +kernel)) (fun z => nomatch z) (by simp [jw_ent, jw_sl0_nil, jw_sl0_int, jw_sl0_long, jw_sl0_ref, jw_sl0_rf, jw_sl0_scr, List.replicate]) (by simp [jw_sl0_nil, jw_sl0_int, jw_sl0_long, jw_sl0_ref, jw_sl0_rf, jw_sl0_scr]) (l_X11_deeds hq)


/-! J9_min_7cf53 -/
noncomputable def g_J9_min_7cf53_b10 (h : jw_H) (t0 : Int32) : Option (Int32 × jw_H) :=
 some (t0, h)

noncomputable def f_J9_min_7cf53 (h : jw_H) (x0 : Int32) (x1 : Int32) : Option (Int32 × jw_H) :=
 if x1 < x0 then (g_J9_min_7cf53_b10  h x1)
 else (g_J9_min_7cf53_b10  h x0)

set_option maxRecDepth 100000 in
set_option maxHeartbeats 4000000 in
theorem l_J9_min_7cf53_b10 {hi : jw_H} {h : jw_H} {t0 : Int32} {r : Int32} {h' : jw_H} (hq : g_J9_min_7cf53_b10  h t0 = some (r, h')) : jw_E 0 uJ9_min_7cf53 hi 10 [none, none] [.int t0] h (.inl (some (.int r))) h' := by
  unfold g_J9_min_7cf53_b10 at hq
  cases hq
  exact jw_iret (ty := .int) dJ9_min_7cf53_10 rfl rfl

set_option maxRecDepth 100000 in
set_option maxHeartbeats 4000000 in
theorem l_J9_min_7cf53 {hi : jw_H} {h : jw_H} {x0 : Int32} {x1 : Int32} {r : Int32} {h' : jw_H} (hq : f_J9_min_7cf53  h x0 x1 = some (r, h')) : jw_E 0 uJ9_min_7cf53 hi 0 [some (.int x0), some (.int x1)] [] h (.inl (some (.int r))) h' := by
  unfold f_J9_min_7cf53 at hq
  refine jw_iload_n dJ9_min_7cf53_0 rfl ?_
  refine jw_iload_n dJ9_min_7cf53_1 rfl ?_
  rcases jw_if hq with ⟨c1, hq⟩ | ⟨c1, hq⟩
  · refine jw_icmp_gt_t (tgt := 9) dJ9_min_7cf53_2 (by decide) c1 ?_
    refine jw_iload_n dJ9_min_7cf53_9 rfl ?_
    refine jw_forget [false, false] (L' := [none, none]) rfl ?_
    exact l_J9_min_7cf53_b10  hq
  · refine jw_icmp_gt_f (tgt := 9) dJ9_min_7cf53_2 (by decide) c1 ?_
    refine jw_iload_n dJ9_min_7cf53_5 rfl ?_
    refine jw_goto (tgt := 10) dJ9_min_7cf53_6 (by decide) ?_
    refine jw_forget [false, false] (L' := [none, none]) rfl ?_
    exact l_J9_min_7cf53_b10  hq

theorem c_J9_min_7cf53 {h : jw_H} {x0 : Int32} {x1 : Int32} {r : Int32} {h' : jw_H} (hq : f_J9_min_7cf53 h x0 x1 = some (r, h')) : jw_Con (Cond.code yJ9_min_7cf53 cJ9_min_7cf53 2 (some .int)) yJ9_min_7cf53 0 [.int x0, .int x1] h (.inl (some (.int r))) h' :=
  jw_con false (by decide +kernel) (fun z => nomatch z) (by simp [jw_ent, jw_sl0_nil, jw_sl0_int, jw_sl0_long, jw_sl0_ref, jw_sl0_rf, jw_sl0_scr, List.replicate]) (by simp [jw_sl0_nil, jw_sl0_int, jw_sl0_long, jw_sl0_ref, jw_sl0_rf, jw_sl0_scr]) (l_J9_min_7cf53 hq)


/-! X6_begin -/
noncomputable def f_X6_begin (h : jw_H) (x0 : Nat) (x1 : Option Nat) (x2 : Int32) : Option (Unit × jw_H) :=
 (jw_pR h 6 (some x0) 3 x1).bind fun h1 =>
 (jw_ln h1 x1).bind fun v2 =>
 jw_b2 (f_J9_min_7cf53 h1 x2 v2) fun w4 h3 =>
 (jw_pI h3 6 (some x0) 4 w4).bind fun h5 =>
 (jw_pI h5 6 (some x0) 5 (0 : Int32)).bind fun h6 =>
 (jw_pI h6 6 (some x0) 6 (0 : Int32)).bind fun h7 =>
 (jw_pI h7 6 (some x0) 7 (0 : Int32)).bind fun h8 =>
 some ((), h8)

set_option maxRecDepth 100000 in
set_option maxHeartbeats 4000000 in
theorem l_X6_begin {hi : jw_H} {h : jw_H} {x0 : Nat} {x1 : Option Nat} {x2 : Int32} {r : Unit} {h' : jw_H} (hq : f_X6_begin  h x0 x1 x2 = some (r, h')) : jw_E 1 uX6_begin hi 0 [some (.ref x0), some (va_rf x1), some (.int x2)] [] h (.inl none) h' := by
  unfold f_X6_begin at hq
  refine jw_aload_n dX6_begin_0 (o := (some x0)) rfl ?_
  refine jw_aload_n dX6_begin_1 (o := x1) rfl ?_
  obtain ⟨h1, eh1, hq⟩ := Option.bind_eq_some_iff.mp hq
  refine jw_putR (o := (some x0)) (x := x1) dX6_begin_2 eh1 fl_X6_26 rfl rfl ?_
  refine jw_aload_n dX6_begin_5 (o := (some x0)) rfl ?_
  refine jw_iload_n dX6_begin_6 rfl ?_
  refine jw_aload_n dX6_begin_7 (o := x1) rfl ?_
  obtain ⟨v2, ev2, hq⟩ := Option.bind_eq_some_iff.mp hq
  refine jw_alen (o := x1) dX6_begin_8 ev2 ?_
  obtain ⟨w4, h3, ew4, hq⟩ := jw_b2_spec hq
  refine jw_callS (As := [.int x2, .int v2]) (S := [.ref x0]) (v := some (.int w4)) dX6_begin_9 mt_J9_min_7cf53 st_J9_min_7cf53 lk_X6_37 (c_J9_min_7cf53 ew4) rfl (by decide) (Nat.le_of_ble_eq_true rfl) rfl ?_
  obtain ⟨h5, eh5, hq⟩ := Option.bind_eq_some_iff.mp hq
  refine jw_putI (o := (some x0)) dX6_begin_12 eh5 fl_X6_34 rfl rfl ?_
  refine jw_aload_n dX6_begin_15 (o := (some x0)) rfl ?_
  refine jw_iconst dX6_begin_16 (v := (0 : Int32)) (by decide) ?_
  obtain ⟨h6, eh6, hq⟩ := Option.bind_eq_some_iff.mp hq
  refine jw_putI (o := (some x0)) dX6_begin_17 eh6 fl_X6_43 rfl rfl ?_
  refine jw_aload_n dX6_begin_20 (o := (some x0)) rfl ?_
  refine jw_iconst dX6_begin_21 (v := (0 : Int32)) (by decide) ?_
  obtain ⟨h7, eh7, hq⟩ := Option.bind_eq_some_iff.mp hq
  refine jw_putI (o := (some x0)) dX6_begin_22 eh7 fl_X6_30 rfl rfl ?_
  refine jw_aload_n dX6_begin_25 (o := (some x0)) rfl ?_
  refine jw_iconst dX6_begin_26 (v := (0 : Int32)) (by decide) ?_
  obtain ⟨h8, eh8, hq⟩ := Option.bind_eq_some_iff.mp hq
  refine jw_putI (o := (some x0)) dX6_begin_27 eh8 fl_X6_46 rfl rfl ?_
  cases hq
  exact jw_vret dX6_begin_30 rfl

theorem c_X6_begin {h : jw_H} {x0 : Nat} {x1 : Option Nat} {x2 : Int32} {r : Unit} {h' : jw_H} (hq : f_X6_begin h x0 x1 x2 = some (r, h')) : jw_Con (Cond.code yX6_begin cX6_begin 3 none) yX6_begin 1 [.ref x0, va_rf x1, .int x2] h (.inl none) h' :=
  jw_con false (plainFor_of_name (by decide +kernel)) (fun z => nomatch z) (by simp [jw_ent, jw_sl0_nil, jw_sl0_int, jw_sl0_long, jw_sl0_ref, jw_sl0_rf, jw_sl0_scr, List.replicate]) (by simp [jw_sl0_nil, jw_sl0_int, jw_sl0_long, jw_sl0_ref, jw_sl0_rf, jw_sl0_scr]) (l_X6_begin hq)


/-! X0_clear -/
noncomputable def f_X0_clear (h : jw_H) (x0 : Nat) : Option (Unit × jw_H) :=
 (jw_pI h 0 (some x0) 0 (46 : Int32)).bind fun h1 =>
 (jw_pI h1 0 (some x0) 1 (0 : Int32)).bind fun h2 =>
 (jw_pI h2 0 (some x0) 2 (0 : Int32)).bind fun h3 =>
 (jw_pB h3 0 (some x0) 3 (0 : Int32)).bind fun h4 =>
 some ((), h4)

set_option maxRecDepth 100000 in
set_option maxHeartbeats 4000000 in
theorem l_X0_clear {hi : jw_H} {h : jw_H} {x0 : Nat} {r : Unit} {h' : jw_H} (hq : f_X0_clear  h x0 = some (r, h')) : jw_E 0 uX0_clear hi 0 [some (.ref x0)] [] h (.inl none) h' := by
  unfold f_X0_clear at hq
  refine jw_aload_n dX0_clear_0 (o := (some x0)) rfl ?_
  refine jw_bipush dX0_clear_1 (v := (46 : Int32)) (by decide) ?_
  obtain ⟨h1, eh1, hq⟩ := Option.bind_eq_some_iff.mp hq
  refine jw_putI (o := (some x0)) dX0_clear_3 eh1 fl_X0_7 rfl rfl ?_
  refine jw_aload_n dX0_clear_6 (o := (some x0)) rfl ?_
  refine jw_iconst dX0_clear_7 (v := (0 : Int32)) (by decide) ?_
  obtain ⟨h2, eh2, hq⟩ := Option.bind_eq_some_iff.mp hq
  refine jw_putI (o := (some x0)) dX0_clear_8 eh2 fl_X0_13 rfl rfl ?_
  refine jw_aload_n dX0_clear_11 (o := (some x0)) rfl ?_
  refine jw_iconst dX0_clear_12 (v := (0 : Int32)) (by decide) ?_
  obtain ⟨h3, eh3, hq⟩ := Option.bind_eq_some_iff.mp hq
  refine jw_putI (o := (some x0)) dX0_clear_13 eh3 fl_X0_16 rfl rfl ?_
  refine jw_aload_n dX0_clear_16 (o := (some x0)) rfl ?_
  refine jw_iconst dX0_clear_17 (v := (0 : Int32)) (by decide) ?_
  obtain ⟨h4, eh4, hq⟩ := Option.bind_eq_some_iff.mp hq
  refine jw_putB (o := (some x0)) dX0_clear_18 eh4 fl_X0_19 rfl rfl ?_
  cases hq
  exact jw_vret dX0_clear_21 rfl

theorem c_X0_clear {h : jw_H} {x0 : Nat} {r : Unit} {h' : jw_H} (hq : f_X0_clear h x0 = some (r, h')) : jw_Con (Cond.code yX0_clear cX0_clear 1 none) yX0_clear 0 [.ref x0] h (.inl none) h' :=
  jw_con false (plainFor_of_name (by decide +kernel)) (fun z => nomatch z) (by simp [jw_ent, jw_sl0_nil, jw_sl0_int, jw_sl0_long, jw_sl0_ref, jw_sl0_rf, jw_sl0_scr, List.replicate]) (by simp [jw_sl0_nil, jw_sl0_int, jw_sl0_long, jw_sl0_ref, jw_sl0_rf, jw_sl0_scr]) (l_X0_clear hq)


/-! X5_clear -/
noncomputable def f_X5_clear (h : jw_H) (x0 : Nat) : Option (Unit × jw_H) :=
 (jw_gR h 5 (some x0) 0).bind fun v1 =>
 (jw_rc h 0 v1).bind fun a2 =>
 jw_b2 (f_X0_clear h a2) fun w4 h3 =>
 (jw_gR h3 5 (some x0) 1).bind fun v5 =>
 (jw_rc h3 0 v5).bind fun a6 =>
 jw_b2 (f_X0_clear h3 a6) fun w8 h7 =>
 (jw_gR h7 5 (some x0) 2).bind fun v9 =>
 (jw_rc h7 0 v9).bind fun a10 =>
 jw_b2 (f_X0_clear h7 a10) fun w12 h11 =>
 (jw_pI h11 5 (some x0) 3 (0 : Int32)).bind fun h13 =>
 (jw_pI h13 5 (some x0) 4 (0 : Int32)).bind fun h14 =>
 (jw_pI h14 5 (some x0) 5 (0 : Int32)).bind fun h15 =>
 (jw_pI h15 5 (some x0) 6 (-1 : Int32)).bind fun h16 =>
 (jw_pI h16 5 (some x0) 7 (0 : Int32)).bind fun h17 =>
 (jw_pI h17 5 (some x0) 8 (0 : Int32)).bind fun h18 =>
 (jw_pI h18 5 (some x0) 9 (0 : Int32)).bind fun h19 =>
 (jw_pB h19 5 (some x0) 10 (0 : Int32)).bind fun h20 =>
 (jw_pB h20 5 (some x0) 11 (0 : Int32)).bind fun h21 =>
 (jw_pB h21 5 (some x0) 12 (0 : Int32)).bind fun h22 =>
 (jw_pI h22 5 (some x0) 13 (0 : Int32)).bind fun h23 =>
 some ((), h23)

set_option maxRecDepth 100000 in
set_option maxHeartbeats 4000000 in
theorem l_X5_clear {hi : jw_H} {h : jw_H} {x0 : Nat} {r : Unit} {h' : jw_H} (hq : f_X5_clear  h x0 = some (r, h')) : jw_E 1 uX5_clear hi 0 [some (.ref x0)] [] h (.inl none) h' := by
  unfold f_X5_clear at hq
  refine jw_aload_n dX5_clear_0 (o := (some x0)) rfl ?_
  obtain ⟨v1, ev1, hq⟩ := Option.bind_eq_some_iff.mp hq
  refine jw_getR (o := (some x0)) dX5_clear_1 ev1 fl_X5_12 rfl ?_
  obtain ⟨a2, ea2, hq⟩ := Option.bind_eq_some_iff.mp hq
  obtain ⟨eoa2, eta2⟩ := jw_rc_spec ea2
  obtain ⟨w4, h3, ew4, hq⟩ := jw_b2_spec hq
  refine jw_callV (As := []) (S := []) (a := a2) (v := none) dX5_clear_4 mt_X0_clear in_X0_clear se_X0_clear lk_X5_24 (c_X0_clear ew4) eta2 (by decide) rfl rfl (by decide) (Nat.le_of_ble_eq_true rfl) (by cases eoa2; rfl) ?_
  refine jw_aload_n dX5_clear_7 (o := (some x0)) rfl ?_
  obtain ⟨v5, ev5, hq⟩ := Option.bind_eq_some_iff.mp hq
  refine jw_getR (o := (some x0)) dX5_clear_8 ev5 fl_X5_18 rfl ?_
  obtain ⟨a6, ea6, hq⟩ := Option.bind_eq_some_iff.mp hq
  obtain ⟨eoa6, eta6⟩ := jw_rc_spec ea6
  obtain ⟨w8, h7, ew8, hq⟩ := jw_b2_spec hq
  refine jw_callV (As := []) (S := []) (a := a6) (v := none) dX5_clear_11 mt_X0_clear in_X0_clear se_X0_clear lk_X5_24 (c_X0_clear ew8) eta6 (by decide) rfl rfl (by decide) (Nat.le_of_ble_eq_true rfl) (by cases eoa6; rfl) ?_
  refine jw_aload_n dX5_clear_14 (o := (some x0)) rfl ?_
  obtain ⟨v9, ev9, hq⟩ := Option.bind_eq_some_iff.mp hq
  refine jw_getR (o := (some x0)) dX5_clear_15 ev9 fl_X5_21 rfl ?_
  obtain ⟨a10, ea10, hq⟩ := Option.bind_eq_some_iff.mp hq
  obtain ⟨eoa10, eta10⟩ := jw_rc_spec ea10
  obtain ⟨w12, h11, ew12, hq⟩ := jw_b2_spec hq
  refine jw_callV (As := []) (S := []) (a := a10) (v := none) dX5_clear_18 mt_X0_clear in_X0_clear se_X0_clear lk_X5_24 (c_X0_clear ew12) eta10 (by decide) rfl rfl (by decide) (Nat.le_of_ble_eq_true rfl) (by cases eoa10; rfl) ?_
  refine jw_aload_n dX5_clear_21 (o := (some x0)) rfl ?_
  refine jw_iconst dX5_clear_22 (v := (0 : Int32)) (by decide) ?_
  obtain ⟨h13, eh13, hq⟩ := Option.bind_eq_some_iff.mp hq
  refine jw_putI (o := (some x0)) dX5_clear_23 eh13 fl_X5_27 rfl rfl ?_
  refine jw_aload_n dX5_clear_26 (o := (some x0)) rfl ?_
  refine jw_iconst dX5_clear_27 (v := (0 : Int32)) (by decide) ?_
  obtain ⟨h14, eh14, hq⟩ := Option.bind_eq_some_iff.mp hq
  refine jw_putI (o := (some x0)) dX5_clear_28 eh14 fl_X5_31 rfl rfl ?_
  refine jw_aload_n dX5_clear_31 (o := (some x0)) rfl ?_
  refine jw_iconst dX5_clear_32 (v := (0 : Int32)) (by decide) ?_
  obtain ⟨h15, eh15, hq⟩ := Option.bind_eq_some_iff.mp hq
  refine jw_putI (o := (some x0)) dX5_clear_33 eh15 fl_X5_34 rfl rfl ?_
  refine jw_aload_n dX5_clear_36 (o := (some x0)) rfl ?_
  refine jw_iconst dX5_clear_37 (v := (-1 : Int32)) (by decide) ?_
  obtain ⟨h16, eh16, hq⟩ := Option.bind_eq_some_iff.mp hq
  refine jw_putI (o := (some x0)) dX5_clear_38 eh16 fl_X5_37 rfl rfl ?_
  refine jw_aload_n dX5_clear_41 (o := (some x0)) rfl ?_
  refine jw_iconst dX5_clear_42 (v := (0 : Int32)) (by decide) ?_
  obtain ⟨h17, eh17, hq⟩ := Option.bind_eq_some_iff.mp hq
  refine jw_putI (o := (some x0)) dX5_clear_43 eh17 fl_X5_40 rfl rfl ?_
  refine jw_aload_n dX5_clear_46 (o := (some x0)) rfl ?_
  refine jw_iconst dX5_clear_47 (v := (0 : Int32)) (by decide) ?_
  obtain ⟨h18, eh18, hq⟩ := Option.bind_eq_some_iff.mp hq
  refine jw_putI (o := (some x0)) dX5_clear_48 eh18 fl_X5_43 rfl rfl ?_
  refine jw_aload_n dX5_clear_51 (o := (some x0)) rfl ?_
  refine jw_iconst dX5_clear_52 (v := (0 : Int32)) (by decide) ?_
  obtain ⟨h19, eh19, hq⟩ := Option.bind_eq_some_iff.mp hq
  refine jw_putI (o := (some x0)) dX5_clear_53 eh19 fl_X5_46 rfl rfl ?_
  refine jw_aload_n dX5_clear_56 (o := (some x0)) rfl ?_
  refine jw_iconst dX5_clear_57 (v := (0 : Int32)) (by decide) ?_
  obtain ⟨h20, eh20, hq⟩ := Option.bind_eq_some_iff.mp hq
  refine jw_putB (o := (some x0)) dX5_clear_58 eh20 fl_X5_49 rfl rfl ?_
  refine jw_aload_n dX5_clear_61 (o := (some x0)) rfl ?_
  refine jw_iconst dX5_clear_62 (v := (0 : Int32)) (by decide) ?_
  obtain ⟨h21, eh21, hq⟩ := Option.bind_eq_some_iff.mp hq
  refine jw_putB (o := (some x0)) dX5_clear_63 eh21 fl_X5_53 rfl rfl ?_
  refine jw_aload_n dX5_clear_66 (o := (some x0)) rfl ?_
  refine jw_iconst dX5_clear_67 (v := (0 : Int32)) (by decide) ?_
  obtain ⟨h22, eh22, hq⟩ := Option.bind_eq_some_iff.mp hq
  refine jw_putB (o := (some x0)) dX5_clear_68 eh22 fl_X5_56 rfl rfl ?_
  refine jw_aload_n dX5_clear_71 (o := (some x0)) rfl ?_
  refine jw_iconst dX5_clear_72 (v := (0 : Int32)) (by decide) ?_
  obtain ⟨h23, eh23, hq⟩ := Option.bind_eq_some_iff.mp hq
  refine jw_putI (o := (some x0)) dX5_clear_73 eh23 fl_X5_59 rfl rfl ?_
  cases hq
  exact jw_vret dX5_clear_76 rfl

theorem c_X5_clear {h : jw_H} {x0 : Nat} {r : Unit} {h' : jw_H} (hq : f_X5_clear h x0 = some (r, h')) : jw_Con (Cond.code yX5_clear cX5_clear 1 none) yX5_clear 1 [.ref x0] h (.inl none) h' :=
  jw_con false (plainFor_of_name (by decide +kernel)) (fun z => nomatch z) (by simp [jw_ent, jw_sl0_nil, jw_sl0_int, jw_sl0_long, jw_sl0_ref, jw_sl0_rf, jw_sl0_scr, List.replicate]) (by simp [jw_sl0_nil, jw_sl0_int, jw_sl0_long, jw_sl0_ref, jw_sl0_rf, jw_sl0_scr]) (l_X5_clear hq)


/-! X6_pass -/
noncomputable def f_X6_pass (h : jw_H) (x0 : Nat) (x1 : Int32) : Option (Int32 × jw_H) :=
 (jw_gI h 6 (some x0) 5).bind fun v1 =>
 if v1 < 0 then (some ((0 : Int32), h))
 else ((jw_gI h 6 (some x0) 5).bind fun v3 =>
 (jw_gI h 6 (some x0) 4).bind fun v4 =>
 if v4 ≤ v3 then (some ((0 : Int32), h))
 else ((jw_gI h 6 (some x0) 5).bind fun v6 =>
 (jw_gR h 6 (some x0) 3).bind fun v7 =>
 (jw_ln h v7).bind fun v8 =>
 if v8 ≤ v6 then (some ((0 : Int32), h))
 else ((jw_gR h 6 (some x0) 3).bind fun v10 =>
 (jw_gI h 6 (some x0) 5).bind fun v11 =>
 (jw_ai h 21 v10 v11).bind fun v12 =>
 if v12 = x1 then ((jw_gI h 6 (some x0) 5).bind fun v14 =>
 (jw_pI h 6 (some x0) 5 (v14 + (1 : Int32))).bind fun h15 =>
 some ((1 : Int32), h15))
 else (some ((0 : Int32), h)))))

set_option maxRecDepth 100000 in
set_option maxHeartbeats 4000000 in
theorem l_X6_pass {hi : jw_H} {h : jw_H} {x0 : Nat} {x1 : Int32} {r : Int32} {h' : jw_H} (hq : f_X6_pass  h x0 x1 = some (r, h')) : jw_E 0 uX6_pass hi 0 [some (.ref x0), some (.int x1)] [] h (.inl (some (.int r))) h' := by
  unfold f_X6_pass at hq
  refine jw_aload_n dX6_pass_0 (o := (some x0)) rfl ?_
  obtain ⟨v1, ev1, hq⟩ := Option.bind_eq_some_iff.mp hq
  refine jw_getI (o := (some x0)) dX6_pass_1 ev1 fl_X6_43 rfl ?_
  rcases jw_if hq with ⟨c2, hq⟩ | ⟨c2, hq⟩
  · refine jw_if_lt_t (tgt := 43) dX6_pass_4 (by decide) c2 ?_
    refine jw_iconst dX6_pass_43 (v := (0 : Int32)) (by decide) ?_
    cases hq
    exact jw_iret (ty := .boolean) dX6_pass_44 rfl rfl
  · refine jw_if_lt_f (tgt := 43) dX6_pass_4 (by decide) c2 ?_
    refine jw_aload_n dX6_pass_7 (o := (some x0)) rfl ?_
    obtain ⟨v3, ev3, hq⟩ := Option.bind_eq_some_iff.mp hq
    refine jw_getI (o := (some x0)) dX6_pass_8 ev3 fl_X6_43 rfl ?_
    refine jw_aload_n dX6_pass_11 (o := (some x0)) rfl ?_
    obtain ⟨v4, ev4, hq⟩ := Option.bind_eq_some_iff.mp hq
    refine jw_getI (o := (some x0)) dX6_pass_12 ev4 fl_X6_34 rfl ?_
    rcases jw_if hq with ⟨c5, hq⟩ | ⟨c5, hq⟩
    · refine jw_icmp_ge_t (tgt := 43) dX6_pass_15 (by decide) c5 ?_
      refine jw_iconst dX6_pass_43 (v := (0 : Int32)) (by decide) ?_
      cases hq
      exact jw_iret (ty := .boolean) dX6_pass_44 rfl rfl
    · refine jw_icmp_ge_f (tgt := 43) dX6_pass_15 (by decide) c5 ?_
      refine jw_aload_n dX6_pass_18 (o := (some x0)) rfl ?_
      obtain ⟨v6, ev6, hq⟩ := Option.bind_eq_some_iff.mp hq
      refine jw_getI (o := (some x0)) dX6_pass_19 ev6 fl_X6_43 rfl ?_
      refine jw_aload_n dX6_pass_22 (o := (some x0)) rfl ?_
      obtain ⟨v7, ev7, hq⟩ := Option.bind_eq_some_iff.mp hq
      refine jw_getR (o := (some x0)) dX6_pass_23 ev7 fl_X6_26 rfl ?_
      obtain ⟨v8, ev8, hq⟩ := Option.bind_eq_some_iff.mp hq
      refine jw_alen (o := v7) dX6_pass_26 ev8 ?_
      rcases jw_if hq with ⟨c9, hq⟩ | ⟨c9, hq⟩
      · refine jw_icmp_ge_t (tgt := 43) dX6_pass_27 (by decide) c9 ?_
        refine jw_iconst dX6_pass_43 (v := (0 : Int32)) (by decide) ?_
        cases hq
        exact jw_iret (ty := .boolean) dX6_pass_44 rfl rfl
      · refine jw_icmp_ge_f (tgt := 43) dX6_pass_27 (by decide) c9 ?_
        refine jw_aload_n dX6_pass_30 (o := (some x0)) rfl ?_
        obtain ⟨v10, ev10, hq⟩ := Option.bind_eq_some_iff.mp hq
        refine jw_getR (o := (some x0)) dX6_pass_31 ev10 fl_X6_26 rfl ?_
        refine jw_aload_n dX6_pass_34 (o := (some x0)) rfl ?_
        obtain ⟨v11, ev11, hq⟩ := Option.bind_eq_some_iff.mp hq
        refine jw_getI (o := (some x0)) dX6_pass_35 ev11 fl_X6_43 rfl ?_
        obtain ⟨v12, ev12, hq⟩ := Option.bind_eq_some_iff.mp hq
        refine jw_bald (o := v10) dX6_pass_38 ev12 ?_
        refine jw_iload_n dX6_pass_39 rfl ?_
        rcases jw_if hq with ⟨c13, hq⟩ | ⟨c13, hq⟩
        · refine jw_icmp_eq_t (tgt := 45) dX6_pass_40 (by decide) c13 ?_
          refine jw_aload_n dX6_pass_45 (o := (some x0)) rfl ?_
          refine jw_dup dX6_pass_46 rfl ?_
          obtain ⟨v14, ev14, hq⟩ := Option.bind_eq_some_iff.mp hq
          refine jw_getI (o := (some x0)) dX6_pass_47 ev14 fl_X6_43 rfl ?_
          refine jw_iconst dX6_pass_50 (v := (1 : Int32)) (by decide) ?_
          refine jw_iadd dX6_pass_51 ?_
          obtain ⟨h15, eh15, hq⟩ := Option.bind_eq_some_iff.mp hq
          refine jw_putI (o := (some x0)) dX6_pass_52 eh15 fl_X6_43 rfl rfl ?_
          refine jw_iconst dX6_pass_55 (v := (1 : Int32)) (by decide) ?_
          cases hq
          exact jw_iret (ty := .boolean) dX6_pass_56 rfl rfl
        · refine jw_icmp_eq_f (tgt := 45) dX6_pass_40 (by decide) c13 ?_
          refine jw_iconst dX6_pass_43 (v := (0 : Int32)) (by decide) ?_
          cases hq
          exact jw_iret (ty := .boolean) dX6_pass_44 rfl rfl

theorem c_X6_pass {h : jw_H} {x0 : Nat} {x1 : Int32} {r : Int32} {h' : jw_H} (hq : f_X6_pass h x0 x1 = some (r, h')) : jw_Con (Cond.code yX6_pass cX6_pass 2 (some .boolean)) yX6_pass 0 [.ref x0, .int x1] h (.inl (some (.int r))) h' :=
  jw_con false (plainFor_of_name (by decide +kernel)) (fun z => nomatch z) (by simp [jw_ent, jw_sl0_nil, jw_sl0_int, jw_sl0_long, jw_sl0_ref, jw_sl0_rf, jw_sl0_scr, List.replicate]) (by simp [jw_sl0_nil, jw_sl0_int, jw_sl0_long, jw_sl0_ref, jw_sl0_rf, jw_sl0_scr]) (l_X6_pass hq)


/-! X6_peek -/
noncomputable def g_X6_peek_b43 (h : jw_H) (t0 : Int32) : Option (Int32 × jw_H) :=
 some (t0, h)

noncomputable def g_X6_peek_b42 (h : jw_H)  : Option (Int32 × jw_H) :=
 g_X6_peek_b43  h (-1 : Int32)

noncomputable def f_X6_peek (h : jw_H) (x0 : Nat) : Option (Int32 × jw_H) :=
 (jw_gI h 6 (some x0) 5).bind fun v1 =>
 if v1 < 0 then (g_X6_peek_b42  h )
 else ((jw_gI h 6 (some x0) 5).bind fun v3 =>
 (jw_gI h 6 (some x0) 4).bind fun v4 =>
 if v4 ≤ v3 then (g_X6_peek_b42  h )
 else ((jw_gI h 6 (some x0) 5).bind fun v6 =>
 (jw_gR h 6 (some x0) 3).bind fun v7 =>
 (jw_ln h v7).bind fun v8 =>
 if v8 ≤ v6 then (g_X6_peek_b42  h )
 else ((jw_gR h 6 (some x0) 3).bind fun v10 =>
 (jw_gI h 6 (some x0) 5).bind fun v11 =>
 (jw_ai h 21 v10 v11).bind fun v12 =>
 g_X6_peek_b43  h v12)))

set_option maxRecDepth 100000 in
set_option maxHeartbeats 4000000 in
theorem l_X6_peek_b43 {hi : jw_H} {h : jw_H} {t0 : Int32} {r : Int32} {h' : jw_H} (hq : g_X6_peek_b43  h t0 = some (r, h')) : jw_E 0 uX6_peek hi 43 [none] [.int t0] h (.inl (some (.int r))) h' := by
  unfold g_X6_peek_b43 at hq
  cases hq
  exact jw_iret (ty := .int) dX6_peek_43 rfl rfl

set_option maxRecDepth 100000 in
set_option maxHeartbeats 4000000 in
theorem l_X6_peek_b42 {hi : jw_H} {h : jw_H}  {r : Int32} {h' : jw_H} (hq : g_X6_peek_b42  h  = some (r, h')) : jw_E 0 uX6_peek hi 42 [none] [] h (.inl (some (.int r))) h' := by
  unfold g_X6_peek_b42 at hq
  refine jw_iconst dX6_peek_42 (v := (-1 : Int32)) (by decide) ?_
  exact l_X6_peek_b43  hq

set_option maxRecDepth 100000 in
set_option maxHeartbeats 4000000 in
theorem l_X6_peek {hi : jw_H} {h : jw_H} {x0 : Nat} {r : Int32} {h' : jw_H} (hq : f_X6_peek  h x0 = some (r, h')) : jw_E 0 uX6_peek hi 0 [some (.ref x0)] [] h (.inl (some (.int r))) h' := by
  unfold f_X6_peek at hq
  refine jw_aload_n dX6_peek_0 (o := (some x0)) rfl ?_
  obtain ⟨v1, ev1, hq⟩ := Option.bind_eq_some_iff.mp hq
  refine jw_getI (o := (some x0)) dX6_peek_1 ev1 fl_X6_43 rfl ?_
  rcases jw_if hq with ⟨c2, hq⟩ | ⟨c2, hq⟩
  · refine jw_if_lt_t (tgt := 42) dX6_peek_4 (by decide) c2 ?_
    refine jw_forget [false] (L' := [none]) rfl ?_
    exact l_X6_peek_b42  hq
  · refine jw_if_lt_f (tgt := 42) dX6_peek_4 (by decide) c2 ?_
    refine jw_aload_n dX6_peek_7 (o := (some x0)) rfl ?_
    obtain ⟨v3, ev3, hq⟩ := Option.bind_eq_some_iff.mp hq
    refine jw_getI (o := (some x0)) dX6_peek_8 ev3 fl_X6_43 rfl ?_
    refine jw_aload_n dX6_peek_11 (o := (some x0)) rfl ?_
    obtain ⟨v4, ev4, hq⟩ := Option.bind_eq_some_iff.mp hq
    refine jw_getI (o := (some x0)) dX6_peek_12 ev4 fl_X6_34 rfl ?_
    rcases jw_if hq with ⟨c5, hq⟩ | ⟨c5, hq⟩
    · refine jw_icmp_ge_t (tgt := 42) dX6_peek_15 (by decide) c5 ?_
      refine jw_forget [false] (L' := [none]) rfl ?_
      exact l_X6_peek_b42  hq
    · refine jw_icmp_ge_f (tgt := 42) dX6_peek_15 (by decide) c5 ?_
      refine jw_aload_n dX6_peek_18 (o := (some x0)) rfl ?_
      obtain ⟨v6, ev6, hq⟩ := Option.bind_eq_some_iff.mp hq
      refine jw_getI (o := (some x0)) dX6_peek_19 ev6 fl_X6_43 rfl ?_
      refine jw_aload_n dX6_peek_22 (o := (some x0)) rfl ?_
      obtain ⟨v7, ev7, hq⟩ := Option.bind_eq_some_iff.mp hq
      refine jw_getR (o := (some x0)) dX6_peek_23 ev7 fl_X6_26 rfl ?_
      obtain ⟨v8, ev8, hq⟩ := Option.bind_eq_some_iff.mp hq
      refine jw_alen (o := v7) dX6_peek_26 ev8 ?_
      rcases jw_if hq with ⟨c9, hq⟩ | ⟨c9, hq⟩
      · refine jw_icmp_ge_t (tgt := 42) dX6_peek_27 (by decide) c9 ?_
        refine jw_forget [false] (L' := [none]) rfl ?_
        exact l_X6_peek_b42  hq
      · refine jw_icmp_ge_f (tgt := 42) dX6_peek_27 (by decide) c9 ?_
        refine jw_aload_n dX6_peek_30 (o := (some x0)) rfl ?_
        obtain ⟨v10, ev10, hq⟩ := Option.bind_eq_some_iff.mp hq
        refine jw_getR (o := (some x0)) dX6_peek_31 ev10 fl_X6_26 rfl ?_
        refine jw_aload_n dX6_peek_34 (o := (some x0)) rfl ?_
        obtain ⟨v11, ev11, hq⟩ := Option.bind_eq_some_iff.mp hq
        refine jw_getI (o := (some x0)) dX6_peek_35 ev11 fl_X6_43 rfl ?_
        obtain ⟨v12, ev12, hq⟩ := Option.bind_eq_some_iff.mp hq
        refine jw_bald (o := v10) dX6_peek_38 ev12 ?_
        refine jw_goto (tgt := 43) dX6_peek_39 (by decide) ?_
        refine jw_forget [false] (L' := [none]) rfl ?_
        exact l_X6_peek_b43  hq

theorem c_X6_peek {h : jw_H} {x0 : Nat} {r : Int32} {h' : jw_H} (hq : f_X6_peek h x0 = some (r, h')) : jw_Con (Cond.code yX6_peek cX6_peek 1 (some .int)) yX6_peek 0 [.ref x0] h (.inl (some (.int r))) h' :=
  jw_con false (plainFor_of_name (by decide +kernel)) (fun z => nomatch z) (by simp [jw_ent, jw_sl0_nil, jw_sl0_int, jw_sl0_long, jw_sl0_ref, jw_sl0_rf, jw_sl0_scr, List.replicate]) (by simp [jw_sl0_nil, jw_sl0_int, jw_sl0_long, jw_sl0_ref, jw_sl0_rf, jw_sl0_scr]) (l_X6_peek hq)


/-! X6_beginsAddress -/
noncomputable def g_X6_beginsAddress_b47 (h : jw_H) (t0 : Int32) : Option (Int32 × jw_H) :=
 (jw_rb t0).bind fun v1 =>
 some (t0, h)

noncomputable def g_X6_beginsAddress_b42 (h : jw_H)  : Option (Int32 × jw_H) :=
 g_X6_beginsAddress_b47  h (1 : Int32)

noncomputable def g_X6_beginsAddress_b12 (h : jw_H) (x1 : Int32) : Option (Int32 × jw_H) :=
 if x1 = (46 : Int32) then (g_X6_beginsAddress_b42  h )
 else (if x1 = (36 : Int32) then (g_X6_beginsAddress_b42  h )
 else (if x1 = (39 : Int32) then (g_X6_beginsAddress_b42  h )
 else (if x1 = (47 : Int32) then (g_X6_beginsAddress_b42  h )
 else (if x1 = (63 : Int32) then (g_X6_beginsAddress_b42  h )
 else (g_X6_beginsAddress_b47  h (0 : Int32))))))

noncomputable def f_X6_beginsAddress (h : jw_H) (x0 : Nat) (x1 : Int32) : Option (Int32 × jw_H) :=
 if x1 < (48 : Int32) then (g_X6_beginsAddress_b12  h x1)
 else (if x1 ≤ (57 : Int32) then (g_X6_beginsAddress_b42  h )
 else (g_X6_beginsAddress_b12  h x1))

set_option maxRecDepth 100000 in
set_option maxHeartbeats 4000000 in
theorem l_X6_beginsAddress_b47 {hi : jw_H} {h : jw_H} {t0 : Int32} {r : Int32} {h' : jw_H} (hq : g_X6_beginsAddress_b47  h t0 = some (r, h')) : jw_E 0 uX6_beginsAddress hi 47 [none, none] [.int t0] h (.inl (some (.int r))) h' := by
  unfold g_X6_beginsAddress_b47 at hq
  obtain ⟨v1, ev1, hq⟩ := Option.bind_eq_some_iff.mp hq
  cases hq
  exact jw_iret (ty := .boolean) dX6_beginsAddress_47 rfl (jw_rb_spec ev1)

set_option maxRecDepth 100000 in
set_option maxHeartbeats 4000000 in
theorem l_X6_beginsAddress_b42 {hi : jw_H} {h : jw_H}  {r : Int32} {h' : jw_H} (hq : g_X6_beginsAddress_b42  h  = some (r, h')) : jw_E 0 uX6_beginsAddress hi 42 [none, none] [] h (.inl (some (.int r))) h' := by
  unfold g_X6_beginsAddress_b42 at hq
  refine jw_iconst dX6_beginsAddress_42 (v := (1 : Int32)) (by decide) ?_
  refine jw_goto (tgt := 47) dX6_beginsAddress_43 (by decide) ?_
  exact l_X6_beginsAddress_b47  hq

set_option maxRecDepth 100000 in
set_option maxHeartbeats 4000000 in
theorem l_X6_beginsAddress_b12 {hi : jw_H} {h : jw_H} {x1 : Int32} {r : Int32} {h' : jw_H} (hq : g_X6_beginsAddress_b12  h x1 = some (r, h')) : jw_E 0 uX6_beginsAddress hi 12 [none, some (.int x1)] [] h (.inl (some (.int r))) h' := by
  unfold g_X6_beginsAddress_b12 at hq
  refine jw_iload_n dX6_beginsAddress_12 rfl ?_
  refine jw_bipush dX6_beginsAddress_13 (v := (46 : Int32)) (by decide) ?_
  rcases jw_if hq with ⟨c1, hq⟩ | ⟨c1, hq⟩
  · refine jw_icmp_eq_t (tgt := 42) dX6_beginsAddress_15 (by decide) c1 ?_
    refine jw_forget [true, false] (L' := [none, none]) rfl ?_
    exact l_X6_beginsAddress_b42  hq
  · refine jw_icmp_eq_f (tgt := 42) dX6_beginsAddress_15 (by decide) c1 ?_
    refine jw_iload_n dX6_beginsAddress_18 rfl ?_
    refine jw_bipush dX6_beginsAddress_19 (v := (36 : Int32)) (by decide) ?_
    rcases jw_if hq with ⟨c2, hq⟩ | ⟨c2, hq⟩
    · refine jw_icmp_eq_t (tgt := 42) dX6_beginsAddress_21 (by decide) c2 ?_
      refine jw_forget [true, false] (L' := [none, none]) rfl ?_
      exact l_X6_beginsAddress_b42  hq
    · refine jw_icmp_eq_f (tgt := 42) dX6_beginsAddress_21 (by decide) c2 ?_
      refine jw_iload_n dX6_beginsAddress_24 rfl ?_
      refine jw_bipush dX6_beginsAddress_25 (v := (39 : Int32)) (by decide) ?_
      rcases jw_if hq with ⟨c3, hq⟩ | ⟨c3, hq⟩
      · refine jw_icmp_eq_t (tgt := 42) dX6_beginsAddress_27 (by decide) c3 ?_
        refine jw_forget [true, false] (L' := [none, none]) rfl ?_
        exact l_X6_beginsAddress_b42  hq
      · refine jw_icmp_eq_f (tgt := 42) dX6_beginsAddress_27 (by decide) c3 ?_
        refine jw_iload_n dX6_beginsAddress_30 rfl ?_
        refine jw_bipush dX6_beginsAddress_31 (v := (47 : Int32)) (by decide) ?_
        rcases jw_if hq with ⟨c4, hq⟩ | ⟨c4, hq⟩
        · refine jw_icmp_eq_t (tgt := 42) dX6_beginsAddress_33 (by decide) c4 ?_
          refine jw_forget [true, false] (L' := [none, none]) rfl ?_
          exact l_X6_beginsAddress_b42  hq
        · refine jw_icmp_eq_f (tgt := 42) dX6_beginsAddress_33 (by decide) c4 ?_
          refine jw_iload_n dX6_beginsAddress_36 rfl ?_
          refine jw_bipush dX6_beginsAddress_37 (v := (63 : Int32)) (by decide) ?_
          rcases jw_if hq with ⟨c5, hq⟩ | ⟨c5, hq⟩
          · refine jw_icmp_ne_f (tgt := 46) dX6_beginsAddress_39 (by decide) c5 ?_
            refine jw_forget [true, false] (L' := [none, none]) rfl ?_
            exact l_X6_beginsAddress_b42  hq
          · refine jw_icmp_ne_t (tgt := 46) dX6_beginsAddress_39 (by decide) c5 ?_
            refine jw_iconst dX6_beginsAddress_46 (v := (0 : Int32)) (by decide) ?_
            refine jw_forget [true, false] (L' := [none, none]) rfl ?_
            exact l_X6_beginsAddress_b47  hq

set_option maxRecDepth 100000 in
set_option maxHeartbeats 4000000 in
theorem l_X6_beginsAddress {hi : jw_H} {h : jw_H} {x0 : Nat} {x1 : Int32} {r : Int32} {h' : jw_H} (hq : f_X6_beginsAddress  h x0 x1 = some (r, h')) : jw_E 0 uX6_beginsAddress hi 0 [some (.ref x0), some (.int x1)] [] h (.inl (some (.int r))) h' := by
  unfold f_X6_beginsAddress at hq
  refine jw_iload_n dX6_beginsAddress_0 rfl ?_
  refine jw_bipush dX6_beginsAddress_1 (v := (48 : Int32)) (by decide) ?_
  rcases jw_if hq with ⟨c1, hq⟩ | ⟨c1, hq⟩
  · refine jw_icmp_lt_t (tgt := 12) dX6_beginsAddress_3 (by decide) c1 ?_
    refine jw_forget [false, true] (L' := [none, some (.int x1)]) rfl ?_
    exact l_X6_beginsAddress_b12  hq
  · refine jw_icmp_lt_f (tgt := 12) dX6_beginsAddress_3 (by decide) c1 ?_
    refine jw_iload_n dX6_beginsAddress_6 rfl ?_
    refine jw_bipush dX6_beginsAddress_7 (v := (57 : Int32)) (by decide) ?_
    rcases jw_if hq with ⟨c2, hq⟩ | ⟨c2, hq⟩
    · refine jw_icmp_le_t (tgt := 42) dX6_beginsAddress_9 (by decide) c2 ?_
      refine jw_forget [false, false] (L' := [none, none]) rfl ?_
      exact l_X6_beginsAddress_b42  hq
    · refine jw_icmp_le_f (tgt := 42) dX6_beginsAddress_9 (by decide) c2 ?_
      refine jw_forget [false, true] (L' := [none, some (.int x1)]) rfl ?_
      exact l_X6_beginsAddress_b12  hq

theorem c_X6_beginsAddress {h : jw_H} {x0 : Nat} {x1 : Int32} {r : Int32} {h' : jw_H} (hq : f_X6_beginsAddress h x0 x1 = some (r, h')) : jw_Con (Cond.code yX6_beginsAddress cX6_beginsAddress 2 (some .boolean)) yX6_beginsAddress 0 [.ref x0, .int x1] h (.inl (some (.int r))) h' :=
  jw_con false (plainFor_of_name (by decide +kernel)) (fun z => nomatch z) (by simp [jw_ent, jw_sl0_nil, jw_sl0_int, jw_sl0_long, jw_sl0_ref, jw_sl0_rf, jw_sl0_scr, List.replicate]) (by simp [jw_sl0_nil, jw_sl0_int, jw_sl0_long, jw_sl0_ref, jw_sl0_rf, jw_sl0_scr]) (l_X6_beginsAddress hq)


/-! J9_max_7cf53 -/
noncomputable def g_J9_max_7cf53_b10 (h : jw_H) (t0 : Int32) : Option (Int32 × jw_H) :=
 some (t0, h)

noncomputable def f_J9_max_7cf53 (h : jw_H) (x0 : Int32) (x1 : Int32) : Option (Int32 × jw_H) :=
 if x0 < x1 then (g_J9_max_7cf53_b10  h x1)
 else (g_J9_max_7cf53_b10  h x0)

set_option maxRecDepth 100000 in
set_option maxHeartbeats 4000000 in
theorem l_J9_max_7cf53_b10 {hi : jw_H} {h : jw_H} {t0 : Int32} {r : Int32} {h' : jw_H} (hq : g_J9_max_7cf53_b10  h t0 = some (r, h')) : jw_E 0 uJ9_max_7cf53 hi 10 [none, none] [.int t0] h (.inl (some (.int r))) h' := by
  unfold g_J9_max_7cf53_b10 at hq
  cases hq
  exact jw_iret (ty := .int) dJ9_max_7cf53_10 rfl rfl

set_option maxRecDepth 100000 in
set_option maxHeartbeats 4000000 in
theorem l_J9_max_7cf53 {hi : jw_H} {h : jw_H} {x0 : Int32} {x1 : Int32} {r : Int32} {h' : jw_H} (hq : f_J9_max_7cf53  h x0 x1 = some (r, h')) : jw_E 0 uJ9_max_7cf53 hi 0 [some (.int x0), some (.int x1)] [] h (.inl (some (.int r))) h' := by
  unfold f_J9_max_7cf53 at hq
  refine jw_iload_n dJ9_max_7cf53_0 rfl ?_
  refine jw_iload_n dJ9_max_7cf53_1 rfl ?_
  rcases jw_if hq with ⟨c1, hq⟩ | ⟨c1, hq⟩
  · refine jw_icmp_lt_t (tgt := 9) dJ9_max_7cf53_2 (by decide) c1 ?_
    refine jw_iload_n dJ9_max_7cf53_9 rfl ?_
    refine jw_forget [false, false] (L' := [none, none]) rfl ?_
    exact l_J9_max_7cf53_b10  hq
  · refine jw_icmp_lt_f (tgt := 9) dJ9_max_7cf53_2 (by decide) c1 ?_
    refine jw_iload_n dJ9_max_7cf53_5 rfl ?_
    refine jw_goto (tgt := 10) dJ9_max_7cf53_6 (by decide) ?_
    refine jw_forget [false, false] (L' := [none, none]) rfl ?_
    exact l_J9_max_7cf53_b10  hq

theorem c_J9_max_7cf53 {h : jw_H} {x0 : Int32} {x1 : Int32} {r : Int32} {h' : jw_H} (hq : f_J9_max_7cf53 h x0 x1 = some (r, h')) : jw_Con (Cond.code yJ9_max_7cf53 cJ9_max_7cf53 2 (some .int)) yJ9_max_7cf53 0 [.int x0, .int x1] h (.inl (some (.int r))) h' :=
  jw_con false (by decide +kernel) (fun z => nomatch z) (by simp [jw_ent, jw_sl0_nil, jw_sl0_int, jw_sl0_long, jw_sl0_ref, jw_sl0_rf, jw_sl0_scr, List.replicate]) (by simp [jw_sl0_nil, jw_sl0_int, jw_sl0_long, jw_sl0_ref, jw_sl0_rf, jw_sl0_scr]) (l_J9_max_7cf53 hq)


/-! X6_readNumber -/
noncomputable def g_X6_readNumber_b4 (k4 : jw_H → Nat → Int32 → Int32 → Option (Int32 × jw_H)) (h : jw_H) (x0 : Nat) (x1 : Int32) (x2 : Int32) : Option (Int32 × jw_H) :=
 if (2 : Int32) ≤ x2 then (some (x1, h))
 else ((jw_rc h 6 (some x0)).bind fun a2 =>
 jw_b2 (f_X6_peek h a2) fun w4 h3 =>
 if w4 < (48 : Int32) then (some (x1, h3))
 else (if w4 ≤ (57 : Int32) then (jw_b2 (f_J9_max_7cf53 h3 x1 (0 : Int32)) fun w8 h7 =>
 (jw_gI h7 6 (some x0) 5).bind fun v9 =>
 (jw_pI h7 6 (some x0) 5 (v9 + (1 : Int32))).bind fun h10 =>
 k4 h10 x0 (((w8 * (10 : Int32)) + w4) - (48 : Int32)) (x2 + (1 : Int32)))
 else (some (x1, h3))))

noncomputable def f_X6_readNumber_b4 (n : Nat) : jw_H → Nat → Int32 → Int32 → Option (Int32 × jw_H) :=
 Nat.rec (fun _ _ _ _ => none) (fun _ k4 => g_X6_readNumber_b4 k4) n

noncomputable def f_X6_readNumber (h : jw_H) (x0 : Nat) : Option (Int32 × jw_H) :=
 f_X6_readNumber_b4  jw_FU h x0 (-1 : Int32) (0 : Int32)

set_option maxRecDepth 100000 in
set_option maxHeartbeats 4000000 in
theorem l_X6_readNumber_b4g {hi : jw_H} {k4 : jw_H → Nat → Int32 → Int32 → Option (Int32 × jw_H)} (hk4 : ∀ (h : jw_H) (x0 : Nat) (x1 : Int32) (x2 : Int32) (r : Int32) (h' : jw_H), k4 h x0 x1 x2 = some (r, h') → jw_E 1 uX6_readNumber hi 4 [some (.ref x0), some (.int x1), some (.int x2), none] [] h (.inl (some (.int r))) h') {h : jw_H} {x0 : Nat} {x1 : Int32} {x2 : Int32} {r : Int32} {h' : jw_H} (hq : g_X6_readNumber_b4 k4 h x0 x1 x2 = some (r, h')) : jw_E 1 uX6_readNumber hi 4 [some (.ref x0), some (.int x1), some (.int x2), none] [] h (.inl (some (.int r))) h' := by
  unfold g_X6_readNumber_b4 at hq
  refine jw_iload_n dX6_readNumber_4 rfl ?_
  refine jw_iconst dX6_readNumber_5 (v := (2 : Int32)) (by decide) ?_
  rcases jw_if hq with ⟨c1, hq⟩ | ⟨c1, hq⟩
  · refine jw_icmp_ge_t (tgt := 58) dX6_readNumber_6 (by decide) c1 ?_
    refine jw_iload_n dX6_readNumber_58 rfl ?_
    cases hq
    exact jw_iret (ty := .int) dX6_readNumber_59 rfl rfl
  · refine jw_icmp_ge_f (tgt := 58) dX6_readNumber_6 (by decide) c1 ?_
    refine jw_aload_n dX6_readNumber_9 (o := (some x0)) rfl ?_
    obtain ⟨a2, ea2, hq⟩ := Option.bind_eq_some_iff.mp hq
    obtain ⟨eoa2, eta2⟩ := jw_rc_spec ea2
    obtain ⟨w4, h3, ew4, hq⟩ := jw_b2_spec hq
    refine jw_callV (As := []) (S := []) (a := a2) (v := some (.int w4)) dX6_readNumber_10 mt_X6_peek in_X6_peek se_X6_peek lk_X6_93 (c_X6_peek ew4) eta2 (by decide) rfl rfl (by decide) (Nat.le_of_ble_eq_true rfl) (by cases eoa2; rfl) ?_
    refine jw_istore_n (L' := [some (.ref x0), some (.int x1), some (.int x2), some (.int w4)]) dX6_readNumber_13 (Nat.le_of_ble_eq_true rfl) rfl ?_
    refine jw_iload_n dX6_readNumber_14 rfl ?_
    refine jw_bipush dX6_readNumber_15 (v := (48 : Int32)) (by decide) ?_
    rcases jw_if hq with ⟨c5, hq⟩ | ⟨c5, hq⟩
    · refine jw_icmp_lt_t (tgt := 26) dX6_readNumber_17 (by decide) c5 ?_
      refine jw_iload_n dX6_readNumber_26 rfl ?_
      cases hq
      exact jw_iret (ty := .int) dX6_readNumber_27 rfl rfl
    · refine jw_icmp_lt_f (tgt := 26) dX6_readNumber_17 (by decide) c5 ?_
      refine jw_iload_n dX6_readNumber_20 rfl ?_
      refine jw_bipush dX6_readNumber_21 (v := (57 : Int32)) (by decide) ?_
      rcases jw_if hq with ⟨c6, hq⟩ | ⟨c6, hq⟩
      · refine jw_icmp_le_t (tgt := 28) dX6_readNumber_23 (by decide) c6 ?_
        refine jw_iload_n dX6_readNumber_28 rfl ?_
        refine jw_iconst dX6_readNumber_29 (v := (0 : Int32)) (by decide) ?_
        obtain ⟨w8, h7, ew8, hq⟩ := jw_b2_spec hq
        refine jw_callS (As := [.int x1, .int (0 : Int32)]) (S := []) (v := some (.int w8)) dX6_readNumber_30 mt_J9_max_7cf53 st_J9_max_7cf53 lk_X6_131 (c_J9_max_7cf53 ew8) rfl (by decide) (Nat.le_of_ble_eq_true rfl) rfl ?_
        refine jw_bipush dX6_readNumber_33 (v := (10 : Int32)) (by decide) ?_
        refine jw_imul dX6_readNumber_35 ?_
        refine jw_iload_n dX6_readNumber_36 rfl ?_
        refine jw_iadd dX6_readNumber_37 ?_
        refine jw_bipush dX6_readNumber_38 (v := (48 : Int32)) (by decide) ?_
        refine jw_isub dX6_readNumber_40 ?_
        refine jw_istore_n (L' := [some (.ref x0), some (.int (((w8 * (10 : Int32)) + w4) - (48 : Int32))), some (.int x2), some (.int w4)]) dX6_readNumber_41 (Nat.le_of_ble_eq_true rfl) rfl ?_
        refine jw_aload_n dX6_readNumber_42 (o := (some x0)) rfl ?_
        refine jw_dup dX6_readNumber_43 rfl ?_
        obtain ⟨v9, ev9, hq⟩ := Option.bind_eq_some_iff.mp hq
        refine jw_getI (o := (some x0)) dX6_readNumber_44 ev9 fl_X6_43 rfl ?_
        refine jw_iconst dX6_readNumber_47 (v := (1 : Int32)) (by decide) ?_
        refine jw_iadd dX6_readNumber_48 ?_
        obtain ⟨h10, eh10, hq⟩ := Option.bind_eq_some_iff.mp hq
        refine jw_putI (o := (some x0)) dX6_readNumber_49 eh10 fl_X6_43 rfl rfl ?_
        refine jw_iinc (L' := [some (.ref x0), some (.int (((w8 * (10 : Int32)) + w4) - (48 : Int32))), some (.int (x2 + (1 : Int32))), some (.int w4)]) dX6_readNumber_52 rfl (v := (1 : Int32)) (by decide) (Nat.le_of_ble_eq_true rfl) rfl ?_
        refine jw_goto (tgt := 4) dX6_readNumber_55 (by decide) ?_
        refine jw_forget [true, true, true, false] (L' := [some (.ref x0), some (.int (((w8 * (10 : Int32)) + w4) - (48 : Int32))), some (.int (x2 + (1 : Int32))), none]) rfl ?_
        exact hk4 _ _ _ _ _ _ hq
      · refine jw_icmp_le_f (tgt := 28) dX6_readNumber_23 (by decide) c6 ?_
        refine jw_iload_n dX6_readNumber_26 rfl ?_
        cases hq
        exact jw_iret (ty := .int) dX6_readNumber_27 rfl rfl

theorem l_X6_readNumber_b4 {hi : jw_H} : ∀ (n : Nat) (h : jw_H) (x0 : Nat) (x1 : Int32) (x2 : Int32) (r : Int32) (h' : jw_H), f_X6_readNumber_b4  n h x0 x1 x2 = some (r, h') → jw_E 1 uX6_readNumber hi 4 [some (.ref x0), some (.int x1), some (.int x2), none] [] h (.inl (some (.int r))) h' := by
  intro n
  induction n with
  | zero => intro h x0 x1 x2 r h' hq; exact nomatch hq
  | succ n ih => intro h x0 x1 x2 r h' hq; exact l_X6_readNumber_b4g ih hq

set_option maxRecDepth 100000 in
set_option maxHeartbeats 4000000 in
theorem l_X6_readNumber {hi : jw_H} {h : jw_H} {x0 : Nat} {r : Int32} {h' : jw_H} (hq : f_X6_readNumber  h x0 = some (r, h')) : jw_E 1 uX6_readNumber hi 0 [some (.ref x0), none, none, none] [] h (.inl (some (.int r))) h' := by
  unfold f_X6_readNumber at hq
  refine jw_iconst dX6_readNumber_0 (v := (-1 : Int32)) (by decide) ?_
  refine jw_istore_n (L' := [some (.ref x0), some (.int (-1 : Int32)), none, none]) dX6_readNumber_1 (Nat.le_of_ble_eq_true rfl) rfl ?_
  refine jw_iconst dX6_readNumber_2 (v := (0 : Int32)) (by decide) ?_
  refine jw_istore_n (L' := [some (.ref x0), some (.int (-1 : Int32)), some (.int (0 : Int32)), none]) dX6_readNumber_3 (Nat.le_of_ble_eq_true rfl) rfl ?_
  exact l_X6_readNumber_b4  jw_FU _ _ _ _ _ _ hq

theorem c_X6_readNumber {h : jw_H} {x0 : Nat} {r : Int32} {h' : jw_H} (hq : f_X6_readNumber h x0 = some (r, h')) : jw_Con (Cond.code yX6_readNumber cX6_readNumber 4 (some .int)) yX6_readNumber 1 [.ref x0] h (.inl (some (.int r))) h' :=
  jw_con false (plainFor_of_name (by decide +kernel)) (fun z => nomatch z) (by simp [jw_ent, jw_sl0_nil, jw_sl0_int, jw_sl0_long, jw_sl0_ref, jw_sl0_rf, jw_sl0_scr, List.replicate]) (by simp [jw_sl0_nil, jw_sl0_int, jw_sl0_long, jw_sl0_ref, jw_sl0_rf, jw_sl0_scr]) (l_X6_readNumber hq)


/-! X6_readFrom -/
noncomputable def f_X6_readFrom (h : jw_H) (x0 : Nat) (x1 : Int32) (x2 : Int32) : Option (Int32 × jw_H) :=
 (jw_rc h 6 (some x0)).bind fun a1 =>
 jw_b2 (f_X6_peek h a1) fun w3 h2 =>
 if w3 < x1 then (some ((-1 : Int32), h2))
 else (if w3 ≤ x2 then ((jw_gI h2 6 (some x0) 5).bind fun v6 =>
 (jw_pI h2 6 (some x0) 5 (v6 + (1 : Int32))).bind fun h7 =>
 some ((w3 - x1), h7))
 else (some ((-1 : Int32), h2)))

set_option maxRecDepth 100000 in
set_option maxHeartbeats 4000000 in
theorem l_X6_readFrom {hi : jw_H} {h : jw_H} {x0 : Nat} {x1 : Int32} {x2 : Int32} {r : Int32} {h' : jw_H} (hq : f_X6_readFrom  h x0 x1 x2 = some (r, h')) : jw_E 1 uX6_readFrom hi 0 [some (.ref x0), some (.int x1), some (.int x2), none] [] h (.inl (some (.int r))) h' := by
  unfold f_X6_readFrom at hq
  refine jw_aload_n dX6_readFrom_0 (o := (some x0)) rfl ?_
  obtain ⟨a1, ea1, hq⟩ := Option.bind_eq_some_iff.mp hq
  obtain ⟨eoa1, eta1⟩ := jw_rc_spec ea1
  obtain ⟨w3, h2, ew3, hq⟩ := jw_b2_spec hq
  refine jw_callV (As := []) (S := []) (a := a1) (v := some (.int w3)) dX6_readFrom_1 mt_X6_peek in_X6_peek se_X6_peek lk_X6_93 (c_X6_peek ew3) eta1 (by decide) rfl rfl (by decide) (Nat.le_of_ble_eq_true rfl) (by cases eoa1; rfl) ?_
  refine jw_istore_n (L' := [some (.ref x0), some (.int x1), some (.int x2), some (.int w3)]) dX6_readFrom_4 (Nat.le_of_ble_eq_true rfl) rfl ?_
  refine jw_iload_n dX6_readFrom_5 rfl ?_
  refine jw_iload_n dX6_readFrom_6 rfl ?_
  rcases jw_if hq with ⟨c4, hq⟩ | ⟨c4, hq⟩
  · refine jw_icmp_lt_t (tgt := 15) dX6_readFrom_7 (by decide) c4 ?_
    refine jw_iconst dX6_readFrom_15 (v := (-1 : Int32)) (by decide) ?_
    cases hq
    exact jw_iret (ty := .int) dX6_readFrom_16 rfl rfl
  · refine jw_icmp_lt_f (tgt := 15) dX6_readFrom_7 (by decide) c4 ?_
    refine jw_iload_n dX6_readFrom_10 rfl ?_
    refine jw_iload_n dX6_readFrom_11 rfl ?_
    rcases jw_if hq with ⟨c5, hq⟩ | ⟨c5, hq⟩
    · refine jw_icmp_le_t (tgt := 17) dX6_readFrom_12 (by decide) c5 ?_
      refine jw_aload_n dX6_readFrom_17 (o := (some x0)) rfl ?_
      refine jw_dup dX6_readFrom_18 rfl ?_
      obtain ⟨v6, ev6, hq⟩ := Option.bind_eq_some_iff.mp hq
      refine jw_getI (o := (some x0)) dX6_readFrom_19 ev6 fl_X6_43 rfl ?_
      refine jw_iconst dX6_readFrom_22 (v := (1 : Int32)) (by decide) ?_
      refine jw_iadd dX6_readFrom_23 ?_
      obtain ⟨h7, eh7, hq⟩ := Option.bind_eq_some_iff.mp hq
      refine jw_putI (o := (some x0)) dX6_readFrom_24 eh7 fl_X6_43 rfl rfl ?_
      refine jw_iload_n dX6_readFrom_27 rfl ?_
      refine jw_iload_n dX6_readFrom_28 rfl ?_
      refine jw_isub dX6_readFrom_29 ?_
      cases hq
      exact jw_iret (ty := .int) dX6_readFrom_30 rfl rfl
    · refine jw_icmp_le_f (tgt := 17) dX6_readFrom_12 (by decide) c5 ?_
      refine jw_iconst dX6_readFrom_15 (v := (-1 : Int32)) (by decide) ?_
      cases hq
      exact jw_iret (ty := .int) dX6_readFrom_16 rfl rfl

theorem c_X6_readFrom {h : jw_H} {x0 : Nat} {x1 : Int32} {x2 : Int32} {r : Int32} {h' : jw_H} (hq : f_X6_readFrom h x0 x1 x2 = some (r, h')) : jw_Con (Cond.code yX6_readFrom cX6_readFrom 4 (some .int)) yX6_readFrom 1 [.ref x0, .int x1, .int x2] h (.inl (some (.int r))) h' :=
  jw_con false (plainFor_of_name (by decide +kernel)) (fun z => nomatch z) (by simp [jw_ent, jw_sl0_nil, jw_sl0_int, jw_sl0_long, jw_sl0_ref, jw_sl0_rf, jw_sl0_scr, List.replicate]) (by simp [jw_sl0_nil, jw_sl0_int, jw_sl0_long, jw_sl0_ref, jw_sl0_rf, jw_sl0_scr]) (l_X6_readFrom hq)


/-! X6_addElement -/
noncomputable def f_X6_addElement (h : jw_H) (x0 : Nat) (x1 : Int32) (x2 : Int64) : Option (Unit × jw_H) :=
 (jw_gI h 6 (some x0) 7).bind fun v1 =>
 if v1 < 0 then (some ((), h))
 else ((jw_gI h 6 (some x0) 7).bind fun v3 =>
 (jw_gR h 6 (some x0) 1).bind fun v4 =>
 (jw_ln h v4).bind fun v5 =>
 if v5 ≤ v3 then (some ((), h))
 else ((jw_gI h 6 (some x0) 7).bind fun v7 =>
 (jw_gR h 6 (some x0) 2).bind fun v8 =>
 (jw_ln h v8).bind fun v9 =>
 if v9 ≤ v7 then (some ((), h))
 else ((jw_gR h 6 (some x0) 1).bind fun v11 =>
 (jw_gI h 6 (some x0) 7).bind fun v12 =>
 (jw_si h 20 v11 v12 x1).bind fun h13 =>
 (jw_gR h13 6 (some x0) 2).bind fun v14 =>
 (jw_gI h13 6 (some x0) 7).bind fun v15 =>
 (jw_sl h13 v14 v15 x2).bind fun h16 =>
 (jw_gI h16 6 (some x0) 7).bind fun v17 =>
 (jw_pI h16 6 (some x0) 7 (v17 + (1 : Int32))).bind fun h18 =>
 some ((), h18))))

set_option maxRecDepth 100000 in
set_option maxHeartbeats 4000000 in
theorem l_X6_addElement {hi : jw_H} {h : jw_H} {x0 : Nat} {x1 : Int32} {x2 : Int64} {r : Unit} {h' : jw_H} (hq : f_X6_addElement  h x0 x1 x2 = some (r, h')) : jw_E 0 uX6_addElement hi 0 [some (.ref x0), some (.int x1), some (.long x2), none] [] h (.inl none) h' := by
  unfold f_X6_addElement at hq
  refine jw_aload_n dX6_addElement_0 (o := (some x0)) rfl ?_
  obtain ⟨v1, ev1, hq⟩ := Option.bind_eq_some_iff.mp hq
  refine jw_getI (o := (some x0)) dX6_addElement_1 ev1 fl_X6_46 rfl ?_
  rcases jw_if hq with ⟨c2, hq⟩ | ⟨c2, hq⟩
  · refine jw_if_lt_t (tgt := 61) dX6_addElement_4 (by decide) c2 ?_
    cases hq
    exact jw_vret dX6_addElement_61 rfl
  · refine jw_if_lt_f (tgt := 61) dX6_addElement_4 (by decide) c2 ?_
    refine jw_aload_n dX6_addElement_7 (o := (some x0)) rfl ?_
    obtain ⟨v3, ev3, hq⟩ := Option.bind_eq_some_iff.mp hq
    refine jw_getI (o := (some x0)) dX6_addElement_8 ev3 fl_X6_46 rfl ?_
    refine jw_aload_n dX6_addElement_11 (o := (some x0)) rfl ?_
    obtain ⟨v4, ev4, hq⟩ := Option.bind_eq_some_iff.mp hq
    refine jw_getR (o := (some x0)) dX6_addElement_12 ev4 fl_X6_18 rfl ?_
    obtain ⟨v5, ev5, hq⟩ := Option.bind_eq_some_iff.mp hq
    refine jw_alen (o := v4) dX6_addElement_15 ev5 ?_
    rcases jw_if hq with ⟨c6, hq⟩ | ⟨c6, hq⟩
    · refine jw_icmp_ge_t (tgt := 61) dX6_addElement_16 (by decide) c6 ?_
      cases hq
      exact jw_vret dX6_addElement_61 rfl
    · refine jw_icmp_ge_f (tgt := 61) dX6_addElement_16 (by decide) c6 ?_
      refine jw_aload_n dX6_addElement_19 (o := (some x0)) rfl ?_
      obtain ⟨v7, ev7, hq⟩ := Option.bind_eq_some_iff.mp hq
      refine jw_getI (o := (some x0)) dX6_addElement_20 ev7 fl_X6_46 rfl ?_
      refine jw_aload_n dX6_addElement_23 (o := (some x0)) rfl ?_
      obtain ⟨v8, ev8, hq⟩ := Option.bind_eq_some_iff.mp hq
      refine jw_getR (o := (some x0)) dX6_addElement_24 ev8 fl_X6_22 rfl ?_
      obtain ⟨v9, ev9, hq⟩ := Option.bind_eq_some_iff.mp hq
      refine jw_alen (o := v8) dX6_addElement_27 ev9 ?_
      rcases jw_if hq with ⟨c10, hq⟩ | ⟨c10, hq⟩
      · refine jw_icmp_ge_t (tgt := 61) dX6_addElement_28 (by decide) c10 ?_
        cases hq
        exact jw_vret dX6_addElement_61 rfl
      · refine jw_icmp_ge_f (tgt := 61) dX6_addElement_28 (by decide) c10 ?_
        refine jw_aload_n dX6_addElement_31 (o := (some x0)) rfl ?_
        obtain ⟨v11, ev11, hq⟩ := Option.bind_eq_some_iff.mp hq
        refine jw_getR (o := (some x0)) dX6_addElement_32 ev11 fl_X6_18 rfl ?_
        refine jw_aload_n dX6_addElement_35 (o := (some x0)) rfl ?_
        obtain ⟨v12, ev12, hq⟩ := Option.bind_eq_some_iff.mp hq
        refine jw_getI (o := (some x0)) dX6_addElement_36 ev12 fl_X6_46 rfl ?_
        refine jw_iload_n dX6_addElement_39 rfl ?_
        obtain ⟨h13, eh13, hq⟩ := Option.bind_eq_some_iff.mp hq
        refine jw_iast (o := v11) dX6_addElement_40 eh13 ?_
        refine jw_aload_n dX6_addElement_41 (o := (some x0)) rfl ?_
        obtain ⟨v14, ev14, hq⟩ := Option.bind_eq_some_iff.mp hq
        refine jw_getR (o := (some x0)) dX6_addElement_42 ev14 fl_X6_22 rfl ?_
        refine jw_aload_n dX6_addElement_45 (o := (some x0)) rfl ?_
        obtain ⟨v15, ev15, hq⟩ := Option.bind_eq_some_iff.mp hq
        refine jw_getI (o := (some x0)) dX6_addElement_46 ev15 fl_X6_46 rfl ?_
        refine jw_lload_n dX6_addElement_49 rfl ?_
        obtain ⟨h16, eh16, hq⟩ := Option.bind_eq_some_iff.mp hq
        refine jw_last (o := v14) dX6_addElement_50 eh16 ?_
        refine jw_aload_n dX6_addElement_51 (o := (some x0)) rfl ?_
        refine jw_dup dX6_addElement_52 rfl ?_
        obtain ⟨v17, ev17, hq⟩ := Option.bind_eq_some_iff.mp hq
        refine jw_getI (o := (some x0)) dX6_addElement_53 ev17 fl_X6_46 rfl ?_
        refine jw_iconst dX6_addElement_56 (v := (1 : Int32)) (by decide) ?_
        refine jw_iadd dX6_addElement_57 ?_
        obtain ⟨h18, eh18, hq⟩ := Option.bind_eq_some_iff.mp hq
        refine jw_putI (o := (some x0)) dX6_addElement_58 eh18 fl_X6_46 rfl rfl ?_
        cases hq
        exact jw_vret dX6_addElement_61 rfl

theorem c_X6_addElement {h : jw_H} {x0 : Nat} {x1 : Int32} {x2 : Int64} {r : Unit} {h' : jw_H} (hq : f_X6_addElement h x0 x1 x2 = some (r, h')) : jw_Con (Cond.code yX6_addElement cX6_addElement 4 none) yX6_addElement 0 [.ref x0, .int x1, .long x2] h (.inl none) h' :=
  jw_con false (plainFor_of_name (by decide +kernel)) (fun z => nomatch z) (by simp [jw_ent, jw_sl0_nil, jw_sl0_int, jw_sl0_long, jw_sl0_ref, jw_sl0_rf, jw_sl0_scr, List.replicate]) (by simp [jw_sl0_nil, jw_sl0_int, jw_sl0_long, jw_sl0_ref, jw_sl0_rf, jw_sl0_scr]) (l_X6_addElement hq)


/-! X11_bitOf -/
noncomputable def g_X11_bitOf_b54 (h : jw_H) (t0 : Int64) : Option (Int64 × jw_H) :=
 some (t0, h)

noncomputable def g_X11_bitOf_b41 (h : jw_H) (x0 : Int32) : Option (Int64 × jw_H) :=
 if x0 = (32 : Int32) then (g_X11_bitOf_b54  h (68719476736 : Int64))
 else (g_X11_bitOf_b54  h (0 : Int64))

noncomputable def g_X11_bitOf_b19 (h : jw_H) (x0 : Int32) : Option (Int64 × jw_H) :=
 if x0 < (48 : Int32) then (g_X11_bitOf_b41  h x0)
 else (if (57 : Int32) < x0 then (g_X11_bitOf_b41  h x0)
 else (some (((1 : Int64) <<< (((x0 - (48 : Int32)) + (26 : Int32)).toInt64 &&& 63)), h)))

noncomputable def f_X11_bitOf (h : jw_H) (x0 : Int32) : Option (Int64 × jw_H) :=
 if x0 < (97 : Int32) then (g_X11_bitOf_b19  h x0)
 else (if (122 : Int32) < x0 then (g_X11_bitOf_b19  h x0)
 else (some (((1 : Int64) <<< ((x0 - (97 : Int32)).toInt64 &&& 63)), h)))

set_option maxRecDepth 100000 in
set_option maxHeartbeats 4000000 in
theorem l_X11_bitOf_b54 {hi : jw_H} {h : jw_H} {t0 : Int64} {r : Int64} {h' : jw_H} (hq : g_X11_bitOf_b54  h t0 = some (r, h')) : jw_E 0 uX11_bitOf hi 54 [none] [.long t0] h (.inl (some (.long r))) h' := by
  unfold g_X11_bitOf_b54 at hq
  cases hq
  exact jw_lret dX11_bitOf_54 rfl

set_option maxRecDepth 100000 in
set_option maxHeartbeats 4000000 in
theorem l_X11_bitOf_b41 {hi : jw_H} {h : jw_H} {x0 : Int32} {r : Int64} {h' : jw_H} (hq : g_X11_bitOf_b41  h x0 = some (r, h')) : jw_E 0 uX11_bitOf hi 41 [some (.int x0)] [] h (.inl (some (.long r))) h' := by
  unfold g_X11_bitOf_b41 at hq
  refine jw_iload_n dX11_bitOf_41 rfl ?_
  refine jw_bipush dX11_bitOf_42 (v := (32 : Int32)) (by decide) ?_
  rcases jw_if hq with ⟨c1, hq⟩ | ⟨c1, hq⟩
  · refine jw_icmp_ne_f (tgt := 53) dX11_bitOf_44 (by decide) c1 ?_
    refine jw_ldc2 dX11_bitOf_47 cw_X11_272 ?_
    refine jw_goto (tgt := 54) dX11_bitOf_50 (by decide) ?_
    refine jw_forget [false] (L' := [none]) rfl ?_
    exact l_X11_bitOf_b54  hq
  · refine jw_icmp_ne_t (tgt := 53) dX11_bitOf_44 (by decide) c1 ?_
    refine jw_lconst dX11_bitOf_53 (v := (0 : Int64)) (by decide) ?_
    refine jw_forget [false] (L' := [none]) rfl ?_
    exact l_X11_bitOf_b54  hq

set_option maxRecDepth 100000 in
set_option maxHeartbeats 4000000 in
theorem l_X11_bitOf_b19 {hi : jw_H} {h : jw_H} {x0 : Int32} {r : Int64} {h' : jw_H} (hq : g_X11_bitOf_b19  h x0 = some (r, h')) : jw_E 0 uX11_bitOf hi 19 [some (.int x0)] [] h (.inl (some (.long r))) h' := by
  unfold g_X11_bitOf_b19 at hq
  refine jw_iload_n dX11_bitOf_19 rfl ?_
  refine jw_bipush dX11_bitOf_20 (v := (48 : Int32)) (by decide) ?_
  rcases jw_if hq with ⟨c1, hq⟩ | ⟨c1, hq⟩
  · refine jw_icmp_lt_t (tgt := 41) dX11_bitOf_22 (by decide) c1 ?_
    exact l_X11_bitOf_b41  hq
  · refine jw_icmp_lt_f (tgt := 41) dX11_bitOf_22 (by decide) c1 ?_
    refine jw_iload_n dX11_bitOf_25 rfl ?_
    refine jw_bipush dX11_bitOf_26 (v := (57 : Int32)) (by decide) ?_
    rcases jw_if hq with ⟨c2, hq⟩ | ⟨c2, hq⟩
    · refine jw_icmp_gt_t (tgt := 41) dX11_bitOf_28 (by decide) c2 ?_
      exact l_X11_bitOf_b41  hq
    · refine jw_icmp_gt_f (tgt := 41) dX11_bitOf_28 (by decide) c2 ?_
      refine jw_lconst dX11_bitOf_31 (v := (1 : Int64)) (by decide) ?_
      refine jw_iload_n dX11_bitOf_32 rfl ?_
      refine jw_bipush dX11_bitOf_33 (v := (48 : Int32)) (by decide) ?_
      refine jw_isub dX11_bitOf_35 ?_
      refine jw_bipush dX11_bitOf_36 (v := (26 : Int32)) (by decide) ?_
      refine jw_iadd dX11_bitOf_38 ?_
      refine jw_lshl dX11_bitOf_39 ?_
      cases hq
      exact jw_lret dX11_bitOf_40 rfl

set_option maxRecDepth 100000 in
set_option maxHeartbeats 4000000 in
theorem l_X11_bitOf {hi : jw_H} {h : jw_H} {x0 : Int32} {r : Int64} {h' : jw_H} (hq : f_X11_bitOf  h x0 = some (r, h')) : jw_E 0 uX11_bitOf hi 0 [some (.int x0)] [] h (.inl (some (.long r))) h' := by
  unfold f_X11_bitOf at hq
  refine jw_iload_n dX11_bitOf_0 rfl ?_
  refine jw_bipush dX11_bitOf_1 (v := (97 : Int32)) (by decide) ?_
  rcases jw_if hq with ⟨c1, hq⟩ | ⟨c1, hq⟩
  · refine jw_icmp_lt_t (tgt := 19) dX11_bitOf_3 (by decide) c1 ?_
    exact l_X11_bitOf_b19  hq
  · refine jw_icmp_lt_f (tgt := 19) dX11_bitOf_3 (by decide) c1 ?_
    refine jw_iload_n dX11_bitOf_6 rfl ?_
    refine jw_bipush dX11_bitOf_7 (v := (122 : Int32)) (by decide) ?_
    rcases jw_if hq with ⟨c2, hq⟩ | ⟨c2, hq⟩
    · refine jw_icmp_gt_t (tgt := 19) dX11_bitOf_9 (by decide) c2 ?_
      exact l_X11_bitOf_b19  hq
    · refine jw_icmp_gt_f (tgt := 19) dX11_bitOf_9 (by decide) c2 ?_
      refine jw_lconst dX11_bitOf_12 (v := (1 : Int64)) (by decide) ?_
      refine jw_iload_n dX11_bitOf_13 rfl ?_
      refine jw_bipush dX11_bitOf_14 (v := (97 : Int32)) (by decide) ?_
      refine jw_isub dX11_bitOf_16 ?_
      refine jw_lshl dX11_bitOf_17 ?_
      cases hq
      exact jw_lret dX11_bitOf_18 rfl

theorem c_X11_bitOf {h : jw_H} {x0 : Int32} {r : Int64} {h' : jw_H} (hq : f_X11_bitOf h x0 = some (r, h')) : jw_Con (Cond.code yX11_bitOf cX11_bitOf 1 (some .long)) yX11_bitOf 0 [.int x0] h (.inl (some (.long r))) h' :=
  jw_con false (plainFor_of_name (by decide +kernel)) (fun z => nomatch z) (by simp [jw_ent, jw_sl0_nil, jw_sl0_int, jw_sl0_long, jw_sl0_ref, jw_sl0_rf, jw_sl0_scr, List.replicate]) (by simp [jw_sl0_nil, jw_sl0_int, jw_sl0_long, jw_sl0_ref, jw_sl0_rf, jw_sl0_scr]) (l_X11_bitOf hq)


/-! X6_beginsPlain -/
noncomputable def g_X6_beginsPlain_b40 (h : jw_H) (t0 : Int32) : Option (Int32 × jw_H) :=
 (jw_rb t0).bind fun v1 =>
 some (t0, h)

noncomputable def g_X6_beginsPlain_b35 (h : jw_H)  : Option (Int32 × jw_H) :=
 g_X6_beginsPlain_b40  h (1 : Int32)

noncomputable def g_X6_beginsPlain_b26 (h : jw_H) (x1 : Int32) : Option (Int32 × jw_H) :=
 jw_b2 (f_X11_bitOf h x1) fun w2 h1 =>
 if (lg_cmp w2 (0 : Int64)) = 0 then (g_X6_beginsPlain_b40  h1 (0 : Int32))
 else (g_X6_beginsPlain_b35  h1 )

noncomputable def f_X6_beginsPlain (h : jw_H) (x0 : Nat) (x1 : Int32) : Option (Int32 × jw_H) :=
 if x1 = (46 : Int32) then (g_X6_beginsPlain_b35  h )
 else (if x1 = (91 : Int32) then (g_X6_beginsPlain_b35  h )
 else (if x1 = (42 : Int32) then ((jw_gI h 6 (some x0) 8).bind fun v4 =>
 if v4 < (2 : Int32) then (g_X6_beginsPlain_b35  h )
 else (g_X6_beginsPlain_b26  h x1))
 else (g_X6_beginsPlain_b26  h x1)))

set_option maxRecDepth 100000 in
set_option maxHeartbeats 4000000 in
theorem l_X6_beginsPlain_b40 {hi : jw_H} {h : jw_H} {t0 : Int32} {r : Int32} {h' : jw_H} (hq : g_X6_beginsPlain_b40  h t0 = some (r, h')) : jw_E 1 uX6_beginsPlain hi 40 [none, none] [.int t0] h (.inl (some (.int r))) h' := by
  unfold g_X6_beginsPlain_b40 at hq
  obtain ⟨v1, ev1, hq⟩ := Option.bind_eq_some_iff.mp hq
  cases hq
  exact jw_iret (ty := .boolean) dX6_beginsPlain_40 rfl (jw_rb_spec ev1)

set_option maxRecDepth 100000 in
set_option maxHeartbeats 4000000 in
theorem l_X6_beginsPlain_b35 {hi : jw_H} {h : jw_H}  {r : Int32} {h' : jw_H} (hq : g_X6_beginsPlain_b35  h  = some (r, h')) : jw_E 1 uX6_beginsPlain hi 35 [none, none] [] h (.inl (some (.int r))) h' := by
  unfold g_X6_beginsPlain_b35 at hq
  refine jw_iconst dX6_beginsPlain_35 (v := (1 : Int32)) (by decide) ?_
  refine jw_goto (tgt := 40) dX6_beginsPlain_36 (by decide) ?_
  exact l_X6_beginsPlain_b40  hq

set_option maxRecDepth 100000 in
set_option maxHeartbeats 4000000 in
theorem l_X6_beginsPlain_b26 {hi : jw_H} {h : jw_H} {x1 : Int32} {r : Int32} {h' : jw_H} (hq : g_X6_beginsPlain_b26  h x1 = some (r, h')) : jw_E 1 uX6_beginsPlain hi 26 [none, some (.int x1)] [] h (.inl (some (.int r))) h' := by
  unfold g_X6_beginsPlain_b26 at hq
  refine jw_iload_n dX6_beginsPlain_26 rfl ?_
  obtain ⟨w2, h1, ew2, hq⟩ := jw_b2_spec hq
  refine jw_callS (As := [.int x1]) (S := []) (v := some (.long w2)) dX6_beginsPlain_27 mt_X11_bitOf st_X11_bitOf lk_X6_158 (c_X11_bitOf ew2) rfl (by decide) (Nat.le_of_ble_eq_true rfl) rfl ?_
  refine jw_lconst dX6_beginsPlain_30 (v := (0 : Int64)) (by decide) ?_
  refine jw_lcmp dX6_beginsPlain_31 ?_
  rcases jw_if hq with ⟨c3, hq⟩ | ⟨c3, hq⟩
  · refine jw_if_eq_t (tgt := 39) dX6_beginsPlain_32 (by decide) c3 ?_
    refine jw_iconst dX6_beginsPlain_39 (v := (0 : Int32)) (by decide) ?_
    refine jw_forget [true, false] (L' := [none, none]) rfl ?_
    exact l_X6_beginsPlain_b40  hq
  · refine jw_if_eq_f (tgt := 39) dX6_beginsPlain_32 (by decide) c3 ?_
    refine jw_forget [true, false] (L' := [none, none]) rfl ?_
    exact l_X6_beginsPlain_b35  hq

set_option maxRecDepth 100000 in
set_option maxHeartbeats 4000000 in
theorem l_X6_beginsPlain {hi : jw_H} {h : jw_H} {x0 : Nat} {x1 : Int32} {r : Int32} {h' : jw_H} (hq : f_X6_beginsPlain  h x0 x1 = some (r, h')) : jw_E 1 uX6_beginsPlain hi 0 [some (.ref x0), some (.int x1)] [] h (.inl (some (.int r))) h' := by
  unfold f_X6_beginsPlain at hq
  refine jw_iload_n dX6_beginsPlain_0 rfl ?_
  refine jw_bipush dX6_beginsPlain_1 (v := (46 : Int32)) (by decide) ?_
  rcases jw_if hq with ⟨c1, hq⟩ | ⟨c1, hq⟩
  · refine jw_icmp_eq_t (tgt := 35) dX6_beginsPlain_3 (by decide) c1 ?_
    refine jw_forget [false, false] (L' := [none, none]) rfl ?_
    exact l_X6_beginsPlain_b35  hq
  · refine jw_icmp_eq_f (tgt := 35) dX6_beginsPlain_3 (by decide) c1 ?_
    refine jw_iload_n dX6_beginsPlain_6 rfl ?_
    refine jw_bipush dX6_beginsPlain_7 (v := (91 : Int32)) (by decide) ?_
    rcases jw_if hq with ⟨c2, hq⟩ | ⟨c2, hq⟩
    · refine jw_icmp_eq_t (tgt := 35) dX6_beginsPlain_9 (by decide) c2 ?_
      refine jw_forget [false, false] (L' := [none, none]) rfl ?_
      exact l_X6_beginsPlain_b35  hq
    · refine jw_icmp_eq_f (tgt := 35) dX6_beginsPlain_9 (by decide) c2 ?_
      refine jw_iload_n dX6_beginsPlain_12 rfl ?_
      refine jw_bipush dX6_beginsPlain_13 (v := (42 : Int32)) (by decide) ?_
      rcases jw_if hq with ⟨c3, hq⟩ | ⟨c3, hq⟩
      · refine jw_icmp_ne_f (tgt := 26) dX6_beginsPlain_15 (by decide) c3 ?_
        refine jw_aload_n dX6_beginsPlain_18 (o := (some x0)) rfl ?_
        obtain ⟨v4, ev4, hq⟩ := Option.bind_eq_some_iff.mp hq
        refine jw_getI (o := (some x0)) dX6_beginsPlain_19 ev4 fl_X6_174 rfl ?_
        refine jw_iconst dX6_beginsPlain_22 (v := (2 : Int32)) (by decide) ?_
        rcases jw_if hq with ⟨c5, hq⟩ | ⟨c5, hq⟩
        · refine jw_icmp_lt_t (tgt := 35) dX6_beginsPlain_23 (by decide) c5 ?_
          refine jw_forget [false, false] (L' := [none, none]) rfl ?_
          exact l_X6_beginsPlain_b35  hq
        · refine jw_icmp_lt_f (tgt := 35) dX6_beginsPlain_23 (by decide) c5 ?_
          refine jw_forget [false, true] (L' := [none, some (.int x1)]) rfl ?_
          exact l_X6_beginsPlain_b26  hq
      · refine jw_icmp_ne_t (tgt := 26) dX6_beginsPlain_15 (by decide) c3 ?_
        refine jw_forget [false, true] (L' := [none, some (.int x1)]) rfl ?_
        exact l_X6_beginsPlain_b26  hq

theorem c_X6_beginsPlain {h : jw_H} {x0 : Nat} {x1 : Int32} {r : Int32} {h' : jw_H} (hq : f_X6_beginsPlain h x0 x1 = some (r, h')) : jw_Con (Cond.code yX6_beginsPlain cX6_beginsPlain 2 (some .boolean)) yX6_beginsPlain 1 [.ref x0, .int x1] h (.inl (some (.int r))) h' :=
  jw_con false (plainFor_of_name (by decide +kernel)) (fun z => nomatch z) (by simp [jw_ent, jw_sl0_nil, jw_sl0_int, jw_sl0_long, jw_sl0_ref, jw_sl0_rf, jw_sl0_scr, List.replicate]) (by simp [jw_sl0_nil, jw_sl0_int, jw_sl0_long, jw_sl0_ref, jw_sl0_rf, jw_sl0_scr]) (l_X6_beginsPlain hq)


/-! X6_readPlain -/
noncomputable def g_X6_readPlain_b63 (h : jw_H) (t0 : Nat) (t1 : Int32) (t2 : Int64) : Option (Int32 × jw_H) :=
 (jw_rc h 6 (some t0)).bind fun a1 =>
 jw_b2 (f_X6_addElement h a1 t1 t2) fun w3 h2 =>
 some ((1 : Int32), h2)

noncomputable def g_X6_readPlain_b161 (h : jw_H) (t0 : Nat) (t1 : Int32) (t2 : Int64) : Option (Int32 × jw_H) :=
 (jw_rc h 6 (some t0)).bind fun a1 =>
 jw_b2 (f_X6_addElement h a1 t1 t2) fun w3 h2 =>
 some ((1 : Int32), h2)

noncomputable def g_X6_readPlain_b125 (h : jw_H) (x0 : Nat) (x2 : Int32) (x3 : Int64) : Option (Int32 × jw_H) :=
 if (lg_cmp x3 (0 : Int64)) = 0 then (some ((0 : Int32), h))
 else ((jw_rc h 6 (some x0)).bind fun a2 =>
 jw_b2 (f_X6_pass h a2 (93 : Int32)) fun w4 h3 =>
 if w4 = 0 then (some ((0 : Int32), h3))
 else (if x2 = 0 then (g_X6_readPlain_b161  h3 x0 (0 : Int32) x3)
 else (g_X6_readPlain_b161  h3 x0 (0 : Int32) ((137438953471 : Int64) &&& (x3 ^^^ (-1 : Int64))))))

noncomputable def g_X6_readPlain_b80 (k80 : jw_H → Nat → Int32 → Int64 → Int32 → Option (Int32 × jw_H)) (h : jw_H) (x0 : Nat) (x2 : Int32) (x3 : Int64) (x5 : Int32) : Option (Int32 × jw_H) :=
 if (60 : Int32) < x5 then (g_X6_readPlain_b125  h x0 x2 x3)
 else ((jw_rc h 6 (some x0)).bind fun a2 =>
 jw_b2 (f_X6_peek h a2) fun w4 h3 =>
 jw_b2 (f_X11_bitOf h3 w4) fun w6 h5 =>
 if (lg_cmp w6 (0 : Int64)) = 0 then (g_X6_readPlain_b125  h5 x0 x2 x3)
 else ((jw_rc h5 6 (some x0)).bind fun a8 =>
 jw_b2 (f_X6_peek h5 a8) fun w10 h9 =>
 jw_b2 (f_X11_bitOf h9 w10) fun w12 h11 =>
 (jw_gI h11 6 (some x0) 5).bind fun v13 =>
 (jw_pI h11 6 (some x0) 5 (v13 + (1 : Int32))).bind fun h14 =>
 k80 h14 x0 x2 (x3 ||| w12) (x5 + (1 : Int32))))

noncomputable def f_X6_readPlain_b80 (n : Nat) : jw_H → Nat → Int32 → Int64 → Int32 → Option (Int32 × jw_H) :=
 Nat.rec (fun _ _ _ _ _ => none) (fun _ k80 => g_X6_readPlain_b80 k80) n

noncomputable def f_X6_readPlain (h : jw_H) (x0 : Nat) : Option (Int32 × jw_H) :=
 (jw_rc h 6 (some x0)).bind fun a1 =>
 jw_b2 (f_X6_peek h a1) fun w3 h2 =>
 (jw_gI h2 6 (some x0) 5).bind fun v4 =>
 (jw_pI h2 6 (some x0) 5 (v4 + (1 : Int32))).bind fun h5 =>
 if w3 = (42 : Int32) then ((jw_gI h5 6 (some x0) 8).bind fun v14 =>
 (jw_pI h5 6 (some x0) 8 (v14 + (1 : Int32))).bind fun h15 =>
 (jw_rc h15 6 (some x0)).bind fun a16 =>
 jw_b2 (f_X6_addElement h15 a16 (1 : Int32) (0 : Int64)) fun w18 h17 =>
 some ((1 : Int32), h17))
 else (if w3 = (91 : Int32) then ((jw_rc h5 6 (some x0)).bind fun a8 =>
 jw_b2 (f_X6_pass h5 a8 (94 : Int32)) fun w10 h9 =>
 f_X6_readPlain_b80  jw_FU h9 x0 w10 (0 : Int64) (0 : Int32))
 else (if w3 = (46 : Int32) then (g_X6_readPlain_b63  h5 x0 (0 : Int32) (137438953471 : Int64))
 else (jw_b2 (f_X11_bitOf h5 w3) fun w13 h12 =>
 g_X6_readPlain_b63  h12 x0 (0 : Int32) w13)))

set_option maxRecDepth 100000 in
set_option maxHeartbeats 4000000 in
theorem l_X6_readPlain_b63 {hi : jw_H} {h : jw_H} {t0 : Nat} {t1 : Int32} {t2 : Int64} {r : Int32} {h' : jw_H} (hq : g_X6_readPlain_b63  h t0 t1 t2 = some (r, h')) : jw_E 1 uX6_readPlain hi 63 [none, none, none, none, none, none] [.long t2, .int t1, .ref t0] h (.inl (some (.int r))) h' := by
  unfold g_X6_readPlain_b63 at hq
  obtain ⟨a1, ea1, hq⟩ := Option.bind_eq_some_iff.mp hq
  obtain ⟨eoa1, eta1⟩ := jw_rc_spec ea1
  obtain ⟨w3, h2, ew3, hq⟩ := jw_b2_spec hq
  refine jw_callV (As := [.int t1, .long t2]) (S := []) (a := a1) (v := none) dX6_readPlain_63 mt_X6_addElement in_X6_addElement se_X6_addElement lk_X6_177 (c_X6_addElement ew3) eta1 (by decide) rfl rfl (by decide) (Nat.le_of_ble_eq_true rfl) (by cases eoa1; rfl) ?_
  refine jw_iconst dX6_readPlain_66 (v := (1 : Int32)) (by decide) ?_
  cases hq
  exact jw_iret (ty := .boolean) dX6_readPlain_67 rfl rfl

set_option maxRecDepth 100000 in
set_option maxHeartbeats 4000000 in
theorem l_X6_readPlain_b161 {hi : jw_H} {h : jw_H} {t0 : Nat} {t1 : Int32} {t2 : Int64} {r : Int32} {h' : jw_H} (hq : g_X6_readPlain_b161  h t0 t1 t2 = some (r, h')) : jw_E 1 uX6_readPlain hi 161 [none, none, none, none, none, none] [.long t2, .int t1, .ref t0] h (.inl (some (.int r))) h' := by
  unfold g_X6_readPlain_b161 at hq
  obtain ⟨a1, ea1, hq⟩ := Option.bind_eq_some_iff.mp hq
  obtain ⟨eoa1, eta1⟩ := jw_rc_spec ea1
  obtain ⟨w3, h2, ew3, hq⟩ := jw_b2_spec hq
  refine jw_callV (As := [.int t1, .long t2]) (S := []) (a := a1) (v := none) dX6_readPlain_161 mt_X6_addElement in_X6_addElement se_X6_addElement lk_X6_177 (c_X6_addElement ew3) eta1 (by decide) rfl rfl (by decide) (Nat.le_of_ble_eq_true rfl) (by cases eoa1; rfl) ?_
  refine jw_iconst dX6_readPlain_164 (v := (1 : Int32)) (by decide) ?_
  cases hq
  exact jw_iret (ty := .boolean) dX6_readPlain_165 rfl rfl

set_option maxRecDepth 100000 in
set_option maxHeartbeats 4000000 in
theorem l_X6_readPlain_b125 {hi : jw_H} {h : jw_H} {x0 : Nat} {x2 : Int32} {x3 : Int64} {r : Int32} {h' : jw_H} (hq : g_X6_readPlain_b125  h x0 x2 x3 = some (r, h')) : jw_E 1 uX6_readPlain hi 125 [some (.ref x0), none, some (.int x2), some (.long x3), none, none] [] h (.inl (some (.int r))) h' := by
  unfold g_X6_readPlain_b125 at hq
  refine jw_lload_n dX6_readPlain_125 rfl ?_
  refine jw_lconst dX6_readPlain_126 (v := (0 : Int64)) (by decide) ?_
  refine jw_lcmp dX6_readPlain_127 ?_
  rcases jw_if hq with ⟨c1, hq⟩ | ⟨c1, hq⟩
  · refine jw_if_eq_t (tgt := 140) dX6_readPlain_128 (by decide) c1 ?_
    refine jw_iconst dX6_readPlain_140 (v := (0 : Int32)) (by decide) ?_
    cases hq
    exact jw_iret (ty := .boolean) dX6_readPlain_141 rfl rfl
  · refine jw_if_eq_f (tgt := 140) dX6_readPlain_128 (by decide) c1 ?_
    refine jw_aload_n dX6_readPlain_131 (o := (some x0)) rfl ?_
    refine jw_bipush dX6_readPlain_132 (v := (93 : Int32)) (by decide) ?_
    obtain ⟨a2, ea2, hq⟩ := Option.bind_eq_some_iff.mp hq
    obtain ⟨eoa2, eta2⟩ := jw_rc_spec ea2
    obtain ⟨w4, h3, ew4, hq⟩ := jw_b2_spec hq
    refine jw_callV (As := [.int (93 : Int32)]) (S := []) (a := a2) (v := some (.int w4)) dX6_readPlain_134 mt_X6_pass in_X6_pass se_X6_pass lk_X6_72 (c_X6_pass ew4) eta2 (by decide) rfl rfl (by decide) (Nat.le_of_ble_eq_true rfl) (by cases eoa2; rfl) ?_
    rcases jw_if hq with ⟨c5, hq⟩ | ⟨c5, hq⟩
    · refine jw_if_ne_f (tgt := 142) dX6_readPlain_137 (by decide) c5 ?_
      refine jw_iconst dX6_readPlain_140 (v := (0 : Int32)) (by decide) ?_
      cases hq
      exact jw_iret (ty := .boolean) dX6_readPlain_141 rfl rfl
    · refine jw_if_ne_t (tgt := 142) dX6_readPlain_137 (by decide) c5 ?_
      refine jw_aload_n dX6_readPlain_142 (o := (some x0)) rfl ?_
      refine jw_iconst dX6_readPlain_143 (v := (0 : Int32)) (by decide) ?_
      refine jw_iload_n dX6_readPlain_144 rfl ?_
      rcases jw_if hq with ⟨c6, hq⟩ | ⟨c6, hq⟩
      · refine jw_if_eq_t (tgt := 160) dX6_readPlain_145 (by decide) c6 ?_
        refine jw_lload_n dX6_readPlain_160 rfl ?_
        refine jw_forget [false, true, false, false, true, true] (L' := [none, none, none, none, none, none]) rfl ?_
        exact l_X6_readPlain_b161  hq
      · refine jw_if_eq_f (tgt := 160) dX6_readPlain_145 (by decide) c6 ?_
        refine jw_ldc2 dX6_readPlain_148 cw_X6_187 ?_
        refine jw_lload_n dX6_readPlain_151 rfl ?_
        refine jw_ldc2 dX6_readPlain_152 cw_X6_189 ?_
        refine jw_lxor dX6_readPlain_155 ?_
        refine jw_land dX6_readPlain_156 ?_
        refine jw_goto (tgt := 161) dX6_readPlain_157 (by decide) ?_
        refine jw_forget [false, true, false, false, true, true] (L' := [none, none, none, none, none, none]) rfl ?_
        exact l_X6_readPlain_b161  hq

set_option maxRecDepth 100000 in
set_option maxHeartbeats 4000000 in
theorem l_X6_readPlain_b80g {hi : jw_H} {k80 : jw_H → Nat → Int32 → Int64 → Int32 → Option (Int32 × jw_H)} (hk80 : ∀ (h : jw_H) (x0 : Nat) (x2 : Int32) (x3 : Int64) (x5 : Int32) (r : Int32) (h' : jw_H), k80 h x0 x2 x3 x5 = some (r, h') → jw_E 1 uX6_readPlain hi 80 [some (.ref x0), none, some (.int x2), some (.long x3), none, some (.int x5)] [] h (.inl (some (.int r))) h') {h : jw_H} {x0 : Nat} {x2 : Int32} {x3 : Int64} {x5 : Int32} {r : Int32} {h' : jw_H} (hq : g_X6_readPlain_b80 k80 h x0 x2 x3 x5 = some (r, h')) : jw_E 1 uX6_readPlain hi 80 [some (.ref x0), none, some (.int x2), some (.long x3), none, some (.int x5)] [] h (.inl (some (.int r))) h' := by
  unfold g_X6_readPlain_b80 at hq
  refine jw_iload dX6_readPlain_80 rfl ?_
  refine jw_bipush dX6_readPlain_82 (v := (60 : Int32)) (by decide) ?_
  rcases jw_if hq with ⟨c1, hq⟩ | ⟨c1, hq⟩
  · refine jw_icmp_gt_t (tgt := 125) dX6_readPlain_84 (by decide) c1 ?_
    refine jw_forget [true, true, true, true, true, false] (L' := [some (.ref x0), none, some (.int x2), some (.long x3), none, none]) rfl ?_
    exact l_X6_readPlain_b125  hq
  · refine jw_icmp_gt_f (tgt := 125) dX6_readPlain_84 (by decide) c1 ?_
    refine jw_aload_n dX6_readPlain_87 (o := (some x0)) rfl ?_
    obtain ⟨a2, ea2, hq⟩ := Option.bind_eq_some_iff.mp hq
    obtain ⟨eoa2, eta2⟩ := jw_rc_spec ea2
    obtain ⟨w4, h3, ew4, hq⟩ := jw_b2_spec hq
    refine jw_callV (As := []) (S := []) (a := a2) (v := some (.int w4)) dX6_readPlain_88 mt_X6_peek in_X6_peek se_X6_peek lk_X6_93 (c_X6_peek ew4) eta2 (by decide) rfl rfl (by decide) (Nat.le_of_ble_eq_true rfl) (by cases eoa2; rfl) ?_
    obtain ⟨w6, h5, ew6, hq⟩ := jw_b2_spec hq
    refine jw_callS (As := [.int w4]) (S := []) (v := some (.long w6)) dX6_readPlain_91 mt_X11_bitOf st_X11_bitOf lk_X6_158 (c_X11_bitOf ew6) rfl (by decide) (Nat.le_of_ble_eq_true rfl) rfl ?_
    refine jw_lconst dX6_readPlain_94 (v := (0 : Int64)) (by decide) ?_
    refine jw_lcmp dX6_readPlain_95 ?_
    rcases jw_if hq with ⟨c7, hq⟩ | ⟨c7, hq⟩
    · refine jw_if_eq_t (tgt := 125) dX6_readPlain_96 (by decide) c7 ?_
      refine jw_forget [true, true, true, true, true, false] (L' := [some (.ref x0), none, some (.int x2), some (.long x3), none, none]) rfl ?_
      exact l_X6_readPlain_b125  hq
    · refine jw_if_eq_f (tgt := 125) dX6_readPlain_96 (by decide) c7 ?_
      refine jw_lload_n dX6_readPlain_99 rfl ?_
      refine jw_aload_n dX6_readPlain_100 (o := (some x0)) rfl ?_
      obtain ⟨a8, ea8, hq⟩ := Option.bind_eq_some_iff.mp hq
      obtain ⟨eoa8, eta8⟩ := jw_rc_spec ea8
      obtain ⟨w10, h9, ew10, hq⟩ := jw_b2_spec hq
      refine jw_callV (As := []) (S := [.long x3]) (a := a8) (v := some (.int w10)) dX6_readPlain_101 mt_X6_peek in_X6_peek se_X6_peek lk_X6_93 (c_X6_peek ew10) eta8 (by decide) rfl rfl (by decide) (Nat.le_of_ble_eq_true rfl) (by cases eoa8; rfl) ?_
      obtain ⟨w12, h11, ew12, hq⟩ := jw_b2_spec hq
      refine jw_callS (As := [.int w10]) (S := [.long x3]) (v := some (.long w12)) dX6_readPlain_104 mt_X11_bitOf st_X11_bitOf lk_X6_158 (c_X11_bitOf ew12) rfl (by decide) (Nat.le_of_ble_eq_true rfl) rfl ?_
      refine jw_lor dX6_readPlain_107 ?_
      refine jw_lstore_n (L' := [some (.ref x0), none, some (.int x2), some (.long (x3 ||| w12)), none, some (.int x5)]) dX6_readPlain_108 (Nat.le_of_ble_eq_true rfl) rfl ?_
      refine jw_aload_n dX6_readPlain_109 (o := (some x0)) rfl ?_
      refine jw_dup dX6_readPlain_110 rfl ?_
      obtain ⟨v13, ev13, hq⟩ := Option.bind_eq_some_iff.mp hq
      refine jw_getI (o := (some x0)) dX6_readPlain_111 ev13 fl_X6_43 rfl ?_
      refine jw_iconst dX6_readPlain_114 (v := (1 : Int32)) (by decide) ?_
      refine jw_iadd dX6_readPlain_115 ?_
      obtain ⟨h14, eh14, hq⟩ := Option.bind_eq_some_iff.mp hq
      refine jw_putI (o := (some x0)) dX6_readPlain_116 eh14 fl_X6_43 rfl rfl ?_
      refine jw_iinc (L' := [some (.ref x0), none, some (.int x2), some (.long (x3 ||| w12)), none, some (.int (x5 + (1 : Int32)))]) dX6_readPlain_119 rfl (v := (1 : Int32)) (by decide) (Nat.le_of_ble_eq_true rfl) rfl ?_
      refine jw_goto (tgt := 80) dX6_readPlain_122 (by decide) ?_
      exact hk80 _ _ _ _ _ _ _ hq

theorem l_X6_readPlain_b80 {hi : jw_H} : ∀ (n : Nat) (h : jw_H) (x0 : Nat) (x2 : Int32) (x3 : Int64) (x5 : Int32) (r : Int32) (h' : jw_H), f_X6_readPlain_b80  n h x0 x2 x3 x5 = some (r, h') → jw_E 1 uX6_readPlain hi 80 [some (.ref x0), none, some (.int x2), some (.long x3), none, some (.int x5)] [] h (.inl (some (.int r))) h' := by
  intro n
  induction n with
  | zero => intro h x0 x2 x3 x5 r h' hq; exact nomatch hq
  | succ n ih => intro h x0 x2 x3 x5 r h' hq; exact l_X6_readPlain_b80g ih hq

set_option maxRecDepth 100000 in
set_option maxHeartbeats 4000000 in
theorem l_X6_readPlain {hi : jw_H} {h : jw_H} {x0 : Nat} {r : Int32} {h' : jw_H} (hq : f_X6_readPlain  h x0 = some (r, h')) : jw_E 1 uX6_readPlain hi 0 [some (.ref x0), none, none, none, none, none] [] h (.inl (some (.int r))) h' := by
  unfold f_X6_readPlain at hq
  refine jw_aload_n dX6_readPlain_0 (o := (some x0)) rfl ?_
  obtain ⟨a1, ea1, hq⟩ := Option.bind_eq_some_iff.mp hq
  obtain ⟨eoa1, eta1⟩ := jw_rc_spec ea1
  obtain ⟨w3, h2, ew3, hq⟩ := jw_b2_spec hq
  refine jw_callV (As := []) (S := []) (a := a1) (v := some (.int w3)) dX6_readPlain_1 mt_X6_peek in_X6_peek se_X6_peek lk_X6_93 (c_X6_peek ew3) eta1 (by decide) rfl rfl (by decide) (Nat.le_of_ble_eq_true rfl) (by cases eoa1; rfl) ?_
  refine jw_istore_n (L' := [some (.ref x0), some (.int w3), none, none, none, none]) dX6_readPlain_4 (Nat.le_of_ble_eq_true rfl) rfl ?_
  refine jw_aload_n dX6_readPlain_5 (o := (some x0)) rfl ?_
  refine jw_dup dX6_readPlain_6 rfl ?_
  obtain ⟨v4, ev4, hq⟩ := Option.bind_eq_some_iff.mp hq
  refine jw_getI (o := (some x0)) dX6_readPlain_7 ev4 fl_X6_43 rfl ?_
  refine jw_iconst dX6_readPlain_10 (v := (1 : Int32)) (by decide) ?_
  refine jw_iadd dX6_readPlain_11 ?_
  obtain ⟨h5, eh5, hq⟩ := Option.bind_eq_some_iff.mp hq
  refine jw_putI (o := (some x0)) dX6_readPlain_12 eh5 fl_X6_43 rfl rfl ?_
  refine jw_iload_n dX6_readPlain_15 rfl ?_
  refine jw_bipush dX6_readPlain_16 (v := (42 : Int32)) (by decide) ?_
  rcases jw_if hq with ⟨c6, hq⟩ | ⟨c6, hq⟩
  · refine jw_icmp_ne_f (tgt := 39) dX6_readPlain_18 (by decide) c6 ?_
    refine jw_aload_n dX6_readPlain_21 (o := (some x0)) rfl ?_
    refine jw_dup dX6_readPlain_22 rfl ?_
    obtain ⟨v14, ev14, hq⟩ := Option.bind_eq_some_iff.mp hq
    refine jw_getI (o := (some x0)) dX6_readPlain_23 ev14 fl_X6_174 rfl ?_
    refine jw_iconst dX6_readPlain_26 (v := (1 : Int32)) (by decide) ?_
    refine jw_iadd dX6_readPlain_27 ?_
    obtain ⟨h15, eh15, hq⟩ := Option.bind_eq_some_iff.mp hq
    refine jw_putI (o := (some x0)) dX6_readPlain_28 eh15 fl_X6_174 rfl rfl ?_
    refine jw_aload_n dX6_readPlain_31 (o := (some x0)) rfl ?_
    refine jw_iconst dX6_readPlain_32 (v := (1 : Int32)) (by decide) ?_
    refine jw_lconst dX6_readPlain_33 (v := (0 : Int64)) (by decide) ?_
    obtain ⟨a16, ea16, hq⟩ := Option.bind_eq_some_iff.mp hq
    obtain ⟨eoa16, eta16⟩ := jw_rc_spec ea16
    obtain ⟨w18, h17, ew18, hq⟩ := jw_b2_spec hq
    refine jw_callV (As := [.int (1 : Int32), .long (0 : Int64)]) (S := []) (a := a16) (v := none) dX6_readPlain_34 mt_X6_addElement in_X6_addElement se_X6_addElement lk_X6_177 (c_X6_addElement ew18) eta16 (by decide) rfl rfl (by decide) (Nat.le_of_ble_eq_true rfl) (by cases eoa16; rfl) ?_
    refine jw_iconst dX6_readPlain_37 (v := (1 : Int32)) (by decide) ?_
    cases hq
    exact jw_iret (ty := .boolean) dX6_readPlain_38 rfl rfl
  · refine jw_icmp_ne_t (tgt := 39) dX6_readPlain_18 (by decide) c6 ?_
    refine jw_iload_n dX6_readPlain_39 rfl ?_
    refine jw_bipush dX6_readPlain_40 (v := (91 : Int32)) (by decide) ?_
    rcases jw_if hq with ⟨c7, hq⟩ | ⟨c7, hq⟩
    · refine jw_icmp_eq_t (tgt := 68) dX6_readPlain_42 (by decide) c7 ?_
      refine jw_aload_n dX6_readPlain_68 (o := (some x0)) rfl ?_
      refine jw_bipush dX6_readPlain_69 (v := (94 : Int32)) (by decide) ?_
      obtain ⟨a8, ea8, hq⟩ := Option.bind_eq_some_iff.mp hq
      obtain ⟨eoa8, eta8⟩ := jw_rc_spec ea8
      obtain ⟨w10, h9, ew10, hq⟩ := jw_b2_spec hq
      refine jw_callV (As := [.int (94 : Int32)]) (S := []) (a := a8) (v := some (.int w10)) dX6_readPlain_71 mt_X6_pass in_X6_pass se_X6_pass lk_X6_72 (c_X6_pass ew10) eta8 (by decide) rfl rfl (by decide) (Nat.le_of_ble_eq_true rfl) (by cases eoa8; rfl) ?_
      refine jw_istore_n (L' := [some (.ref x0), some (.int w3), some (.int w10), none, none, none]) dX6_readPlain_74 (Nat.le_of_ble_eq_true rfl) rfl ?_
      refine jw_lconst dX6_readPlain_75 (v := (0 : Int64)) (by decide) ?_
      refine jw_lstore_n (L' := [some (.ref x0), some (.int w3), some (.int w10), some (.long (0 : Int64)), none, none]) dX6_readPlain_76 (Nat.le_of_ble_eq_true rfl) rfl ?_
      refine jw_iconst dX6_readPlain_77 (v := (0 : Int32)) (by decide) ?_
      refine jw_istore (L' := [some (.ref x0), some (.int w3), some (.int w10), some (.long (0 : Int64)), none, some (.int (0 : Int32))]) dX6_readPlain_78 (Nat.le_of_ble_eq_true rfl) rfl ?_
      refine jw_forget [true, false, true, true, true, true] (L' := [some (.ref x0), none, some (.int w10), some (.long (0 : Int64)), none, some (.int (0 : Int32))]) rfl ?_
      exact l_X6_readPlain_b80  jw_FU _ _ _ _ _ _ _ hq
    · refine jw_icmp_eq_f (tgt := 68) dX6_readPlain_42 (by decide) c7 ?_
      refine jw_aload_n dX6_readPlain_45 (o := (some x0)) rfl ?_
      refine jw_iconst dX6_readPlain_46 (v := (0 : Int32)) (by decide) ?_
      refine jw_iload_n dX6_readPlain_47 rfl ?_
      refine jw_bipush dX6_readPlain_48 (v := (46 : Int32)) (by decide) ?_
      rcases jw_if hq with ⟨c11, hq⟩ | ⟨c11, hq⟩
      · refine jw_icmp_ne_f (tgt := 59) dX6_readPlain_50 (by decide) c11 ?_
        refine jw_ldc2 dX6_readPlain_53 cw_X6_187 ?_
        refine jw_goto (tgt := 63) dX6_readPlain_56 (by decide) ?_
        refine jw_forget [false, false, true, true, true, true] (L' := [none, none, none, none, none, none]) rfl ?_
        exact l_X6_readPlain_b63  hq
      · refine jw_icmp_ne_t (tgt := 59) dX6_readPlain_50 (by decide) c11 ?_
        refine jw_iload_n dX6_readPlain_59 rfl ?_
        obtain ⟨w13, h12, ew13, hq⟩ := jw_b2_spec hq
        refine jw_callS (As := [.int w3]) (S := [.int (0 : Int32), .ref x0]) (v := some (.long w13)) dX6_readPlain_60 mt_X11_bitOf st_X11_bitOf lk_X6_158 (c_X11_bitOf ew13) rfl (by decide) (Nat.le_of_ble_eq_true rfl) rfl ?_
        refine jw_forget [false, false, true, true, true, true] (L' := [none, none, none, none, none, none]) rfl ?_
        exact l_X6_readPlain_b63  hq

theorem c_X6_readPlain {h : jw_H} {x0 : Nat} {r : Int32} {h' : jw_H} (hq : f_X6_readPlain h x0 = some (r, h')) : jw_Con (Cond.code yX6_readPlain cX6_readPlain 6 (some .boolean)) yX6_readPlain 1 [.ref x0] h (.inl (some (.int r))) h' :=
  jw_con false (plainFor_of_name (by decide +kernel)) (fun z => nomatch z) (by simp [jw_ent, jw_sl0_nil, jw_sl0_int, jw_sl0_long, jw_sl0_ref, jw_sl0_rf, jw_sl0_scr, List.replicate]) (by simp [jw_sl0_nil, jw_sl0_int, jw_sl0_long, jw_sl0_ref, jw_sl0_rf, jw_sl0_scr]) (l_X6_readPlain hq)


/-! X6_readPattern -/
noncomputable def g_X6_readPattern_b281 (k46 : jw_H → Nat → Int32 → Int32 → Int32 → Int32 → Int32 → Int32 → Option (Int32 × jw_H)) (h : jw_H) (x0 : Nat) (x1 : Int32) (x2 : Int32) (x3 : Int32) (x4 : Int32) (x5 : Int32) (x6 : Int32) : Option (Int32 × jw_H) :=
 k46 h x0 x1 x2 x3 x4 x5 (x6 + (1 : Int32))

noncomputable def g_X6_readPattern_b310 (h : jw_H) (x0 : Nat) (x1 : Int32) (x2 : Int32) : Option (Int32 × jw_H) :=
 (jw_gI h 6 (some x0) 5).bind fun v1 =>
 if v1 = x1 then (some ((-1 : Int32), h))
 else ((jw_rc h 6 (some x0)).bind fun a3 =>
 jw_b2 (f_X6_addElement h a3 (7 : Int32) (0 : Int64)) fun w5 h4 =>
 some (x2, h4))

noncomputable def g_X6_readPattern_b287 (h : jw_H) (x0 : Nat) (x1 : Int32) (x2 : Int32) (x5 : Int32) : Option (Int32 × jw_H) :=
 if x5 = 0 then ((jw_rc h 6 (some x0)).bind fun a2 =>
 jw_b2 (f_X6_pass h a2 (36 : Int32)) fun w4 h3 =>
 if w4 = 0 then (g_X6_readPattern_b310  h3 x0 x1 x2)
 else ((jw_rc h3 6 (some x0)).bind fun a6 =>
 jw_b2 (f_X6_addElement h3 a6 (6 : Int32) (0 : Int64)) fun w8 h7 =>
 g_X6_readPattern_b310  h7 x0 x1 x2))
 else (some ((-1 : Int32), h))

noncomputable def g_X6_readPattern_b246 (k46 : jw_H → Nat → Int32 → Int32 → Int32 → Int32 → Int32 → Int32 → Option (Int32 × jw_H)) (h : jw_H) (x0 : Nat) (x1 : Int32) (x2 : Int32) (x3 : Int32) (x4 : Int32) (x5 : Int32) (x6 : Int32) (x7 : Int32) : Option (Int32 × jw_H) :=
 (jw_rc h 6 (some x0)).bind fun a1 =>
 jw_b2 (f_X6_beginsPlain h a1 x7) fun w3 h2 =>
 if w3 = 0 then (g_X6_readPattern_b287  h2 x0 x1 x2 x5)
 else ((jw_rc h2 6 (some x0)).bind fun a5 =>
 jw_b2 (f_X6_readPlain h2 a5) fun w7 h6 =>
 if w7 = 0 then (some ((-1 : Int32), h6))
 else (if x5 = 0 then (g_X6_readPattern_b281 k46 h6 x0 x1 x2 (x3 + (1 : Int32)) x4 x5 x6)
 else (g_X6_readPattern_b281 k46 h6 x0 x1 x2 x3 (x4 + (1 : Int32)) x5 x6)))

noncomputable def g_X6_readPattern_b178 (k46 : jw_H → Nat → Int32 → Int32 → Int32 → Int32 → Int32 → Int32 → Option (Int32 × jw_H)) (h : jw_H) (x0 : Nat) (x1 : Int32) (x2 : Int32) (x3 : Int32) (x4 : Int32) (x5 : Int32) (x6 : Int32) (x7 : Int32) : Option (Int32 × jw_H) :=
 if x5 = 0 then (if x7 = (92 : Int32) then ((jw_gI h 6 (some x0) 9).bind fun v3 =>
 if v3 ≤ 0 then (g_X6_readPattern_b246 k46 h x0 x1 x2 x3 x4 x5 x6 x7)
 else ((jw_gI h 6 (some x0) 5).bind fun v5 =>
 (jw_pI h 6 (some x0) 5 (v5 + (1 : Int32))).bind fun h6 =>
 (jw_gI h6 6 (some x0) 9).bind fun v7 =>
 (jw_rc h6 6 (some x0)).bind fun a8 =>
 jw_b2 (f_X6_readFrom h6 a8 (49 : Int32) ((48 : Int32) + v7)) fun w10 h9 =>
 if w10 = (-1 : Int32) then (some ((-1 : Int32), h9))
 else ((jw_rc h9 6 (some x0)).bind fun a12 =>
 jw_b2 (f_X6_addElement h9 a12 (4 : Int32) (w10 + (1 : Int32)).toInt64) fun w14 h13 =>
 g_X6_readPattern_b281 k46 h13 x0 x1 x2 (x3 + (1 : Int32)) x4 x5 x6)))
 else (g_X6_readPattern_b246 k46 h x0 x1 x2 x3 x4 x5 x6 x7))
 else (g_X6_readPattern_b246 k46 h x0 x1 x2 x3 x4 x5 x6 x7)

noncomputable def g_X6_readPattern_b108 (k46 : jw_H → Nat → Int32 → Int32 → Int32 → Int32 → Int32 → Int32 → Option (Int32 × jw_H)) (h : jw_H) (x0 : Nat) (x1 : Int32) (x2 : Int32) (x3 : Int32) (x4 : Int32) (x5 : Int32) (x6 : Int32) (x7 : Int32) (t0 : Int32) : Option (Int32 × jw_H) :=
 if t0 < (12 : Int32) then (if x5 = 0 then (if x7 = (40 : Int32) then ((jw_gI h 6 (some x0) 9).bind fun v4 =>
 if (2 : Int32) ≤ v4 then (g_X6_readPattern_b178 k46 h x0 x1 x2 x3 x4 x5 x6 x7)
 else ((jw_gI h 6 (some x0) 5).bind fun v6 =>
 (jw_pI h 6 (some x0) 5 (v6 + (1 : Int32))).bind fun h7 =>
 (jw_gI h7 6 (some x0) 9).bind fun v8 =>
 (jw_pI h7 6 (some x0) 9 (v8 + (1 : Int32))).bind fun h9 =>
 (jw_gI h9 6 (some x0) 9).bind fun v10 =>
 (jw_rc h9 6 (some x0)).bind fun a11 =>
 jw_b2 (f_X6_addElement h9 a11 (2 : Int32) v10.toInt64) fun w13 h12 =>
 g_X6_readPattern_b281 k46 h12 x0 x1 x2 (x3 + (1 : Int32)) (0 : Int32) (1 : Int32) x6))
 else (g_X6_readPattern_b178 k46 h x0 x1 x2 x3 x4 x5 x6 x7))
 else (g_X6_readPattern_b178 k46 h x0 x1 x2 x3 x4 x5 x6 x7))
 else (g_X6_readPattern_b287  h x0 x1 x2 x5)

noncomputable def g_X6_readPattern_b97 (k46 : jw_H → Nat → Int32 → Int32 → Int32 → Int32 → Int32 → Int32 → Option (Int32 × jw_H)) (h : jw_H) (x0 : Nat) (x1 : Int32) (x2 : Int32) (x3 : Int32) (x4 : Int32) (x5 : Int32) (x6 : Int32) (x7 : Int32) : Option (Int32 × jw_H) :=
 if x5 = 0 then (g_X6_readPattern_b108 k46 h x0 x1 x2 x3 x4 x5 x6 x7 x3)
 else (g_X6_readPattern_b108 k46 h x0 x1 x2 x3 x4 x5 x6 x7 x4)

noncomputable def g_X6_readPattern_b46 (k46 : jw_H → Nat → Int32 → Int32 → Int32 → Int32 → Int32 → Int32 → Option (Int32 × jw_H)) (h : jw_H) (x0 : Nat) (x1 : Int32) (x2 : Int32) (x3 : Int32) (x4 : Int32) (x5 : Int32) (x6 : Int32) : Option (Int32 × jw_H) :=
 if (60 : Int32) < x6 then (g_X6_readPattern_b287  h x0 x1 x2 x5)
 else ((jw_rc h 6 (some x0)).bind fun a2 =>
 jw_b2 (f_X6_peek h a2) fun w4 h3 =>
 if x5 = 0 then (g_X6_readPattern_b97 k46 h3 x0 x1 x2 x3 x4 x5 x6 w4)
 else (if w4 = (41 : Int32) then ((jw_gI h3 6 (some x0) 5).bind fun v7 =>
 (jw_pI h3 6 (some x0) 5 (v7 + (1 : Int32))).bind fun h8 =>
 (jw_gI h8 6 (some x0) 9).bind fun v9 =>
 (jw_rc h8 6 (some x0)).bind fun a10 =>
 jw_b2 (f_X6_addElement h8 a10 (3 : Int32) v9.toInt64) fun w12 h11 =>
 g_X6_readPattern_b281 k46 h11 x0 x1 x2 x3 x4 (0 : Int32) x6)
 else (g_X6_readPattern_b97 k46 h3 x0 x1 x2 x3 x4 x5 x6 w4)))

noncomputable def f_X6_readPattern_b46 (n : Nat) : jw_H → Nat → Int32 → Int32 → Int32 → Int32 → Int32 → Int32 → Option (Int32 × jw_H) :=
 Nat.rec (fun _ _ _ _ _ _ _ _ => none) (fun _ k46 => g_X6_readPattern_b46 k46) n

noncomputable def g_X6_readPattern_b43 (h : jw_H) (x0 : Nat) (x1 : Int32) (x2 : Int32) (x3 : Int32) (x4 : Int32) (x5 : Int32) : Option (Int32 × jw_H) :=
 f_X6_readPattern_b46  jw_FU h x0 x1 x2 x3 x4 x5 (0 : Int32)

noncomputable def f_X6_readPattern (h : jw_H) (x0 : Nat) : Option (Int32 × jw_H) :=
 (jw_gI h 6 (some x0) 5).bind fun v1 =>
 (jw_gI h 6 (some x0) 7).bind fun v2 =>
 (jw_pI h 6 (some x0) 8 (0 : Int32)).bind fun h3 =>
 (jw_pI h3 6 (some x0) 9 (0 : Int32)).bind fun h4 =>
 (jw_rc h4 6 (some x0)).bind fun a5 =>
 jw_b2 (f_X6_pass h4 a5 (94 : Int32)) fun w7 h6 =>
 if w7 = 0 then (g_X6_readPattern_b43  h6 x0 v1 v2 (0 : Int32) (0 : Int32) (0 : Int32))
 else ((jw_rc h6 6 (some x0)).bind fun a9 =>
 jw_b2 (f_X6_addElement h6 a9 (5 : Int32) (0 : Int64)) fun w11 h10 =>
 g_X6_readPattern_b43  h10 x0 v1 v2 (0 : Int32) (0 : Int32) (0 : Int32))

set_option maxRecDepth 100000 in
set_option maxHeartbeats 4000000 in
theorem l_X6_readPattern_b281 {hi : jw_H} {k46 : jw_H → Nat → Int32 → Int32 → Int32 → Int32 → Int32 → Int32 → Option (Int32 × jw_H)} (hk46 : ∀ (h : jw_H) (x0 : Nat) (x1 : Int32) (x2 : Int32) (x3 : Int32) (x4 : Int32) (x5 : Int32) (x6 : Int32) (r : Int32) (h' : jw_H), k46 h x0 x1 x2 x3 x4 x5 x6 = some (r, h') → jw_E 2 uX6_readPattern hi 46 [some (.ref x0), some (.int x1), some (.int x2), some (.int x3), some (.int x4), some (.int x5), some (.int x6), none, none] [] h (.inl (some (.int r))) h') {h : jw_H} {x0 : Nat} {x1 : Int32} {x2 : Int32} {x3 : Int32} {x4 : Int32} {x5 : Int32} {x6 : Int32} {r : Int32} {h' : jw_H} (hq : g_X6_readPattern_b281 k46 h x0 x1 x2 x3 x4 x5 x6 = some (r, h')) : jw_E 2 uX6_readPattern hi 281 [some (.ref x0), some (.int x1), some (.int x2), some (.int x3), some (.int x4), some (.int x5), some (.int x6), none, none] [] h (.inl (some (.int r))) h' := by
  unfold g_X6_readPattern_b281 at hq
  refine jw_iinc (L' := [some (.ref x0), some (.int x1), some (.int x2), some (.int x3), some (.int x4), some (.int x5), some (.int (x6 + (1 : Int32))), none, none]) dX6_readPattern_281 rfl (v := (1 : Int32)) (by decide) (Nat.le_of_ble_eq_true rfl) rfl ?_
  refine jw_goto (tgt := 46) dX6_readPattern_284 (by decide) ?_
  exact hk46 _ _ _ _ _ _ _ _ _ _ hq

set_option maxRecDepth 100000 in
set_option maxHeartbeats 4000000 in
theorem l_X6_readPattern_b310 {hi : jw_H} {h : jw_H} {x0 : Nat} {x1 : Int32} {x2 : Int32} {r : Int32} {h' : jw_H} (hq : g_X6_readPattern_b310  h x0 x1 x2 = some (r, h')) : jw_E 2 uX6_readPattern hi 310 [some (.ref x0), some (.int x1), some (.int x2), none, none, none, none, none, none] [] h (.inl (some (.int r))) h' := by
  unfold g_X6_readPattern_b310 at hq
  refine jw_aload_n dX6_readPattern_310 (o := (some x0)) rfl ?_
  obtain ⟨v1, ev1, hq⟩ := Option.bind_eq_some_iff.mp hq
  refine jw_getI (o := (some x0)) dX6_readPattern_311 ev1 fl_X6_43 rfl ?_
  refine jw_iload_n dX6_readPattern_314 rfl ?_
  rcases jw_if hq with ⟨c2, hq⟩ | ⟨c2, hq⟩
  · refine jw_icmp_ne_f (tgt := 320) dX6_readPattern_315 (by decide) c2 ?_
    refine jw_iconst dX6_readPattern_318 (v := (-1 : Int32)) (by decide) ?_
    cases hq
    exact jw_iret (ty := .int) dX6_readPattern_319 rfl rfl
  · refine jw_icmp_ne_t (tgt := 320) dX6_readPattern_315 (by decide) c2 ?_
    refine jw_aload_n dX6_readPattern_320 (o := (some x0)) rfl ?_
    refine jw_bipush dX6_readPattern_321 (v := (7 : Int32)) (by decide) ?_
    refine jw_lconst dX6_readPattern_323 (v := (0 : Int64)) (by decide) ?_
    obtain ⟨a3, ea3, hq⟩ := Option.bind_eq_some_iff.mp hq
    obtain ⟨eoa3, eta3⟩ := jw_rc_spec ea3
    obtain ⟨w5, h4, ew5, hq⟩ := jw_b2_spec hq
    refine jw_callV (As := [.int (7 : Int32), .long (0 : Int64)]) (S := []) (a := a3) (v := none) dX6_readPattern_324 mt_X6_addElement in_X6_addElement se_X6_addElement lk_X6_177 (c_X6_addElement ew5) eta3 (by decide) rfl rfl (by decide) (Nat.le_of_ble_eq_true rfl) (by cases eoa3; rfl) ?_
    refine jw_iload_n dX6_readPattern_327 rfl ?_
    cases hq
    exact jw_iret (ty := .int) dX6_readPattern_328 rfl rfl

set_option maxRecDepth 100000 in
set_option maxHeartbeats 4000000 in
theorem l_X6_readPattern_b287 {hi : jw_H} {h : jw_H} {x0 : Nat} {x1 : Int32} {x2 : Int32} {x5 : Int32} {r : Int32} {h' : jw_H} (hq : g_X6_readPattern_b287  h x0 x1 x2 x5 = some (r, h')) : jw_E 2 uX6_readPattern hi 287 [some (.ref x0), some (.int x1), some (.int x2), none, none, some (.int x5), none, none, none] [] h (.inl (some (.int r))) h' := by
  unfold g_X6_readPattern_b287 at hq
  refine jw_iload dX6_readPattern_287 rfl ?_
  rcases jw_if hq with ⟨c1, hq⟩ | ⟨c1, hq⟩
  · refine jw_if_eq_t (tgt := 294) dX6_readPattern_289 (by decide) c1 ?_
    refine jw_aload_n dX6_readPattern_294 (o := (some x0)) rfl ?_
    refine jw_bipush dX6_readPattern_295 (v := (36 : Int32)) (by decide) ?_
    obtain ⟨a2, ea2, hq⟩ := Option.bind_eq_some_iff.mp hq
    obtain ⟨eoa2, eta2⟩ := jw_rc_spec ea2
    obtain ⟨w4, h3, ew4, hq⟩ := jw_b2_spec hq
    refine jw_callV (As := [.int (36 : Int32)]) (S := []) (a := a2) (v := some (.int w4)) dX6_readPattern_297 mt_X6_pass in_X6_pass se_X6_pass lk_X6_72 (c_X6_pass ew4) eta2 (by decide) rfl rfl (by decide) (Nat.le_of_ble_eq_true rfl) (by cases eoa2; rfl) ?_
    rcases jw_if hq with ⟨c5, hq⟩ | ⟨c5, hq⟩
    · refine jw_if_eq_t (tgt := 310) dX6_readPattern_300 (by decide) c5 ?_
      refine jw_forget [true, true, true, true, true, false, true, true, true] (L' := [some (.ref x0), some (.int x1), some (.int x2), none, none, none, none, none, none]) rfl ?_
      exact l_X6_readPattern_b310  hq
    · refine jw_if_eq_f (tgt := 310) dX6_readPattern_300 (by decide) c5 ?_
      refine jw_aload_n dX6_readPattern_303 (o := (some x0)) rfl ?_
      refine jw_bipush dX6_readPattern_304 (v := (6 : Int32)) (by decide) ?_
      refine jw_lconst dX6_readPattern_306 (v := (0 : Int64)) (by decide) ?_
      obtain ⟨a6, ea6, hq⟩ := Option.bind_eq_some_iff.mp hq
      obtain ⟨eoa6, eta6⟩ := jw_rc_spec ea6
      obtain ⟨w8, h7, ew8, hq⟩ := jw_b2_spec hq
      refine jw_callV (As := [.int (6 : Int32), .long (0 : Int64)]) (S := []) (a := a6) (v := none) dX6_readPattern_307 mt_X6_addElement in_X6_addElement se_X6_addElement lk_X6_177 (c_X6_addElement ew8) eta6 (by decide) rfl rfl (by decide) (Nat.le_of_ble_eq_true rfl) (by cases eoa6; rfl) ?_
      refine jw_forget [true, true, true, true, true, false, true, true, true] (L' := [some (.ref x0), some (.int x1), some (.int x2), none, none, none, none, none, none]) rfl ?_
      exact l_X6_readPattern_b310  hq
  · refine jw_if_eq_f (tgt := 294) dX6_readPattern_289 (by decide) c1 ?_
    refine jw_iconst dX6_readPattern_292 (v := (-1 : Int32)) (by decide) ?_
    cases hq
    exact jw_iret (ty := .int) dX6_readPattern_293 rfl rfl

set_option maxRecDepth 100000 in
set_option maxHeartbeats 4000000 in
theorem l_X6_readPattern_b246 {hi : jw_H} {k46 : jw_H → Nat → Int32 → Int32 → Int32 → Int32 → Int32 → Int32 → Option (Int32 × jw_H)} (hk46 : ∀ (h : jw_H) (x0 : Nat) (x1 : Int32) (x2 : Int32) (x3 : Int32) (x4 : Int32) (x5 : Int32) (x6 : Int32) (r : Int32) (h' : jw_H), k46 h x0 x1 x2 x3 x4 x5 x6 = some (r, h') → jw_E 2 uX6_readPattern hi 46 [some (.ref x0), some (.int x1), some (.int x2), some (.int x3), some (.int x4), some (.int x5), some (.int x6), none, none] [] h (.inl (some (.int r))) h') {h : jw_H} {x0 : Nat} {x1 : Int32} {x2 : Int32} {x3 : Int32} {x4 : Int32} {x5 : Int32} {x6 : Int32} {x7 : Int32} {r : Int32} {h' : jw_H} (hq : g_X6_readPattern_b246 k46 h x0 x1 x2 x3 x4 x5 x6 x7 = some (r, h')) : jw_E 2 uX6_readPattern hi 246 [some (.ref x0), some (.int x1), some (.int x2), some (.int x3), some (.int x4), some (.int x5), some (.int x6), some (.int x7), none] [] h (.inl (some (.int r))) h' := by
  unfold g_X6_readPattern_b246 at hq
  refine jw_aload_n dX6_readPattern_246 (o := (some x0)) rfl ?_
  refine jw_iload dX6_readPattern_247 rfl ?_
  obtain ⟨a1, ea1, hq⟩ := Option.bind_eq_some_iff.mp hq
  obtain ⟨eoa1, eta1⟩ := jw_rc_spec ea1
  obtain ⟨w3, h2, ew3, hq⟩ := jw_b2_spec hq
  refine jw_callV (As := [.int x7]) (S := []) (a := a1) (v := some (.int w3)) dX6_readPattern_249 mt_X6_beginsPlain in_X6_beginsPlain se_X6_beginsPlain lk_X6_181 (c_X6_beginsPlain ew3) eta1 (by decide) rfl rfl (by decide) (Nat.le_of_ble_eq_true rfl) (by cases eoa1; rfl) ?_
  rcases jw_if hq with ⟨c4, hq⟩ | ⟨c4, hq⟩
  · refine jw_if_ne_f (tgt := 258) dX6_readPattern_252 (by decide) c4 ?_
    refine jw_goto (tgt := 287) dX6_readPattern_255 (by decide) ?_
    refine jw_forget [true, true, true, false, false, true, false, false, true] (L' := [some (.ref x0), some (.int x1), some (.int x2), none, none, some (.int x5), none, none, none]) rfl ?_
    exact l_X6_readPattern_b287  hq
  · refine jw_if_ne_t (tgt := 258) dX6_readPattern_252 (by decide) c4 ?_
    refine jw_aload_n dX6_readPattern_258 (o := (some x0)) rfl ?_
    obtain ⟨a5, ea5, hq⟩ := Option.bind_eq_some_iff.mp hq
    obtain ⟨eoa5, eta5⟩ := jw_rc_spec ea5
    obtain ⟨w7, h6, ew7, hq⟩ := jw_b2_spec hq
    refine jw_callV (As := []) (S := []) (a := a5) (v := some (.int w7)) dX6_readPattern_259 mt_X6_readPlain in_X6_readPlain se_X6_readPlain lk_X6_184 (c_X6_readPlain ew7) eta5 (by decide) rfl rfl (by decide) (Nat.le_of_ble_eq_true rfl) (by cases eoa5; rfl) ?_
    rcases jw_if hq with ⟨c8, hq⟩ | ⟨c8, hq⟩
    · refine jw_if_ne_f (tgt := 267) dX6_readPattern_262 (by decide) c8 ?_
      refine jw_iconst dX6_readPattern_265 (v := (-1 : Int32)) (by decide) ?_
      cases hq
      exact jw_iret (ty := .int) dX6_readPattern_266 rfl rfl
    · refine jw_if_ne_t (tgt := 267) dX6_readPattern_262 (by decide) c8 ?_
      refine jw_iload dX6_readPattern_267 rfl ?_
      rcases jw_if hq with ⟨c9, hq⟩ | ⟨c9, hq⟩
      · refine jw_if_eq_t (tgt := 278) dX6_readPattern_269 (by decide) c9 ?_
        refine jw_iinc (L' := [some (.ref x0), some (.int x1), some (.int x2), some (.int (x3 + (1 : Int32))), some (.int x4), some (.int x5), some (.int x6), some (.int x7), none]) dX6_readPattern_278 rfl (v := (1 : Int32)) (by decide) (Nat.le_of_ble_eq_true rfl) rfl ?_
        refine jw_forget [true, true, true, true, true, true, true, false, true] (L' := [some (.ref x0), some (.int x1), some (.int x2), some (.int (x3 + (1 : Int32))), some (.int x4), some (.int x5), some (.int x6), none, none]) rfl ?_
        exact l_X6_readPattern_b281 hk46 hq
      · refine jw_if_eq_f (tgt := 278) dX6_readPattern_269 (by decide) c9 ?_
        refine jw_iinc (L' := [some (.ref x0), some (.int x1), some (.int x2), some (.int x3), some (.int (x4 + (1 : Int32))), some (.int x5), some (.int x6), some (.int x7), none]) dX6_readPattern_272 rfl (v := (1 : Int32)) (by decide) (Nat.le_of_ble_eq_true rfl) rfl ?_
        refine jw_goto (tgt := 281) dX6_readPattern_275 (by decide) ?_
        refine jw_forget [true, true, true, true, true, true, true, false, true] (L' := [some (.ref x0), some (.int x1), some (.int x2), some (.int x3), some (.int (x4 + (1 : Int32))), some (.int x5), some (.int x6), none, none]) rfl ?_
        exact l_X6_readPattern_b281 hk46 hq

set_option maxRecDepth 100000 in
set_option maxHeartbeats 4000000 in
theorem l_X6_readPattern_b178 {hi : jw_H} {k46 : jw_H → Nat → Int32 → Int32 → Int32 → Int32 → Int32 → Int32 → Option (Int32 × jw_H)} (hk46 : ∀ (h : jw_H) (x0 : Nat) (x1 : Int32) (x2 : Int32) (x3 : Int32) (x4 : Int32) (x5 : Int32) (x6 : Int32) (r : Int32) (h' : jw_H), k46 h x0 x1 x2 x3 x4 x5 x6 = some (r, h') → jw_E 2 uX6_readPattern hi 46 [some (.ref x0), some (.int x1), some (.int x2), some (.int x3), some (.int x4), some (.int x5), some (.int x6), none, none] [] h (.inl (some (.int r))) h') {h : jw_H} {x0 : Nat} {x1 : Int32} {x2 : Int32} {x3 : Int32} {x4 : Int32} {x5 : Int32} {x6 : Int32} {x7 : Int32} {r : Int32} {h' : jw_H} (hq : g_X6_readPattern_b178 k46 h x0 x1 x2 x3 x4 x5 x6 x7 = some (r, h')) : jw_E 2 uX6_readPattern hi 178 [some (.ref x0), some (.int x1), some (.int x2), some (.int x3), some (.int x4), some (.int x5), some (.int x6), some (.int x7), none] [] h (.inl (some (.int r))) h' := by
  unfold g_X6_readPattern_b178 at hq
  refine jw_iload dX6_readPattern_178 rfl ?_
  rcases jw_if hq with ⟨c1, hq⟩ | ⟨c1, hq⟩
  · refine jw_if_ne_f (tgt := 246) dX6_readPattern_180 (by decide) c1 ?_
    refine jw_iload dX6_readPattern_183 rfl ?_
    refine jw_bipush dX6_readPattern_185 (v := (92 : Int32)) (by decide) ?_
    rcases jw_if hq with ⟨c2, hq⟩ | ⟨c2, hq⟩
    · refine jw_icmp_ne_f (tgt := 246) dX6_readPattern_187 (by decide) c2 ?_
      refine jw_aload_n dX6_readPattern_190 (o := (some x0)) rfl ?_
      obtain ⟨v3, ev3, hq⟩ := Option.bind_eq_some_iff.mp hq
      refine jw_getI (o := (some x0)) dX6_readPattern_191 ev3 fl_X6_168 rfl ?_
      rcases jw_if hq with ⟨c4, hq⟩ | ⟨c4, hq⟩
      · refine jw_if_le_t (tgt := 246) dX6_readPattern_194 (by decide) c4 ?_
        exact l_X6_readPattern_b246 hk46 hq
      · refine jw_if_le_f (tgt := 246) dX6_readPattern_194 (by decide) c4 ?_
        refine jw_aload_n dX6_readPattern_197 (o := (some x0)) rfl ?_
        refine jw_dup dX6_readPattern_198 rfl ?_
        obtain ⟨v5, ev5, hq⟩ := Option.bind_eq_some_iff.mp hq
        refine jw_getI (o := (some x0)) dX6_readPattern_199 ev5 fl_X6_43 rfl ?_
        refine jw_iconst dX6_readPattern_202 (v := (1 : Int32)) (by decide) ?_
        refine jw_iadd dX6_readPattern_203 ?_
        obtain ⟨h6, eh6, hq⟩ := Option.bind_eq_some_iff.mp hq
        refine jw_putI (o := (some x0)) dX6_readPattern_204 eh6 fl_X6_43 rfl rfl ?_
        refine jw_iinc (L' := [some (.ref x0), some (.int x1), some (.int x2), some (.int (x3 + (1 : Int32))), some (.int x4), some (.int x5), some (.int x6), some (.int x7), none]) dX6_readPattern_207 rfl (v := (1 : Int32)) (by decide) (Nat.le_of_ble_eq_true rfl) rfl ?_
        refine jw_aload_n dX6_readPattern_210 (o := (some x0)) rfl ?_
        refine jw_bipush dX6_readPattern_211 (v := (49 : Int32)) (by decide) ?_
        refine jw_bipush dX6_readPattern_213 (v := (48 : Int32)) (by decide) ?_
        refine jw_aload_n dX6_readPattern_215 (o := (some x0)) rfl ?_
        obtain ⟨v7, ev7, hq⟩ := Option.bind_eq_some_iff.mp hq
        refine jw_getI (o := (some x0)) dX6_readPattern_216 ev7 fl_X6_168 rfl ?_
        refine jw_iadd dX6_readPattern_219 ?_
        obtain ⟨a8, ea8, hq⟩ := Option.bind_eq_some_iff.mp hq
        obtain ⟨eoa8, eta8⟩ := jw_rc_spec ea8
        obtain ⟨w10, h9, ew10, hq⟩ := jw_b2_spec hq
        refine jw_callV (As := [.int (49 : Int32), .int ((48 : Int32) + v7)]) (S := []) (a := a8) (v := some (.int w10)) dX6_readPattern_220 mt_X6_readFrom in_X6_readFrom se_X6_readFrom lk_X6_121 (c_X6_readFrom ew10) eta8 (by decide) rfl rfl (by decide) (Nat.le_of_ble_eq_true rfl) (by cases eoa8; rfl) ?_
        refine jw_istore (L' := [some (.ref x0), some (.int x1), some (.int x2), some (.int (x3 + (1 : Int32))), some (.int x4), some (.int x5), some (.int x6), some (.int x7), some (.int w10)]) dX6_readPattern_223 (Nat.le_of_ble_eq_true rfl) rfl ?_
        refine jw_iload dX6_readPattern_225 rfl ?_
        refine jw_iconst dX6_readPattern_227 (v := (-1 : Int32)) (by decide) ?_
        rcases jw_if hq with ⟨c11, hq⟩ | ⟨c11, hq⟩
        · refine jw_icmp_ne_f (tgt := 233) dX6_readPattern_228 (by decide) c11 ?_
          refine jw_iconst dX6_readPattern_231 (v := (-1 : Int32)) (by decide) ?_
          cases hq
          exact jw_iret (ty := .int) dX6_readPattern_232 rfl rfl
        · refine jw_icmp_ne_t (tgt := 233) dX6_readPattern_228 (by decide) c11 ?_
          refine jw_aload_n dX6_readPattern_233 (o := (some x0)) rfl ?_
          refine jw_iconst dX6_readPattern_234 (v := (4 : Int32)) (by decide) ?_
          refine jw_iload dX6_readPattern_235 rfl ?_
          refine jw_iconst dX6_readPattern_237 (v := (1 : Int32)) (by decide) ?_
          refine jw_iadd dX6_readPattern_238 ?_
          refine jw_i2l dX6_readPattern_239 ?_
          obtain ⟨a12, ea12, hq⟩ := Option.bind_eq_some_iff.mp hq
          obtain ⟨eoa12, eta12⟩ := jw_rc_spec ea12
          obtain ⟨w14, h13, ew14, hq⟩ := jw_b2_spec hq
          refine jw_callV (As := [.int (4 : Int32), .long (w10 + (1 : Int32)).toInt64]) (S := []) (a := a12) (v := none) dX6_readPattern_240 mt_X6_addElement in_X6_addElement se_X6_addElement lk_X6_177 (c_X6_addElement ew14) eta12 (by decide) rfl rfl (by decide) (Nat.le_of_ble_eq_true rfl) (by cases eoa12; rfl) ?_
          refine jw_goto (tgt := 281) dX6_readPattern_243 (by decide) ?_
          refine jw_forget [true, true, true, true, true, true, true, false, false] (L' := [some (.ref x0), some (.int x1), some (.int x2), some (.int (x3 + (1 : Int32))), some (.int x4), some (.int x5), some (.int x6), none, none]) rfl ?_
          exact l_X6_readPattern_b281 hk46 hq
    · refine jw_icmp_ne_t (tgt := 246) dX6_readPattern_187 (by decide) c2 ?_
      exact l_X6_readPattern_b246 hk46 hq
  · refine jw_if_ne_t (tgt := 246) dX6_readPattern_180 (by decide) c1 ?_
    exact l_X6_readPattern_b246 hk46 hq

set_option maxRecDepth 100000 in
set_option maxHeartbeats 4000000 in
theorem l_X6_readPattern_b108 {hi : jw_H} {k46 : jw_H → Nat → Int32 → Int32 → Int32 → Int32 → Int32 → Int32 → Option (Int32 × jw_H)} (hk46 : ∀ (h : jw_H) (x0 : Nat) (x1 : Int32) (x2 : Int32) (x3 : Int32) (x4 : Int32) (x5 : Int32) (x6 : Int32) (r : Int32) (h' : jw_H), k46 h x0 x1 x2 x3 x4 x5 x6 = some (r, h') → jw_E 2 uX6_readPattern hi 46 [some (.ref x0), some (.int x1), some (.int x2), some (.int x3), some (.int x4), some (.int x5), some (.int x6), none, none] [] h (.inl (some (.int r))) h') {h : jw_H} {x0 : Nat} {x1 : Int32} {x2 : Int32} {x3 : Int32} {x4 : Int32} {x5 : Int32} {x6 : Int32} {x7 : Int32} {t0 : Int32} {r : Int32} {h' : jw_H} (hq : g_X6_readPattern_b108 k46 h x0 x1 x2 x3 x4 x5 x6 x7 t0 = some (r, h')) : jw_E 2 uX6_readPattern hi 108 [some (.ref x0), some (.int x1), some (.int x2), some (.int x3), some (.int x4), some (.int x5), some (.int x6), some (.int x7), none] [.int t0] h (.inl (some (.int r))) h' := by
  unfold g_X6_readPattern_b108 at hq
  refine jw_bipush dX6_readPattern_108 (v := (12 : Int32)) (by decide) ?_
  rcases jw_if hq with ⟨c1, hq⟩ | ⟨c1, hq⟩
  · refine jw_icmp_lt_t (tgt := 116) dX6_readPattern_110 (by decide) c1 ?_
    refine jw_iload dX6_readPattern_116 rfl ?_
    rcases jw_if hq with ⟨c2, hq⟩ | ⟨c2, hq⟩
    · refine jw_if_ne_f (tgt := 178) dX6_readPattern_118 (by decide) c2 ?_
      refine jw_iload dX6_readPattern_121 rfl ?_
      refine jw_bipush dX6_readPattern_123 (v := (40 : Int32)) (by decide) ?_
      rcases jw_if hq with ⟨c3, hq⟩ | ⟨c3, hq⟩
      · refine jw_icmp_ne_f (tgt := 178) dX6_readPattern_125 (by decide) c3 ?_
        refine jw_aload_n dX6_readPattern_128 (o := (some x0)) rfl ?_
        obtain ⟨v4, ev4, hq⟩ := Option.bind_eq_some_iff.mp hq
        refine jw_getI (o := (some x0)) dX6_readPattern_129 ev4 fl_X6_168 rfl ?_
        refine jw_iconst dX6_readPattern_132 (v := (2 : Int32)) (by decide) ?_
        rcases jw_if hq with ⟨c5, hq⟩ | ⟨c5, hq⟩
        · refine jw_icmp_ge_t (tgt := 178) dX6_readPattern_133 (by decide) c5 ?_
          exact l_X6_readPattern_b178 hk46 hq
        · refine jw_icmp_ge_f (tgt := 178) dX6_readPattern_133 (by decide) c5 ?_
          refine jw_aload_n dX6_readPattern_136 (o := (some x0)) rfl ?_
          refine jw_dup dX6_readPattern_137 rfl ?_
          obtain ⟨v6, ev6, hq⟩ := Option.bind_eq_some_iff.mp hq
          refine jw_getI (o := (some x0)) dX6_readPattern_138 ev6 fl_X6_43 rfl ?_
          refine jw_iconst dX6_readPattern_141 (v := (1 : Int32)) (by decide) ?_
          refine jw_iadd dX6_readPattern_142 ?_
          obtain ⟨h7, eh7, hq⟩ := Option.bind_eq_some_iff.mp hq
          refine jw_putI (o := (some x0)) dX6_readPattern_143 eh7 fl_X6_43 rfl rfl ?_
          refine jw_iconst dX6_readPattern_146 (v := (1 : Int32)) (by decide) ?_
          refine jw_istore (L' := [some (.ref x0), some (.int x1), some (.int x2), some (.int x3), some (.int x4), some (.int (1 : Int32)), some (.int x6), some (.int x7), none]) dX6_readPattern_147 (Nat.le_of_ble_eq_true rfl) rfl ?_
          refine jw_aload_n dX6_readPattern_149 (o := (some x0)) rfl ?_
          refine jw_dup dX6_readPattern_150 rfl ?_
          obtain ⟨v8, ev8, hq⟩ := Option.bind_eq_some_iff.mp hq
          refine jw_getI (o := (some x0)) dX6_readPattern_151 ev8 fl_X6_168 rfl ?_
          refine jw_iconst dX6_readPattern_154 (v := (1 : Int32)) (by decide) ?_
          refine jw_iadd dX6_readPattern_155 ?_
          obtain ⟨h9, eh9, hq⟩ := Option.bind_eq_some_iff.mp hq
          refine jw_putI (o := (some x0)) dX6_readPattern_156 eh9 fl_X6_168 rfl rfl ?_
          refine jw_iinc (L' := [some (.ref x0), some (.int x1), some (.int x2), some (.int (x3 + (1 : Int32))), some (.int x4), some (.int (1 : Int32)), some (.int x6), some (.int x7), none]) dX6_readPattern_159 rfl (v := (1 : Int32)) (by decide) (Nat.le_of_ble_eq_true rfl) rfl ?_
          refine jw_iconst dX6_readPattern_162 (v := (0 : Int32)) (by decide) ?_
          refine jw_istore (L' := [some (.ref x0), some (.int x1), some (.int x2), some (.int (x3 + (1 : Int32))), some (.int (0 : Int32)), some (.int (1 : Int32)), some (.int x6), some (.int x7), none]) dX6_readPattern_163 (Nat.le_of_ble_eq_true rfl) rfl ?_
          refine jw_aload_n dX6_readPattern_165 (o := (some x0)) rfl ?_
          refine jw_iconst dX6_readPattern_166 (v := (2 : Int32)) (by decide) ?_
          refine jw_aload_n dX6_readPattern_167 (o := (some x0)) rfl ?_
          obtain ⟨v10, ev10, hq⟩ := Option.bind_eq_some_iff.mp hq
          refine jw_getI (o := (some x0)) dX6_readPattern_168 ev10 fl_X6_168 rfl ?_
          refine jw_i2l dX6_readPattern_171 ?_
          obtain ⟨a11, ea11, hq⟩ := Option.bind_eq_some_iff.mp hq
          obtain ⟨eoa11, eta11⟩ := jw_rc_spec ea11
          obtain ⟨w13, h12, ew13, hq⟩ := jw_b2_spec hq
          refine jw_callV (As := [.int (2 : Int32), .long v10.toInt64]) (S := []) (a := a11) (v := none) dX6_readPattern_172 mt_X6_addElement in_X6_addElement se_X6_addElement lk_X6_177 (c_X6_addElement ew13) eta11 (by decide) rfl rfl (by decide) (Nat.le_of_ble_eq_true rfl) (by cases eoa11; rfl) ?_
          refine jw_goto (tgt := 281) dX6_readPattern_175 (by decide) ?_
          refine jw_forget [true, true, true, true, true, true, true, false, true] (L' := [some (.ref x0), some (.int x1), some (.int x2), some (.int (x3 + (1 : Int32))), some (.int (0 : Int32)), some (.int (1 : Int32)), some (.int x6), none, none]) rfl ?_
          exact l_X6_readPattern_b281 hk46 hq
      · refine jw_icmp_ne_t (tgt := 178) dX6_readPattern_125 (by decide) c3 ?_
        exact l_X6_readPattern_b178 hk46 hq
    · refine jw_if_ne_t (tgt := 178) dX6_readPattern_118 (by decide) c2 ?_
      exact l_X6_readPattern_b178 hk46 hq
  · refine jw_icmp_lt_f (tgt := 116) dX6_readPattern_110 (by decide) c1 ?_
    refine jw_goto (tgt := 287) dX6_readPattern_113 (by decide) ?_
    refine jw_forget [true, true, true, false, false, true, false, false, true] (L' := [some (.ref x0), some (.int x1), some (.int x2), none, none, some (.int x5), none, none, none]) rfl ?_
    exact l_X6_readPattern_b287  hq

set_option maxRecDepth 100000 in
set_option maxHeartbeats 4000000 in
theorem l_X6_readPattern_b97 {hi : jw_H} {k46 : jw_H → Nat → Int32 → Int32 → Int32 → Int32 → Int32 → Int32 → Option (Int32 × jw_H)} (hk46 : ∀ (h : jw_H) (x0 : Nat) (x1 : Int32) (x2 : Int32) (x3 : Int32) (x4 : Int32) (x5 : Int32) (x6 : Int32) (r : Int32) (h' : jw_H), k46 h x0 x1 x2 x3 x4 x5 x6 = some (r, h') → jw_E 2 uX6_readPattern hi 46 [some (.ref x0), some (.int x1), some (.int x2), some (.int x3), some (.int x4), some (.int x5), some (.int x6), none, none] [] h (.inl (some (.int r))) h') {h : jw_H} {x0 : Nat} {x1 : Int32} {x2 : Int32} {x3 : Int32} {x4 : Int32} {x5 : Int32} {x6 : Int32} {x7 : Int32} {r : Int32} {h' : jw_H} (hq : g_X6_readPattern_b97 k46 h x0 x1 x2 x3 x4 x5 x6 x7 = some (r, h')) : jw_E 2 uX6_readPattern hi 97 [some (.ref x0), some (.int x1), some (.int x2), some (.int x3), some (.int x4), some (.int x5), some (.int x6), some (.int x7), none] [] h (.inl (some (.int r))) h' := by
  unfold g_X6_readPattern_b97 at hq
  refine jw_iload dX6_readPattern_97 rfl ?_
  rcases jw_if hq with ⟨c1, hq⟩ | ⟨c1, hq⟩
  · refine jw_if_eq_t (tgt := 107) dX6_readPattern_99 (by decide) c1 ?_
    refine jw_iload_n dX6_readPattern_107 rfl ?_
    exact l_X6_readPattern_b108 hk46 hq
  · refine jw_if_eq_f (tgt := 107) dX6_readPattern_99 (by decide) c1 ?_
    refine jw_iload dX6_readPattern_102 rfl ?_
    refine jw_goto (tgt := 108) dX6_readPattern_104 (by decide) ?_
    exact l_X6_readPattern_b108 hk46 hq

set_option maxRecDepth 100000 in
set_option maxHeartbeats 4000000 in
theorem l_X6_readPattern_b46g {hi : jw_H} {k46 : jw_H → Nat → Int32 → Int32 → Int32 → Int32 → Int32 → Int32 → Option (Int32 × jw_H)} (hk46 : ∀ (h : jw_H) (x0 : Nat) (x1 : Int32) (x2 : Int32) (x3 : Int32) (x4 : Int32) (x5 : Int32) (x6 : Int32) (r : Int32) (h' : jw_H), k46 h x0 x1 x2 x3 x4 x5 x6 = some (r, h') → jw_E 2 uX6_readPattern hi 46 [some (.ref x0), some (.int x1), some (.int x2), some (.int x3), some (.int x4), some (.int x5), some (.int x6), none, none] [] h (.inl (some (.int r))) h') {h : jw_H} {x0 : Nat} {x1 : Int32} {x2 : Int32} {x3 : Int32} {x4 : Int32} {x5 : Int32} {x6 : Int32} {r : Int32} {h' : jw_H} (hq : g_X6_readPattern_b46 k46 h x0 x1 x2 x3 x4 x5 x6 = some (r, h')) : jw_E 2 uX6_readPattern hi 46 [some (.ref x0), some (.int x1), some (.int x2), some (.int x3), some (.int x4), some (.int x5), some (.int x6), none, none] [] h (.inl (some (.int r))) h' := by
  unfold g_X6_readPattern_b46 at hq
  refine jw_iload dX6_readPattern_46 rfl ?_
  refine jw_bipush dX6_readPattern_48 (v := (60 : Int32)) (by decide) ?_
  rcases jw_if hq with ⟨c1, hq⟩ | ⟨c1, hq⟩
  · refine jw_icmp_gt_t (tgt := 287) dX6_readPattern_50 (by decide) c1 ?_
    refine jw_forget [true, true, true, false, false, true, false, true, true] (L' := [some (.ref x0), some (.int x1), some (.int x2), none, none, some (.int x5), none, none, none]) rfl ?_
    exact l_X6_readPattern_b287  hq
  · refine jw_icmp_gt_f (tgt := 287) dX6_readPattern_50 (by decide) c1 ?_
    refine jw_aload_n dX6_readPattern_53 (o := (some x0)) rfl ?_
    obtain ⟨a2, ea2, hq⟩ := Option.bind_eq_some_iff.mp hq
    obtain ⟨eoa2, eta2⟩ := jw_rc_spec ea2
    obtain ⟨w4, h3, ew4, hq⟩ := jw_b2_spec hq
    refine jw_callV (As := []) (S := []) (a := a2) (v := some (.int w4)) dX6_readPattern_54 mt_X6_peek in_X6_peek se_X6_peek lk_X6_93 (c_X6_peek ew4) eta2 (by decide) rfl rfl (by decide) (Nat.le_of_ble_eq_true rfl) (by cases eoa2; rfl) ?_
    refine jw_istore (L' := [some (.ref x0), some (.int x1), some (.int x2), some (.int x3), some (.int x4), some (.int x5), some (.int x6), some (.int w4), none]) dX6_readPattern_57 (Nat.le_of_ble_eq_true rfl) rfl ?_
    refine jw_iload dX6_readPattern_59 rfl ?_
    rcases jw_if hq with ⟨c5, hq⟩ | ⟨c5, hq⟩
    · refine jw_if_eq_t (tgt := 97) dX6_readPattern_61 (by decide) c5 ?_
      exact l_X6_readPattern_b97 hk46 hq
    · refine jw_if_eq_f (tgt := 97) dX6_readPattern_61 (by decide) c5 ?_
      refine jw_iload dX6_readPattern_64 rfl ?_
      refine jw_bipush dX6_readPattern_66 (v := (41 : Int32)) (by decide) ?_
      rcases jw_if hq with ⟨c6, hq⟩ | ⟨c6, hq⟩
      · refine jw_icmp_ne_f (tgt := 97) dX6_readPattern_68 (by decide) c6 ?_
        refine jw_aload_n dX6_readPattern_71 (o := (some x0)) rfl ?_
        refine jw_dup dX6_readPattern_72 rfl ?_
        obtain ⟨v7, ev7, hq⟩ := Option.bind_eq_some_iff.mp hq
        refine jw_getI (o := (some x0)) dX6_readPattern_73 ev7 fl_X6_43 rfl ?_
        refine jw_iconst dX6_readPattern_76 (v := (1 : Int32)) (by decide) ?_
        refine jw_iadd dX6_readPattern_77 ?_
        obtain ⟨h8, eh8, hq⟩ := Option.bind_eq_some_iff.mp hq
        refine jw_putI (o := (some x0)) dX6_readPattern_78 eh8 fl_X6_43 rfl rfl ?_
        refine jw_iconst dX6_readPattern_81 (v := (0 : Int32)) (by decide) ?_
        refine jw_istore (L' := [some (.ref x0), some (.int x1), some (.int x2), some (.int x3), some (.int x4), some (.int (0 : Int32)), some (.int x6), some (.int w4), none]) dX6_readPattern_82 (Nat.le_of_ble_eq_true rfl) rfl ?_
        refine jw_aload_n dX6_readPattern_84 (o := (some x0)) rfl ?_
        refine jw_iconst dX6_readPattern_85 (v := (3 : Int32)) (by decide) ?_
        refine jw_aload_n dX6_readPattern_86 (o := (some x0)) rfl ?_
        obtain ⟨v9, ev9, hq⟩ := Option.bind_eq_some_iff.mp hq
        refine jw_getI (o := (some x0)) dX6_readPattern_87 ev9 fl_X6_168 rfl ?_
        refine jw_i2l dX6_readPattern_90 ?_
        obtain ⟨a10, ea10, hq⟩ := Option.bind_eq_some_iff.mp hq
        obtain ⟨eoa10, eta10⟩ := jw_rc_spec ea10
        obtain ⟨w12, h11, ew12, hq⟩ := jw_b2_spec hq
        refine jw_callV (As := [.int (3 : Int32), .long v9.toInt64]) (S := []) (a := a10) (v := none) dX6_readPattern_91 mt_X6_addElement in_X6_addElement se_X6_addElement lk_X6_177 (c_X6_addElement ew12) eta10 (by decide) rfl rfl (by decide) (Nat.le_of_ble_eq_true rfl) (by cases eoa10; rfl) ?_
        refine jw_goto (tgt := 281) dX6_readPattern_94 (by decide) ?_
        refine jw_forget [true, true, true, true, true, true, true, false, true] (L' := [some (.ref x0), some (.int x1), some (.int x2), some (.int x3), some (.int x4), some (.int (0 : Int32)), some (.int x6), none, none]) rfl ?_
        exact l_X6_readPattern_b281 hk46 hq
      · refine jw_icmp_ne_t (tgt := 97) dX6_readPattern_68 (by decide) c6 ?_
        exact l_X6_readPattern_b97 hk46 hq

theorem l_X6_readPattern_b46 {hi : jw_H} : ∀ (n : Nat) (h : jw_H) (x0 : Nat) (x1 : Int32) (x2 : Int32) (x3 : Int32) (x4 : Int32) (x5 : Int32) (x6 : Int32) (r : Int32) (h' : jw_H), f_X6_readPattern_b46  n h x0 x1 x2 x3 x4 x5 x6 = some (r, h') → jw_E 2 uX6_readPattern hi 46 [some (.ref x0), some (.int x1), some (.int x2), some (.int x3), some (.int x4), some (.int x5), some (.int x6), none, none] [] h (.inl (some (.int r))) h' := by
  intro n
  induction n with
  | zero => intro h x0 x1 x2 x3 x4 x5 x6 r h' hq; exact nomatch hq
  | succ n ih => intro h x0 x1 x2 x3 x4 x5 x6 r h' hq; exact l_X6_readPattern_b46g ih hq

set_option maxRecDepth 100000 in
set_option maxHeartbeats 4000000 in
theorem l_X6_readPattern_b43 {hi : jw_H} {h : jw_H} {x0 : Nat} {x1 : Int32} {x2 : Int32} {x3 : Int32} {x4 : Int32} {x5 : Int32} {r : Int32} {h' : jw_H} (hq : g_X6_readPattern_b43  h x0 x1 x2 x3 x4 x5 = some (r, h')) : jw_E 2 uX6_readPattern hi 43 [some (.ref x0), some (.int x1), some (.int x2), some (.int x3), some (.int x4), some (.int x5), none, none, none] [] h (.inl (some (.int r))) h' := by
  unfold g_X6_readPattern_b43 at hq
  refine jw_iconst dX6_readPattern_43 (v := (0 : Int32)) (by decide) ?_
  refine jw_istore (L' := [some (.ref x0), some (.int x1), some (.int x2), some (.int x3), some (.int x4), some (.int x5), some (.int (0 : Int32)), none, none]) dX6_readPattern_44 (Nat.le_of_ble_eq_true rfl) rfl ?_
  exact l_X6_readPattern_b46  jw_FU _ _ _ _ _ _ _ _ _ _ hq

set_option maxRecDepth 100000 in
set_option maxHeartbeats 4000000 in
theorem l_X6_readPattern {hi : jw_H} {h : jw_H} {x0 : Nat} {r : Int32} {h' : jw_H} (hq : f_X6_readPattern  h x0 = some (r, h')) : jw_E 2 uX6_readPattern hi 0 [some (.ref x0), none, none, none, none, none, none, none, none] [] h (.inl (some (.int r))) h' := by
  unfold f_X6_readPattern at hq
  refine jw_aload_n dX6_readPattern_0 (o := (some x0)) rfl ?_
  obtain ⟨v1, ev1, hq⟩ := Option.bind_eq_some_iff.mp hq
  refine jw_getI (o := (some x0)) dX6_readPattern_1 ev1 fl_X6_43 rfl ?_
  refine jw_istore_n (L' := [some (.ref x0), some (.int v1), none, none, none, none, none, none, none]) dX6_readPattern_4 (Nat.le_of_ble_eq_true rfl) rfl ?_
  refine jw_aload_n dX6_readPattern_5 (o := (some x0)) rfl ?_
  obtain ⟨v2, ev2, hq⟩ := Option.bind_eq_some_iff.mp hq
  refine jw_getI (o := (some x0)) dX6_readPattern_6 ev2 fl_X6_46 rfl ?_
  refine jw_istore_n (L' := [some (.ref x0), some (.int v1), some (.int v2), none, none, none, none, none, none]) dX6_readPattern_9 (Nat.le_of_ble_eq_true rfl) rfl ?_
  refine jw_iconst dX6_readPattern_10 (v := (0 : Int32)) (by decide) ?_
  refine jw_istore_n (L' := [some (.ref x0), some (.int v1), some (.int v2), some (.int (0 : Int32)), none, none, none, none, none]) dX6_readPattern_11 (Nat.le_of_ble_eq_true rfl) rfl ?_
  refine jw_iconst dX6_readPattern_12 (v := (0 : Int32)) (by decide) ?_
  refine jw_istore (L' := [some (.ref x0), some (.int v1), some (.int v2), some (.int (0 : Int32)), some (.int (0 : Int32)), none, none, none, none]) dX6_readPattern_13 (Nat.le_of_ble_eq_true rfl) rfl ?_
  refine jw_iconst dX6_readPattern_15 (v := (0 : Int32)) (by decide) ?_
  refine jw_istore (L' := [some (.ref x0), some (.int v1), some (.int v2), some (.int (0 : Int32)), some (.int (0 : Int32)), some (.int (0 : Int32)), none, none, none]) dX6_readPattern_16 (Nat.le_of_ble_eq_true rfl) rfl ?_
  refine jw_aload_n dX6_readPattern_18 (o := (some x0)) rfl ?_
  refine jw_iconst dX6_readPattern_19 (v := (0 : Int32)) (by decide) ?_
  obtain ⟨h3, eh3, hq⟩ := Option.bind_eq_some_iff.mp hq
  refine jw_putI (o := (some x0)) dX6_readPattern_20 eh3 fl_X6_174 rfl rfl ?_
  refine jw_aload_n dX6_readPattern_23 (o := (some x0)) rfl ?_
  refine jw_iconst dX6_readPattern_24 (v := (0 : Int32)) (by decide) ?_
  obtain ⟨h4, eh4, hq⟩ := Option.bind_eq_some_iff.mp hq
  refine jw_putI (o := (some x0)) dX6_readPattern_25 eh4 fl_X6_168 rfl rfl ?_
  refine jw_aload_n dX6_readPattern_28 (o := (some x0)) rfl ?_
  refine jw_bipush dX6_readPattern_29 (v := (94 : Int32)) (by decide) ?_
  obtain ⟨a5, ea5, hq⟩ := Option.bind_eq_some_iff.mp hq
  obtain ⟨eoa5, eta5⟩ := jw_rc_spec ea5
  obtain ⟨w7, h6, ew7, hq⟩ := jw_b2_spec hq
  refine jw_callV (As := [.int (94 : Int32)]) (S := []) (a := a5) (v := some (.int w7)) dX6_readPattern_31 mt_X6_pass in_X6_pass se_X6_pass lk_X6_72 (c_X6_pass ew7) eta5 (by decide) rfl rfl (by decide) (Nat.le_of_ble_eq_true rfl) (by cases eoa5; rfl) ?_
  rcases jw_if hq with ⟨c8, hq⟩ | ⟨c8, hq⟩
  · refine jw_if_eq_t (tgt := 43) dX6_readPattern_34 (by decide) c8 ?_
    exact l_X6_readPattern_b43  hq
  · refine jw_if_eq_f (tgt := 43) dX6_readPattern_34 (by decide) c8 ?_
    refine jw_aload_n dX6_readPattern_37 (o := (some x0)) rfl ?_
    refine jw_iconst dX6_readPattern_38 (v := (5 : Int32)) (by decide) ?_
    refine jw_lconst dX6_readPattern_39 (v := (0 : Int64)) (by decide) ?_
    obtain ⟨a9, ea9, hq⟩ := Option.bind_eq_some_iff.mp hq
    obtain ⟨eoa9, eta9⟩ := jw_rc_spec ea9
    obtain ⟨w11, h10, ew11, hq⟩ := jw_b2_spec hq
    refine jw_callV (As := [.int (5 : Int32), .long (0 : Int64)]) (S := []) (a := a9) (v := none) dX6_readPattern_40 mt_X6_addElement in_X6_addElement se_X6_addElement lk_X6_177 (c_X6_addElement ew11) eta9 (by decide) rfl rfl (by decide) (Nat.le_of_ble_eq_true rfl) (by cases eoa9; rfl) ?_
    exact l_X6_readPattern_b43  hq

theorem c_X6_readPattern {h : jw_H} {x0 : Nat} {r : Int32} {h' : jw_H} (hq : f_X6_readPattern h x0 = some (r, h')) : jw_Con (Cond.code yX6_readPattern cX6_readPattern 9 (some .int)) yX6_readPattern 2 [.ref x0] h (.inl (some (.int r))) h' :=
  jw_con false (plainFor_of_name (by decide +kernel)) (fun z => nomatch z) (by simp [jw_ent, jw_sl0_nil, jw_sl0_int, jw_sl0_long, jw_sl0_ref, jw_sl0_rf, jw_sl0_scr, List.replicate]) (by simp [jw_sl0_nil, jw_sl0_int, jw_sl0_long, jw_sl0_ref, jw_sl0_rf, jw_sl0_scr]) (l_X6_readPattern hq)


/-! X6_readAddress -/
noncomputable def g_X6_readAddress_b214 (k132 : jw_H → Nat → Option Nat → Int32 → Option (Int32 × jw_H)) (h : jw_H) (x0 : Nat) (x1 : Option Nat) (x3 : Int32) (t0 : Option Nat) (t1 : Int32) (t2 : Int32) : Option (Int32 × jw_H) :=
 (jw_pI h 0 t0 2 (t1 + t2)).bind fun h1 =>
 (jw_pB h1 0 x1 3 (1 : Int32)).bind fun h2 =>
 k132 h2 x0 x1 (x3 + (1 : Int32))

noncomputable def g_X6_readAddress_b170 (k132 : jw_H → Nat → Option Nat → Int32 → Option (Int32 × jw_H)) (h : jw_H) (x0 : Nat) (x1 : Option Nat) (x3 : Int32) (t0 : Int32) : Option (Int32 × jw_H) :=
 (jw_gI h 6 (some x0) 5).bind fun v1 =>
 (jw_pI h 6 (some x0) 5 (v1 + (1 : Int32))).bind fun h2 =>
 (jw_rc h2 6 (some x0)).bind fun a3 =>
 jw_b2 (f_X6_readNumber h2 a3) fun w5 h4 =>
 if w5 = (-1 : Int32) then (some ((0 : Int32), h4))
 else ((jw_gI h4 0 x1 2).bind fun v7 =>
 if t0 = 0 then (g_X6_readAddress_b214 k132 h4 x0 x1 x3 x1 v7 w5)
 else (g_X6_readAddress_b214 k132 h4 x0 x1 x3 x1 v7 (-w5)))

noncomputable def g_X6_readAddress_b156 (k132 : jw_H → Nat → Option Nat → Int32 → Option (Int32 × jw_H)) (h : jw_H) (x0 : Nat) (x1 : Option Nat) (x3 : Int32) : Option (Int32 × jw_H) :=
 (jw_rc h 6 (some x0)).bind fun a1 =>
 jw_b2 (f_X6_peek h a1) fun w3 h2 =>
 if w3 = (45 : Int32) then (g_X6_readAddress_b170 k132 h2 x0 x1 x3 (1 : Int32))
 else (g_X6_readAddress_b170 k132 h2 x0 x1 x3 (0 : Int32))

noncomputable def g_X6_readAddress_b132 (k132 : jw_H → Nat → Option Nat → Int32 → Option (Int32 × jw_H)) (h : jw_H) (x0 : Nat) (x1 : Option Nat) (x3 : Int32) : Option (Int32 × jw_H) :=
 if (60 : Int32) ≤ x3 then (some ((1 : Int32), h))
 else ((jw_rc h 6 (some x0)).bind fun a2 =>
 jw_b2 (f_X6_peek h a2) fun w4 h3 =>
 if w4 = (43 : Int32) then (g_X6_readAddress_b156 k132 h3 x0 x1 x3)
 else ((jw_rc h3 6 (some x0)).bind fun a6 =>
 jw_b2 (f_X6_peek h3 a6) fun w8 h7 =>
 if w8 = (45 : Int32) then (g_X6_readAddress_b156 k132 h7 x0 x1 x3)
 else (some ((1 : Int32), h7))))

noncomputable def f_X6_readAddress_b132 (n : Nat) : jw_H → Nat → Option Nat → Int32 → Option (Int32 × jw_H) :=
 Nat.rec (fun _ _ _ _ => none) (fun _ k132 => g_X6_readAddress_b132 k132) n

noncomputable def g_X6_readAddress_b130 (h : jw_H) (x0 : Nat) (x1 : Option Nat) : Option (Int32 × jw_H) :=
 f_X6_readAddress_b132  jw_FU h x0 x1 (0 : Int32)

noncomputable def g_X6_readAddress_b120 (h : jw_H) (x0 : Nat) (x1 : Option Nat) (x2 : Int32) : Option (Int32 × jw_H) :=
 (jw_rc h 6 (some x0)).bind fun a1 =>
 jw_b2 (f_X6_pass h a1 x2) fun w3 h2 =>
 if w3 = 0 then (some ((0 : Int32), h2))
 else (g_X6_readAddress_b130  h2 x0 x1)

noncomputable def g_X6_readAddress_b100 (h : jw_H) (x0 : Nat) (x1 : Option Nat) (x2 : Int32) : Option (Int32 × jw_H) :=
 (jw_gI h 0 x1 1).bind fun v1 =>
 if v1 = (-1 : Int32) then (some ((0 : Int32), h))
 else (if x2 = (47 : Int32) then (g_X6_readAddress_b120  h x0 x1 x2)
 else (if x2 = (63 : Int32) then (g_X6_readAddress_b120  h x0 x1 x2)
 else (g_X6_readAddress_b130  h x0 x1)))

noncomputable def g_X6_readAddress_b92 (h : jw_H) (x0 : Nat) (x1 : Option Nat) (x2 : Int32) : Option (Int32 × jw_H) :=
 (jw_rc h 6 (some x0)).bind fun a1 =>
 jw_b2 (f_X6_readPattern h a1) fun w3 h2 =>
 (jw_pI h2 0 x1 1 w3).bind fun h4 =>
 g_X6_readAddress_b100  h4 x0 x1 x2

noncomputable def g_X6_readAddress_b59 (h : jw_H) (x0 : Nat) (x1 : Option Nat) (x2 : Int32) : Option (Int32 × jw_H) :=
 if x2 = (39 : Int32) then ((jw_rc h 6 (some x0)).bind fun a4 =>
 jw_b2 (f_X6_readFrom h a4 (97 : Int32) (101 : Int32)) fun w6 h5 =>
 (jw_pI h5 0 x1 1 w6).bind fun h7 =>
 g_X6_readAddress_b100  h7 x0 x1 x2)
 else (if x2 = (47 : Int32) then (g_X6_readAddress_b92  h x0 x1 x2)
 else (if x2 = (63 : Int32) then (g_X6_readAddress_b92  h x0 x1 x2)
 else (g_X6_readAddress_b100  h x0 x1 x2)))

noncomputable def g_X6_readAddress_b49 (h : jw_H) (x0 : Nat) (x1 : Option Nat) (x2 : Int32) : Option (Int32 × jw_H) :=
 (jw_gI h 6 (some x0) 5).bind fun v1 =>
 (jw_pI h 6 (some x0) 5 (v1 + (1 : Int32))).bind fun h2 =>
 g_X6_readAddress_b59  h2 x0 x1 x2

noncomputable def f_X6_readAddress (h : jw_H) (x0 : Nat) (x1 : Option Nat) : Option (Int32 × jw_H) :=
 (jw_rc h 6 (some x0)).bind fun a1 =>
 jw_b2 (f_X6_peek h a1) fun w3 h2 =>
 (jw_rc h2 6 (some x0)).bind fun a4 =>
 jw_b2 (f_X6_beginsAddress h2 a4 w3) fun w6 h5 =>
 if w6 = 0 then (some ((0 : Int32), h5))
 else ((jw_pI h5 0 x1 0 w3).bind fun h8 =>
 if w3 < (48 : Int32) then (g_X6_readAddress_b49  h8 x0 x1 w3)
 else (if (57 : Int32) < w3 then (g_X6_readAddress_b49  h8 x0 x1 w3)
 else ((jw_pI h8 0 x1 0 (48 : Int32)).bind fun h11 =>
 (jw_rc h11 6 (some x0)).bind fun a12 =>
 jw_b2 (f_X6_readNumber h11 a12) fun w14 h13 =>
 (jw_pI h13 0 x1 1 w14).bind fun h15 =>
 g_X6_readAddress_b59  h15 x0 x1 w3)))

set_option maxRecDepth 100000 in
set_option maxHeartbeats 4000000 in
theorem l_X6_readAddress_b214 {hi : jw_H} {k132 : jw_H → Nat → Option Nat → Int32 → Option (Int32 × jw_H)} (hk132 : ∀ (h : jw_H) (x0 : Nat) (x1 : Option Nat) (x3 : Int32) (r : Int32) (h' : jw_H), k132 h x0 x1 x3 = some (r, h') → jw_E 3 uX6_readAddress hi 132 [some (.ref x0), some (va_rf x1), none, some (.int x3), none, none] [] h (.inl (some (.int r))) h') {h : jw_H} {x0 : Nat} {x1 : Option Nat} {x3 : Int32} {t0 : Option Nat} {t1 : Int32} {t2 : Int32} {r : Int32} {h' : jw_H} (hq : g_X6_readAddress_b214 k132 h x0 x1 x3 t0 t1 t2 = some (r, h')) : jw_E 3 uX6_readAddress hi 214 [some (.ref x0), some (va_rf x1), none, some (.int x3), none, none] [.int t2, .int t1, va_rf t0] h (.inl (some (.int r))) h' := by
  unfold g_X6_readAddress_b214 at hq
  refine jw_iadd dX6_readAddress_214 ?_
  obtain ⟨h1, eh1, hq⟩ := Option.bind_eq_some_iff.mp hq
  refine jw_putI (o := t0) dX6_readAddress_215 eh1 fl_X6_124 rfl rfl ?_
  refine jw_aload_n dX6_readAddress_218 (o := x1) rfl ?_
  refine jw_iconst dX6_readAddress_219 (v := (1 : Int32)) (by decide) ?_
  obtain ⟨h2, eh2, hq⟩ := Option.bind_eq_some_iff.mp hq
  refine jw_putB (o := x1) dX6_readAddress_220 eh2 fl_X6_127 rfl rfl ?_
  refine jw_iinc (L' := [some (.ref x0), some (va_rf x1), none, some (.int (x3 + (1 : Int32))), none, none]) dX6_readAddress_223 rfl (v := (1 : Int32)) (by decide) (Nat.le_of_ble_eq_true rfl) rfl ?_
  refine jw_goto (tgt := 132) dX6_readAddress_226 (by decide) ?_
  exact hk132 _ _ _ _ _ _ hq

set_option maxRecDepth 100000 in
set_option maxHeartbeats 4000000 in
theorem l_X6_readAddress_b170 {hi : jw_H} {k132 : jw_H → Nat → Option Nat → Int32 → Option (Int32 × jw_H)} (hk132 : ∀ (h : jw_H) (x0 : Nat) (x1 : Option Nat) (x3 : Int32) (r : Int32) (h' : jw_H), k132 h x0 x1 x3 = some (r, h') → jw_E 3 uX6_readAddress hi 132 [some (.ref x0), some (va_rf x1), none, some (.int x3), none, none] [] h (.inl (some (.int r))) h') {h : jw_H} {x0 : Nat} {x1 : Option Nat} {x3 : Int32} {t0 : Int32} {r : Int32} {h' : jw_H} (hq : g_X6_readAddress_b170 k132 h x0 x1 x3 t0 = some (r, h')) : jw_E 3 uX6_readAddress hi 170 [some (.ref x0), some (va_rf x1), none, some (.int x3), none, none] [.int t0] h (.inl (some (.int r))) h' := by
  unfold g_X6_readAddress_b170 at hq
  refine jw_istore (L' := [some (.ref x0), some (va_rf x1), none, some (.int x3), some (.int t0), none]) dX6_readAddress_170 (Nat.le_of_ble_eq_true rfl) rfl ?_
  refine jw_aload_n dX6_readAddress_172 (o := (some x0)) rfl ?_
  refine jw_dup dX6_readAddress_173 rfl ?_
  obtain ⟨v1, ev1, hq⟩ := Option.bind_eq_some_iff.mp hq
  refine jw_getI (o := (some x0)) dX6_readAddress_174 ev1 fl_X6_43 rfl ?_
  refine jw_iconst dX6_readAddress_177 (v := (1 : Int32)) (by decide) ?_
  refine jw_iadd dX6_readAddress_178 ?_
  obtain ⟨h2, eh2, hq⟩ := Option.bind_eq_some_iff.mp hq
  refine jw_putI (o := (some x0)) dX6_readAddress_179 eh2 fl_X6_43 rfl rfl ?_
  refine jw_aload_n dX6_readAddress_182 (o := (some x0)) rfl ?_
  obtain ⟨a3, ea3, hq⟩ := Option.bind_eq_some_iff.mp hq
  obtain ⟨eoa3, eta3⟩ := jw_rc_spec ea3
  obtain ⟨w5, h4, ew5, hq⟩ := jw_b2_spec hq
  refine jw_callV (As := []) (S := []) (a := a3) (v := some (.int w5)) dX6_readAddress_183 mt_X6_readNumber in_X6_readNumber se_X6_readNumber lk_X6_115 (c_X6_readNumber ew5) eta3 (by decide) rfl rfl (by decide) (Nat.le_of_ble_eq_true rfl) (by cases eoa3; rfl) ?_
  refine jw_istore (L' := [some (.ref x0), some (va_rf x1), none, some (.int x3), some (.int t0), some (.int w5)]) dX6_readAddress_186 (Nat.le_of_ble_eq_true rfl) rfl ?_
  refine jw_iload dX6_readAddress_188 rfl ?_
  refine jw_iconst dX6_readAddress_190 (v := (-1 : Int32)) (by decide) ?_
  rcases jw_if hq with ⟨c6, hq⟩ | ⟨c6, hq⟩
  · refine jw_icmp_ne_f (tgt := 196) dX6_readAddress_191 (by decide) c6 ?_
    refine jw_iconst dX6_readAddress_194 (v := (0 : Int32)) (by decide) ?_
    cases hq
    exact jw_iret (ty := .boolean) dX6_readAddress_195 rfl rfl
  · refine jw_icmp_ne_t (tgt := 196) dX6_readAddress_191 (by decide) c6 ?_
    refine jw_aload_n dX6_readAddress_196 (o := x1) rfl ?_
    refine jw_dup dX6_readAddress_197 jw_cat_rf ?_
    obtain ⟨v7, ev7, hq⟩ := Option.bind_eq_some_iff.mp hq
    refine jw_getI (o := x1) dX6_readAddress_198 ev7 fl_X6_124 rfl ?_
    refine jw_iload dX6_readAddress_201 rfl ?_
    rcases jw_if hq with ⟨c8, hq⟩ | ⟨c8, hq⟩
    · refine jw_if_eq_t (tgt := 212) dX6_readAddress_203 (by decide) c8 ?_
      refine jw_iload dX6_readAddress_212 rfl ?_
      refine jw_forget [true, true, true, true, false, false] (L' := [some (.ref x0), some (va_rf x1), none, some (.int x3), none, none]) rfl ?_
      exact l_X6_readAddress_b214 hk132 hq
    · refine jw_if_eq_f (tgt := 212) dX6_readAddress_203 (by decide) c8 ?_
      refine jw_iload dX6_readAddress_206 rfl ?_
      refine jw_ineg dX6_readAddress_208 ?_
      refine jw_goto (tgt := 214) dX6_readAddress_209 (by decide) ?_
      refine jw_forget [true, true, true, true, false, false] (L' := [some (.ref x0), some (va_rf x1), none, some (.int x3), none, none]) rfl ?_
      exact l_X6_readAddress_b214 hk132 hq

set_option maxRecDepth 100000 in
set_option maxHeartbeats 4000000 in
theorem l_X6_readAddress_b156 {hi : jw_H} {k132 : jw_H → Nat → Option Nat → Int32 → Option (Int32 × jw_H)} (hk132 : ∀ (h : jw_H) (x0 : Nat) (x1 : Option Nat) (x3 : Int32) (r : Int32) (h' : jw_H), k132 h x0 x1 x3 = some (r, h') → jw_E 3 uX6_readAddress hi 132 [some (.ref x0), some (va_rf x1), none, some (.int x3), none, none] [] h (.inl (some (.int r))) h') {h : jw_H} {x0 : Nat} {x1 : Option Nat} {x3 : Int32} {r : Int32} {h' : jw_H} (hq : g_X6_readAddress_b156 k132 h x0 x1 x3 = some (r, h')) : jw_E 3 uX6_readAddress hi 156 [some (.ref x0), some (va_rf x1), none, some (.int x3), none, none] [] h (.inl (some (.int r))) h' := by
  unfold g_X6_readAddress_b156 at hq
  refine jw_aload_n dX6_readAddress_156 (o := (some x0)) rfl ?_
  obtain ⟨a1, ea1, hq⟩ := Option.bind_eq_some_iff.mp hq
  obtain ⟨eoa1, eta1⟩ := jw_rc_spec ea1
  obtain ⟨w3, h2, ew3, hq⟩ := jw_b2_spec hq
  refine jw_callV (As := []) (S := []) (a := a1) (v := some (.int w3)) dX6_readAddress_157 mt_X6_peek in_X6_peek se_X6_peek lk_X6_93 (c_X6_peek ew3) eta1 (by decide) rfl rfl (by decide) (Nat.le_of_ble_eq_true rfl) (by cases eoa1; rfl) ?_
  refine jw_bipush dX6_readAddress_160 (v := (45 : Int32)) (by decide) ?_
  rcases jw_if hq with ⟨c4, hq⟩ | ⟨c4, hq⟩
  · refine jw_icmp_ne_f (tgt := 169) dX6_readAddress_162 (by decide) c4 ?_
    refine jw_iconst dX6_readAddress_165 (v := (1 : Int32)) (by decide) ?_
    refine jw_goto (tgt := 170) dX6_readAddress_166 (by decide) ?_
    exact l_X6_readAddress_b170 hk132 hq
  · refine jw_icmp_ne_t (tgt := 169) dX6_readAddress_162 (by decide) c4 ?_
    refine jw_iconst dX6_readAddress_169 (v := (0 : Int32)) (by decide) ?_
    exact l_X6_readAddress_b170 hk132 hq

set_option maxRecDepth 100000 in
set_option maxHeartbeats 4000000 in
theorem l_X6_readAddress_b132g {hi : jw_H} {k132 : jw_H → Nat → Option Nat → Int32 → Option (Int32 × jw_H)} (hk132 : ∀ (h : jw_H) (x0 : Nat) (x1 : Option Nat) (x3 : Int32) (r : Int32) (h' : jw_H), k132 h x0 x1 x3 = some (r, h') → jw_E 3 uX6_readAddress hi 132 [some (.ref x0), some (va_rf x1), none, some (.int x3), none, none] [] h (.inl (some (.int r))) h') {h : jw_H} {x0 : Nat} {x1 : Option Nat} {x3 : Int32} {r : Int32} {h' : jw_H} (hq : g_X6_readAddress_b132 k132 h x0 x1 x3 = some (r, h')) : jw_E 3 uX6_readAddress hi 132 [some (.ref x0), some (va_rf x1), none, some (.int x3), none, none] [] h (.inl (some (.int r))) h' := by
  unfold g_X6_readAddress_b132 at hq
  refine jw_iload_n dX6_readAddress_132 rfl ?_
  refine jw_bipush dX6_readAddress_133 (v := (60 : Int32)) (by decide) ?_
  rcases jw_if hq with ⟨c1, hq⟩ | ⟨c1, hq⟩
  · refine jw_icmp_ge_t (tgt := 229) dX6_readAddress_135 (by decide) c1 ?_
    refine jw_iconst dX6_readAddress_229 (v := (1 : Int32)) (by decide) ?_
    cases hq
    exact jw_iret (ty := .boolean) dX6_readAddress_230 rfl rfl
  · refine jw_icmp_ge_f (tgt := 229) dX6_readAddress_135 (by decide) c1 ?_
    refine jw_aload_n dX6_readAddress_138 (o := (some x0)) rfl ?_
    obtain ⟨a2, ea2, hq⟩ := Option.bind_eq_some_iff.mp hq
    obtain ⟨eoa2, eta2⟩ := jw_rc_spec ea2
    obtain ⟨w4, h3, ew4, hq⟩ := jw_b2_spec hq
    refine jw_callV (As := []) (S := []) (a := a2) (v := some (.int w4)) dX6_readAddress_139 mt_X6_peek in_X6_peek se_X6_peek lk_X6_93 (c_X6_peek ew4) eta2 (by decide) rfl rfl (by decide) (Nat.le_of_ble_eq_true rfl) (by cases eoa2; rfl) ?_
    refine jw_bipush dX6_readAddress_142 (v := (43 : Int32)) (by decide) ?_
    rcases jw_if hq with ⟨c5, hq⟩ | ⟨c5, hq⟩
    · refine jw_icmp_eq_t (tgt := 156) dX6_readAddress_144 (by decide) c5 ?_
      exact l_X6_readAddress_b156 hk132 hq
    · refine jw_icmp_eq_f (tgt := 156) dX6_readAddress_144 (by decide) c5 ?_
      refine jw_aload_n dX6_readAddress_147 (o := (some x0)) rfl ?_
      obtain ⟨a6, ea6, hq⟩ := Option.bind_eq_some_iff.mp hq
      obtain ⟨eoa6, eta6⟩ := jw_rc_spec ea6
      obtain ⟨w8, h7, ew8, hq⟩ := jw_b2_spec hq
      refine jw_callV (As := []) (S := []) (a := a6) (v := some (.int w8)) dX6_readAddress_148 mt_X6_peek in_X6_peek se_X6_peek lk_X6_93 (c_X6_peek ew8) eta6 (by decide) rfl rfl (by decide) (Nat.le_of_ble_eq_true rfl) (by cases eoa6; rfl) ?_
      refine jw_bipush dX6_readAddress_151 (v := (45 : Int32)) (by decide) ?_
      rcases jw_if hq with ⟨c9, hq⟩ | ⟨c9, hq⟩
      · refine jw_icmp_ne_f (tgt := 229) dX6_readAddress_153 (by decide) c9 ?_
        exact l_X6_readAddress_b156 hk132 hq
      · refine jw_icmp_ne_t (tgt := 229) dX6_readAddress_153 (by decide) c9 ?_
        refine jw_iconst dX6_readAddress_229 (v := (1 : Int32)) (by decide) ?_
        cases hq
        exact jw_iret (ty := .boolean) dX6_readAddress_230 rfl rfl

theorem l_X6_readAddress_b132 {hi : jw_H} : ∀ (n : Nat) (h : jw_H) (x0 : Nat) (x1 : Option Nat) (x3 : Int32) (r : Int32) (h' : jw_H), f_X6_readAddress_b132  n h x0 x1 x3 = some (r, h') → jw_E 3 uX6_readAddress hi 132 [some (.ref x0), some (va_rf x1), none, some (.int x3), none, none] [] h (.inl (some (.int r))) h' := by
  intro n
  induction n with
  | zero => intro h x0 x1 x3 r h' hq; exact nomatch hq
  | succ n ih => intro h x0 x1 x3 r h' hq; exact l_X6_readAddress_b132g ih hq

set_option maxRecDepth 100000 in
set_option maxHeartbeats 4000000 in
theorem l_X6_readAddress_b130 {hi : jw_H} {h : jw_H} {x0 : Nat} {x1 : Option Nat} {r : Int32} {h' : jw_H} (hq : g_X6_readAddress_b130  h x0 x1 = some (r, h')) : jw_E 3 uX6_readAddress hi 130 [some (.ref x0), some (va_rf x1), none, none, none, none] [] h (.inl (some (.int r))) h' := by
  unfold g_X6_readAddress_b130 at hq
  refine jw_iconst dX6_readAddress_130 (v := (0 : Int32)) (by decide) ?_
  refine jw_istore_n (L' := [some (.ref x0), some (va_rf x1), none, some (.int (0 : Int32)), none, none]) dX6_readAddress_131 (Nat.le_of_ble_eq_true rfl) rfl ?_
  exact l_X6_readAddress_b132  jw_FU _ _ _ _ _ _ hq

set_option maxRecDepth 100000 in
set_option maxHeartbeats 4000000 in
theorem l_X6_readAddress_b120 {hi : jw_H} {h : jw_H} {x0 : Nat} {x1 : Option Nat} {x2 : Int32} {r : Int32} {h' : jw_H} (hq : g_X6_readAddress_b120  h x0 x1 x2 = some (r, h')) : jw_E 3 uX6_readAddress hi 120 [some (.ref x0), some (va_rf x1), some (.int x2), none, none, none] [] h (.inl (some (.int r))) h' := by
  unfold g_X6_readAddress_b120 at hq
  refine jw_aload_n dX6_readAddress_120 (o := (some x0)) rfl ?_
  refine jw_iload_n dX6_readAddress_121 rfl ?_
  obtain ⟨a1, ea1, hq⟩ := Option.bind_eq_some_iff.mp hq
  obtain ⟨eoa1, eta1⟩ := jw_rc_spec ea1
  obtain ⟨w3, h2, ew3, hq⟩ := jw_b2_spec hq
  refine jw_callV (As := [.int x2]) (S := []) (a := a1) (v := some (.int w3)) dX6_readAddress_122 mt_X6_pass in_X6_pass se_X6_pass lk_X6_72 (c_X6_pass ew3) eta1 (by decide) rfl rfl (by decide) (Nat.le_of_ble_eq_true rfl) (by cases eoa1; rfl) ?_
  rcases jw_if hq with ⟨c4, hq⟩ | ⟨c4, hq⟩
  · refine jw_if_ne_f (tgt := 130) dX6_readAddress_125 (by decide) c4 ?_
    refine jw_iconst dX6_readAddress_128 (v := (0 : Int32)) (by decide) ?_
    cases hq
    exact jw_iret (ty := .boolean) dX6_readAddress_129 rfl rfl
  · refine jw_if_ne_t (tgt := 130) dX6_readAddress_125 (by decide) c4 ?_
    refine jw_forget [true, true, false, true, true, true] (L' := [some (.ref x0), some (va_rf x1), none, none, none, none]) rfl ?_
    exact l_X6_readAddress_b130  hq

set_option maxRecDepth 100000 in
set_option maxHeartbeats 4000000 in
theorem l_X6_readAddress_b100 {hi : jw_H} {h : jw_H} {x0 : Nat} {x1 : Option Nat} {x2 : Int32} {r : Int32} {h' : jw_H} (hq : g_X6_readAddress_b100  h x0 x1 x2 = some (r, h')) : jw_E 3 uX6_readAddress hi 100 [some (.ref x0), some (va_rf x1), some (.int x2), none, none, none] [] h (.inl (some (.int r))) h' := by
  unfold g_X6_readAddress_b100 at hq
  refine jw_aload_n dX6_readAddress_100 (o := x1) rfl ?_
  obtain ⟨v1, ev1, hq⟩ := Option.bind_eq_some_iff.mp hq
  refine jw_getI (o := x1) dX6_readAddress_101 ev1 fl_X6_118 rfl ?_
  refine jw_iconst dX6_readAddress_104 (v := (-1 : Int32)) (by decide) ?_
  rcases jw_if hq with ⟨c2, hq⟩ | ⟨c2, hq⟩
  · refine jw_icmp_eq_t (tgt := 128) dX6_readAddress_105 (by decide) c2 ?_
    refine jw_iconst dX6_readAddress_128 (v := (0 : Int32)) (by decide) ?_
    cases hq
    exact jw_iret (ty := .boolean) dX6_readAddress_129 rfl rfl
  · refine jw_icmp_eq_f (tgt := 128) dX6_readAddress_105 (by decide) c2 ?_
    refine jw_iload_n dX6_readAddress_108 rfl ?_
    refine jw_bipush dX6_readAddress_109 (v := (47 : Int32)) (by decide) ?_
    rcases jw_if hq with ⟨c3, hq⟩ | ⟨c3, hq⟩
    · refine jw_icmp_eq_t (tgt := 120) dX6_readAddress_111 (by decide) c3 ?_
      exact l_X6_readAddress_b120  hq
    · refine jw_icmp_eq_f (tgt := 120) dX6_readAddress_111 (by decide) c3 ?_
      refine jw_iload_n dX6_readAddress_114 rfl ?_
      refine jw_bipush dX6_readAddress_115 (v := (63 : Int32)) (by decide) ?_
      rcases jw_if hq with ⟨c4, hq⟩ | ⟨c4, hq⟩
      · refine jw_icmp_ne_f (tgt := 130) dX6_readAddress_117 (by decide) c4 ?_
        exact l_X6_readAddress_b120  hq
      · refine jw_icmp_ne_t (tgt := 130) dX6_readAddress_117 (by decide) c4 ?_
        refine jw_forget [true, true, false, true, true, true] (L' := [some (.ref x0), some (va_rf x1), none, none, none, none]) rfl ?_
        exact l_X6_readAddress_b130  hq

set_option maxRecDepth 100000 in
set_option maxHeartbeats 4000000 in
theorem l_X6_readAddress_b92 {hi : jw_H} {h : jw_H} {x0 : Nat} {x1 : Option Nat} {x2 : Int32} {r : Int32} {h' : jw_H} (hq : g_X6_readAddress_b92  h x0 x1 x2 = some (r, h')) : jw_E 3 uX6_readAddress hi 92 [some (.ref x0), some (va_rf x1), some (.int x2), none, none, none] [] h (.inl (some (.int r))) h' := by
  unfold g_X6_readAddress_b92 at hq
  refine jw_aload_n dX6_readAddress_92 (o := x1) rfl ?_
  refine jw_aload_n dX6_readAddress_93 (o := (some x0)) rfl ?_
  obtain ⟨a1, ea1, hq⟩ := Option.bind_eq_some_iff.mp hq
  obtain ⟨eoa1, eta1⟩ := jw_rc_spec ea1
  obtain ⟨w3, h2, ew3, hq⟩ := jw_b2_spec hq
  refine jw_callV (As := []) (S := [va_rf x1]) (a := a1) (v := some (.int w3)) dX6_readAddress_94 mt_X6_readPattern in_X6_readPattern se_X6_readPattern lk_X6_53 (c_X6_readPattern ew3) eta1 (by decide) rfl rfl (by decide) (by simp only [List.map_cons, List.map_nil, List.sum_cons, List.sum_nil, jw_cat_rf, jw_cat_i, jw_cat_l, jw_cat_a, jw_cat_s] <;> decide) (by cases eoa1; rfl) ?_
  obtain ⟨h4, eh4, hq⟩ := Option.bind_eq_some_iff.mp hq
  refine jw_putI (o := x1) dX6_readAddress_97 eh4 fl_X6_118 rfl rfl ?_
  exact l_X6_readAddress_b100  hq

set_option maxRecDepth 100000 in
set_option maxHeartbeats 4000000 in
theorem l_X6_readAddress_b59 {hi : jw_H} {h : jw_H} {x0 : Nat} {x1 : Option Nat} {x2 : Int32} {r : Int32} {h' : jw_H} (hq : g_X6_readAddress_b59  h x0 x1 x2 = some (r, h')) : jw_E 3 uX6_readAddress hi 59 [some (.ref x0), some (va_rf x1), some (.int x2), none, none, none] [] h (.inl (some (.int r))) h' := by
  unfold g_X6_readAddress_b59 at hq
  refine jw_iload_n dX6_readAddress_59 rfl ?_
  refine jw_bipush dX6_readAddress_60 (v := (39 : Int32)) (by decide) ?_
  rcases jw_if hq with ⟨c1, hq⟩ | ⟨c1, hq⟩
  · refine jw_icmp_ne_f (tgt := 80) dX6_readAddress_62 (by decide) c1 ?_
    refine jw_aload_n dX6_readAddress_65 (o := x1) rfl ?_
    refine jw_aload_n dX6_readAddress_66 (o := (some x0)) rfl ?_
    refine jw_bipush dX6_readAddress_67 (v := (97 : Int32)) (by decide) ?_
    refine jw_bipush dX6_readAddress_69 (v := (101 : Int32)) (by decide) ?_
    obtain ⟨a4, ea4, hq⟩ := Option.bind_eq_some_iff.mp hq
    obtain ⟨eoa4, eta4⟩ := jw_rc_spec ea4
    obtain ⟨w6, h5, ew6, hq⟩ := jw_b2_spec hq
    refine jw_callV (As := [.int (97 : Int32), .int (101 : Int32)]) (S := [va_rf x1]) (a := a4) (v := some (.int w6)) dX6_readAddress_71 mt_X6_readFrom in_X6_readFrom se_X6_readFrom lk_X6_121 (c_X6_readFrom ew6) eta4 (by decide) rfl rfl (by decide) (by simp only [List.map_cons, List.map_nil, List.sum_cons, List.sum_nil, jw_cat_rf, jw_cat_i, jw_cat_l, jw_cat_a, jw_cat_s] <;> decide) (by cases eoa4; rfl) ?_
    obtain ⟨h7, eh7, hq⟩ := Option.bind_eq_some_iff.mp hq
    refine jw_putI (o := x1) dX6_readAddress_74 eh7 fl_X6_118 rfl rfl ?_
    refine jw_goto (tgt := 100) dX6_readAddress_77 (by decide) ?_
    exact l_X6_readAddress_b100  hq
  · refine jw_icmp_ne_t (tgt := 80) dX6_readAddress_62 (by decide) c1 ?_
    refine jw_iload_n dX6_readAddress_80 rfl ?_
    refine jw_bipush dX6_readAddress_81 (v := (47 : Int32)) (by decide) ?_
    rcases jw_if hq with ⟨c2, hq⟩ | ⟨c2, hq⟩
    · refine jw_icmp_eq_t (tgt := 92) dX6_readAddress_83 (by decide) c2 ?_
      exact l_X6_readAddress_b92  hq
    · refine jw_icmp_eq_f (tgt := 92) dX6_readAddress_83 (by decide) c2 ?_
      refine jw_iload_n dX6_readAddress_86 rfl ?_
      refine jw_bipush dX6_readAddress_87 (v := (63 : Int32)) (by decide) ?_
      rcases jw_if hq with ⟨c3, hq⟩ | ⟨c3, hq⟩
      · refine jw_icmp_ne_f (tgt := 100) dX6_readAddress_89 (by decide) c3 ?_
        exact l_X6_readAddress_b92  hq
      · refine jw_icmp_ne_t (tgt := 100) dX6_readAddress_89 (by decide) c3 ?_
        exact l_X6_readAddress_b100  hq

set_option maxRecDepth 100000 in
set_option maxHeartbeats 4000000 in
theorem l_X6_readAddress_b49 {hi : jw_H} {h : jw_H} {x0 : Nat} {x1 : Option Nat} {x2 : Int32} {r : Int32} {h' : jw_H} (hq : g_X6_readAddress_b49  h x0 x1 x2 = some (r, h')) : jw_E 3 uX6_readAddress hi 49 [some (.ref x0), some (va_rf x1), some (.int x2), none, none, none] [] h (.inl (some (.int r))) h' := by
  unfold g_X6_readAddress_b49 at hq
  refine jw_aload_n dX6_readAddress_49 (o := (some x0)) rfl ?_
  refine jw_dup dX6_readAddress_50 rfl ?_
  obtain ⟨v1, ev1, hq⟩ := Option.bind_eq_some_iff.mp hq
  refine jw_getI (o := (some x0)) dX6_readAddress_51 ev1 fl_X6_43 rfl ?_
  refine jw_iconst dX6_readAddress_54 (v := (1 : Int32)) (by decide) ?_
  refine jw_iadd dX6_readAddress_55 ?_
  obtain ⟨h2, eh2, hq⟩ := Option.bind_eq_some_iff.mp hq
  refine jw_putI (o := (some x0)) dX6_readAddress_56 eh2 fl_X6_43 rfl rfl ?_
  exact l_X6_readAddress_b59  hq

set_option maxRecDepth 100000 in
set_option maxHeartbeats 4000000 in
theorem l_X6_readAddress {hi : jw_H} {h : jw_H} {x0 : Nat} {x1 : Option Nat} {r : Int32} {h' : jw_H} (hq : f_X6_readAddress  h x0 x1 = some (r, h')) : jw_E 3 uX6_readAddress hi 0 [some (.ref x0), some (va_rf x1), none, none, none, none] [] h (.inl (some (.int r))) h' := by
  unfold f_X6_readAddress at hq
  refine jw_aload_n dX6_readAddress_0 (o := (some x0)) rfl ?_
  obtain ⟨a1, ea1, hq⟩ := Option.bind_eq_some_iff.mp hq
  obtain ⟨eoa1, eta1⟩ := jw_rc_spec ea1
  obtain ⟨w3, h2, ew3, hq⟩ := jw_b2_spec hq
  refine jw_callV (As := []) (S := []) (a := a1) (v := some (.int w3)) dX6_readAddress_1 mt_X6_peek in_X6_peek se_X6_peek lk_X6_93 (c_X6_peek ew3) eta1 (by decide) rfl rfl (by decide) (Nat.le_of_ble_eq_true rfl) (by cases eoa1; rfl) ?_
  refine jw_istore_n (L' := [some (.ref x0), some (va_rf x1), some (.int w3), none, none, none]) dX6_readAddress_4 (Nat.le_of_ble_eq_true rfl) ((jw_st1_of (j := 1) jw_long_rf).trans rfl) ?_
  refine jw_aload_n dX6_readAddress_5 (o := (some x0)) rfl ?_
  refine jw_iload_n dX6_readAddress_6 rfl ?_
  obtain ⟨a4, ea4, hq⟩ := Option.bind_eq_some_iff.mp hq
  obtain ⟨eoa4, eta4⟩ := jw_rc_spec ea4
  obtain ⟨w6, h5, ew6, hq⟩ := jw_b2_spec hq
  refine jw_callV (As := [.int w3]) (S := []) (a := a4) (v := some (.int w6)) dX6_readAddress_7 mt_X6_beginsAddress in_X6_beginsAddress se_X6_beginsAddress lk_X6_96 (c_X6_beginsAddress ew6) eta4 (by decide) rfl rfl (by decide) (Nat.le_of_ble_eq_true rfl) (by cases eoa4; rfl) ?_
  rcases jw_if hq with ⟨c7, hq⟩ | ⟨c7, hq⟩
  · refine jw_if_ne_f (tgt := 15) dX6_readAddress_10 (by decide) c7 ?_
    refine jw_iconst dX6_readAddress_13 (v := (0 : Int32)) (by decide) ?_
    cases hq
    exact jw_iret (ty := .boolean) dX6_readAddress_14 rfl rfl
  · refine jw_if_ne_t (tgt := 15) dX6_readAddress_10 (by decide) c7 ?_
    refine jw_aload_n dX6_readAddress_15 (o := x1) rfl ?_
    refine jw_iload_n dX6_readAddress_16 rfl ?_
    obtain ⟨h8, eh8, hq⟩ := Option.bind_eq_some_iff.mp hq
    refine jw_putI (o := x1) dX6_readAddress_17 eh8 fl_X6_110 rfl rfl ?_
    refine jw_iload_n dX6_readAddress_20 rfl ?_
    refine jw_bipush dX6_readAddress_21 (v := (48 : Int32)) (by decide) ?_
    rcases jw_if hq with ⟨c9, hq⟩ | ⟨c9, hq⟩
    · refine jw_icmp_lt_t (tgt := 49) dX6_readAddress_23 (by decide) c9 ?_
      exact l_X6_readAddress_b49  hq
    · refine jw_icmp_lt_f (tgt := 49) dX6_readAddress_23 (by decide) c9 ?_
      refine jw_iload_n dX6_readAddress_26 rfl ?_
      refine jw_bipush dX6_readAddress_27 (v := (57 : Int32)) (by decide) ?_
      rcases jw_if hq with ⟨c10, hq⟩ | ⟨c10, hq⟩
      · refine jw_icmp_gt_t (tgt := 49) dX6_readAddress_29 (by decide) c10 ?_
        exact l_X6_readAddress_b49  hq
      · refine jw_icmp_gt_f (tgt := 49) dX6_readAddress_29 (by decide) c10 ?_
        refine jw_aload_n dX6_readAddress_32 (o := x1) rfl ?_
        refine jw_bipush dX6_readAddress_33 (v := (48 : Int32)) (by decide) ?_
        obtain ⟨h11, eh11, hq⟩ := Option.bind_eq_some_iff.mp hq
        refine jw_putI (o := x1) dX6_readAddress_35 eh11 fl_X6_110 rfl rfl ?_
        refine jw_aload_n dX6_readAddress_38 (o := x1) rfl ?_
        refine jw_aload_n dX6_readAddress_39 (o := (some x0)) rfl ?_
        obtain ⟨a12, ea12, hq⟩ := Option.bind_eq_some_iff.mp hq
        obtain ⟨eoa12, eta12⟩ := jw_rc_spec ea12
        obtain ⟨w14, h13, ew14, hq⟩ := jw_b2_spec hq
        refine jw_callV (As := []) (S := [va_rf x1]) (a := a12) (v := some (.int w14)) dX6_readAddress_40 mt_X6_readNumber in_X6_readNumber se_X6_readNumber lk_X6_115 (c_X6_readNumber ew14) eta12 (by decide) rfl rfl (by decide) (by simp only [List.map_cons, List.map_nil, List.sum_cons, List.sum_nil, jw_cat_rf, jw_cat_i, jw_cat_l, jw_cat_a, jw_cat_s] <;> decide) (by cases eoa12; rfl) ?_
        obtain ⟨h15, eh15, hq⟩ := Option.bind_eq_some_iff.mp hq
        refine jw_putI (o := x1) dX6_readAddress_43 eh15 fl_X6_118 rfl rfl ?_
        refine jw_goto (tgt := 59) dX6_readAddress_46 (by decide) ?_
        exact l_X6_readAddress_b59  hq

theorem c_X6_readAddress {h : jw_H} {x0 : Nat} {x1 : Option Nat} {r : Int32} {h' : jw_H} (hq : f_X6_readAddress h x0 x1 = some (r, h')) : jw_Con (Cond.code yX6_readAddress cX6_readAddress 6 (some .boolean)) yX6_readAddress 3 [.ref x0, va_rf x1] h (.inl (some (.int r))) h' :=
  jw_con false (plainFor_of_name (by decide +kernel)) (fun z => nomatch z) (by simp [jw_ent, jw_sl0_nil, jw_sl0_int, jw_sl0_long, jw_sl0_ref, jw_sl0_rf, jw_sl0_scr, List.replicate]) (by simp [jw_sl0_nil, jw_sl0_int, jw_sl0_long, jw_sl0_ref, jw_sl0_rf, jw_sl0_scr]) (l_X6_readAddress hq)


/-! X6_readWhere -/
noncomputable def f_X6_readWhere (h : jw_H) (x0 : Nat) (x1 : Option Nat) : Option (Int32 × jw_H) :=
 (jw_rc h 6 (some x0)).bind fun a1 =>
 jw_b2 (f_X6_pass h a1 (37 : Int32)) fun w3 h2 =>
 if w3 = 0 then ((jw_rc h2 6 (some x0)).bind fun a5 =>
 jw_b2 (f_X6_peek h2 a5) fun w7 h6 =>
 (jw_rc h6 6 (some x0)).bind fun a8 =>
 jw_b2 (f_X6_beginsAddress h6 a8 w7) fun w10 h9 =>
 if w10 = 0 then (some ((1 : Int32), h9))
 else ((jw_pI h9 5 x1 4 (2 : Int32)).bind fun h12 =>
 (jw_gR h12 5 x1 0).bind fun v13 =>
 (jw_rc h12 6 (some x0)).bind fun a14 =>
 jw_b2 (f_X6_readAddress h12 a14 v13) fun w16 h15 =>
 if w16 = 0 then (some ((0 : Int32), h15))
 else ((jw_rc h15 6 (some x0)).bind fun a18 =>
 jw_b2 (f_X6_pass h15 a18 (44 : Int32)) fun w20 h19 =>
 if w20 = 0 then (some ((1 : Int32), h19))
 else ((jw_pI h19 5 x1 4 (3 : Int32)).bind fun h22 =>
 (jw_gR h22 5 x1 1).bind fun v23 =>
 (jw_rc h22 6 (some x0)).bind fun a24 =>
 jw_b2 (f_X6_readAddress h22 a24 v23) fun w26 h25 =>
 (jw_rb w26).bind fun v27 =>
 some (w26, h25)))))
 else ((jw_pI h2 5 x1 4 (1 : Int32)).bind fun h28 =>
 some ((1 : Int32), h28))

set_option maxRecDepth 100000 in
set_option maxHeartbeats 4000000 in
theorem l_X6_readWhere {hi : jw_H} {h : jw_H} {x0 : Nat} {x1 : Option Nat} {r : Int32} {h' : jw_H} (hq : f_X6_readWhere  h x0 x1 = some (r, h')) : jw_E 4 uX6_readWhere hi 0 [some (.ref x0), some (va_rf x1)] [] h (.inl (some (.int r))) h' := by
  unfold f_X6_readWhere at hq
  refine jw_aload_n dX6_readWhere_0 (o := (some x0)) rfl ?_
  refine jw_bipush dX6_readWhere_1 (v := (37 : Int32)) (by decide) ?_
  obtain ⟨a1, ea1, hq⟩ := Option.bind_eq_some_iff.mp hq
  obtain ⟨eoa1, eta1⟩ := jw_rc_spec ea1
  obtain ⟨w3, h2, ew3, hq⟩ := jw_b2_spec hq
  refine jw_callV (As := [.int (37 : Int32)]) (S := []) (a := a1) (v := some (.int w3)) dX6_readWhere_3 mt_X6_pass in_X6_pass se_X6_pass lk_X6_72 (c_X6_pass ew3) eta1 (by decide) rfl rfl (by decide) (Nat.le_of_ble_eq_true rfl) (by cases eoa1; rfl) ?_
  rcases jw_if hq with ⟨c4, hq⟩ | ⟨c4, hq⟩
  · refine jw_if_eq_t (tgt := 16) dX6_readWhere_6 (by decide) c4 ?_
    refine jw_aload_n dX6_readWhere_16 (o := (some x0)) rfl ?_
    refine jw_aload_n dX6_readWhere_17 (o := (some x0)) rfl ?_
    obtain ⟨a5, ea5, hq⟩ := Option.bind_eq_some_iff.mp hq
    obtain ⟨eoa5, eta5⟩ := jw_rc_spec ea5
    obtain ⟨w7, h6, ew7, hq⟩ := jw_b2_spec hq
    refine jw_callV (As := []) (S := [.ref x0]) (a := a5) (v := some (.int w7)) dX6_readWhere_18 mt_X6_peek in_X6_peek se_X6_peek lk_X6_93 (c_X6_peek ew7) eta5 (by decide) rfl rfl (by decide) (Nat.le_of_ble_eq_true rfl) (by cases eoa5; rfl) ?_
    obtain ⟨a8, ea8, hq⟩ := Option.bind_eq_some_iff.mp hq
    obtain ⟨eoa8, eta8⟩ := jw_rc_spec ea8
    obtain ⟨w10, h9, ew10, hq⟩ := jw_b2_spec hq
    refine jw_callV (As := [.int w7]) (S := []) (a := a8) (v := some (.int w10)) dX6_readWhere_21 mt_X6_beginsAddress in_X6_beginsAddress se_X6_beginsAddress lk_X6_96 (c_X6_beginsAddress ew10) eta8 (by decide) rfl rfl (by decide) (Nat.le_of_ble_eq_true rfl) (by cases eoa8; rfl) ?_
    rcases jw_if hq with ⟨c11, hq⟩ | ⟨c11, hq⟩
    · refine jw_if_ne_f (tgt := 29) dX6_readWhere_24 (by decide) c11 ?_
      refine jw_iconst dX6_readWhere_27 (v := (1 : Int32)) (by decide) ?_
      cases hq
      exact jw_iret (ty := .boolean) dX6_readWhere_28 rfl rfl
    · refine jw_if_ne_t (tgt := 29) dX6_readWhere_24 (by decide) c11 ?_
      refine jw_aload_n dX6_readWhere_29 (o := x1) rfl ?_
      refine jw_iconst dX6_readWhere_30 (v := (2 : Int32)) (by decide) ?_
      obtain ⟨h12, eh12, hq⟩ := Option.bind_eq_some_iff.mp hq
      refine jw_putI (o := x1) dX6_readWhere_31 eh12 fl_X6_90 rfl rfl ?_
      refine jw_aload_n dX6_readWhere_34 (o := (some x0)) rfl ?_
      refine jw_aload_n dX6_readWhere_35 (o := x1) rfl ?_
      obtain ⟨v13, ev13, hq⟩ := Option.bind_eq_some_iff.mp hq
      refine jw_getR (o := x1) dX6_readWhere_36 ev13 fl_X6_99 rfl ?_
      obtain ⟨a14, ea14, hq⟩ := Option.bind_eq_some_iff.mp hq
      obtain ⟨eoa14, eta14⟩ := jw_rc_spec ea14
      obtain ⟨w16, h15, ew16, hq⟩ := jw_b2_spec hq
      refine jw_callV (As := [va_rf v13]) (S := []) (a := a14) (v := some (.int w16)) dX6_readWhere_39 mt_X6_readAddress in_X6_readAddress se_X6_readAddress lk_X6_103 (c_X6_readAddress ew16) eta14 (by decide) rfl rfl (by decide) (Nat.le_of_ble_eq_true rfl) (by cases eoa14; rfl) ?_
      rcases jw_if hq with ⟨c17, hq⟩ | ⟨c17, hq⟩
      · refine jw_if_ne_f (tgt := 47) dX6_readWhere_42 (by decide) c17 ?_
        refine jw_iconst dX6_readWhere_45 (v := (0 : Int32)) (by decide) ?_
        cases hq
        exact jw_iret (ty := .boolean) dX6_readWhere_46 rfl rfl
      · refine jw_if_ne_t (tgt := 47) dX6_readWhere_42 (by decide) c17 ?_
        refine jw_aload_n dX6_readWhere_47 (o := (some x0)) rfl ?_
        refine jw_bipush dX6_readWhere_48 (v := (44 : Int32)) (by decide) ?_
        obtain ⟨a18, ea18, hq⟩ := Option.bind_eq_some_iff.mp hq
        obtain ⟨eoa18, eta18⟩ := jw_rc_spec ea18
        obtain ⟨w20, h19, ew20, hq⟩ := jw_b2_spec hq
        refine jw_callV (As := [.int (44 : Int32)]) (S := []) (a := a18) (v := some (.int w20)) dX6_readWhere_50 mt_X6_pass in_X6_pass se_X6_pass lk_X6_72 (c_X6_pass ew20) eta18 (by decide) rfl rfl (by decide) (Nat.le_of_ble_eq_true rfl) (by cases eoa18; rfl) ?_
        rcases jw_if hq with ⟨c21, hq⟩ | ⟨c21, hq⟩
        · refine jw_if_ne_f (tgt := 58) dX6_readWhere_53 (by decide) c21 ?_
          refine jw_iconst dX6_readWhere_56 (v := (1 : Int32)) (by decide) ?_
          cases hq
          exact jw_iret (ty := .boolean) dX6_readWhere_57 rfl rfl
        · refine jw_if_ne_t (tgt := 58) dX6_readWhere_53 (by decide) c21 ?_
          refine jw_aload_n dX6_readWhere_58 (o := x1) rfl ?_
          refine jw_iconst dX6_readWhere_59 (v := (3 : Int32)) (by decide) ?_
          obtain ⟨h22, eh22, hq⟩ := Option.bind_eq_some_iff.mp hq
          refine jw_putI (o := x1) dX6_readWhere_60 eh22 fl_X6_90 rfl rfl ?_
          refine jw_aload_n dX6_readWhere_63 (o := (some x0)) rfl ?_
          refine jw_aload_n dX6_readWhere_64 (o := x1) rfl ?_
          obtain ⟨v23, ev23, hq⟩ := Option.bind_eq_some_iff.mp hq
          refine jw_getR (o := x1) dX6_readWhere_65 ev23 fl_X6_107 rfl ?_
          obtain ⟨a24, ea24, hq⟩ := Option.bind_eq_some_iff.mp hq
          obtain ⟨eoa24, eta24⟩ := jw_rc_spec ea24
          obtain ⟨w26, h25, ew26, hq⟩ := jw_b2_spec hq
          refine jw_callV (As := [va_rf v23]) (S := []) (a := a24) (v := some (.int w26)) dX6_readWhere_68 mt_X6_readAddress in_X6_readAddress se_X6_readAddress lk_X6_103 (c_X6_readAddress ew26) eta24 (by decide) rfl rfl (by decide) (Nat.le_of_ble_eq_true rfl) (by cases eoa24; rfl) ?_
          obtain ⟨v27, ev27, hq⟩ := Option.bind_eq_some_iff.mp hq
          cases hq
          exact jw_iret (ty := .boolean) dX6_readWhere_71 rfl (jw_rb_spec ev27)
  · refine jw_if_eq_f (tgt := 16) dX6_readWhere_6 (by decide) c4 ?_
    refine jw_aload_n dX6_readWhere_9 (o := x1) rfl ?_
    refine jw_iconst dX6_readWhere_10 (v := (1 : Int32)) (by decide) ?_
    obtain ⟨h28, eh28, hq⟩ := Option.bind_eq_some_iff.mp hq
    refine jw_putI (o := x1) dX6_readWhere_11 eh28 fl_X6_90 rfl rfl ?_
    refine jw_iconst dX6_readWhere_14 (v := (1 : Int32)) (by decide) ?_
    cases hq
    exact jw_iret (ty := .boolean) dX6_readWhere_15 rfl rfl

theorem c_X6_readWhere {h : jw_H} {x0 : Nat} {x1 : Option Nat} {r : Int32} {h' : jw_H} (hq : f_X6_readWhere h x0 x1 = some (r, h')) : jw_Con (Cond.code yX6_readWhere cX6_readWhere 2 (some .boolean)) yX6_readWhere 4 [.ref x0, va_rf x1] h (.inl (some (.int r))) h' :=
  jw_con false (plainFor_of_name (by decide +kernel)) (fun z => nomatch z) (by simp [jw_ent, jw_sl0_nil, jw_sl0_int, jw_sl0_long, jw_sl0_ref, jw_sl0_rf, jw_sl0_scr, List.replicate]) (by simp [jw_sl0_nil, jw_sl0_int, jw_sl0_long, jw_sl0_ref, jw_sl0_rf, jw_sl0_scr]) (l_X6_readWhere hq)


/-! X5_holdsOthers -/
noncomputable def g_X5_holdsOthers_b32 (h : jw_H) (t0 : Int32) : Option (Int32 × jw_H) :=
 (jw_rb t0).bind fun v1 =>
 some (t0, h)

noncomputable def g_X5_holdsOthers_b27 (h : jw_H)  : Option (Int32 × jw_H) :=
 g_X5_holdsOthers_b32  h (1 : Int32)

noncomputable def f_X5_holdsOthers (h : jw_H) (x0 : Nat) : Option (Int32 × jw_H) :=
 (jw_gI h 5 (some x0) 3).bind fun v1 =>
 if v1 = (103 : Int32) then (g_X5_holdsOthers_b27  h )
 else ((jw_gI h 5 (some x0) 3).bind fun v3 =>
 if v3 = (71 : Int32) then (g_X5_holdsOthers_b27  h )
 else ((jw_gI h 5 (some x0) 3).bind fun v5 =>
 if v5 = (123 : Int32) then (g_X5_holdsOthers_b27  h )
 else (g_X5_holdsOthers_b32  h (0 : Int32))))

set_option maxRecDepth 100000 in
set_option maxHeartbeats 4000000 in
theorem l_X5_holdsOthers_b32 {hi : jw_H} {h : jw_H} {t0 : Int32} {r : Int32} {h' : jw_H} (hq : g_X5_holdsOthers_b32  h t0 = some (r, h')) : jw_E 0 uX5_holdsOthers hi 32 [none] [.int t0] h (.inl (some (.int r))) h' := by
  unfold g_X5_holdsOthers_b32 at hq
  obtain ⟨v1, ev1, hq⟩ := Option.bind_eq_some_iff.mp hq
  cases hq
  exact jw_iret (ty := .boolean) dX5_holdsOthers_32 rfl (jw_rb_spec ev1)

set_option maxRecDepth 100000 in
set_option maxHeartbeats 4000000 in
theorem l_X5_holdsOthers_b27 {hi : jw_H} {h : jw_H}  {r : Int32} {h' : jw_H} (hq : g_X5_holdsOthers_b27  h  = some (r, h')) : jw_E 0 uX5_holdsOthers hi 27 [none] [] h (.inl (some (.int r))) h' := by
  unfold g_X5_holdsOthers_b27 at hq
  refine jw_iconst dX5_holdsOthers_27 (v := (1 : Int32)) (by decide) ?_
  refine jw_goto (tgt := 32) dX5_holdsOthers_28 (by decide) ?_
  exact l_X5_holdsOthers_b32  hq

set_option maxRecDepth 100000 in
set_option maxHeartbeats 4000000 in
theorem l_X5_holdsOthers {hi : jw_H} {h : jw_H} {x0 : Nat} {r : Int32} {h' : jw_H} (hq : f_X5_holdsOthers  h x0 = some (r, h')) : jw_E 0 uX5_holdsOthers hi 0 [some (.ref x0)] [] h (.inl (some (.int r))) h' := by
  unfold f_X5_holdsOthers at hq
  refine jw_aload_n dX5_holdsOthers_0 (o := (some x0)) rfl ?_
  obtain ⟨v1, ev1, hq⟩ := Option.bind_eq_some_iff.mp hq
  refine jw_getI (o := (some x0)) dX5_holdsOthers_1 ev1 fl_X5_27 rfl ?_
  refine jw_bipush dX5_holdsOthers_4 (v := (103 : Int32)) (by decide) ?_
  rcases jw_if hq with ⟨c2, hq⟩ | ⟨c2, hq⟩
  · refine jw_icmp_eq_t (tgt := 27) dX5_holdsOthers_6 (by decide) c2 ?_
    refine jw_forget [false] (L' := [none]) rfl ?_
    exact l_X5_holdsOthers_b27  hq
  · refine jw_icmp_eq_f (tgt := 27) dX5_holdsOthers_6 (by decide) c2 ?_
    refine jw_aload_n dX5_holdsOthers_9 (o := (some x0)) rfl ?_
    obtain ⟨v3, ev3, hq⟩ := Option.bind_eq_some_iff.mp hq
    refine jw_getI (o := (some x0)) dX5_holdsOthers_10 ev3 fl_X5_27 rfl ?_
    refine jw_bipush dX5_holdsOthers_13 (v := (71 : Int32)) (by decide) ?_
    rcases jw_if hq with ⟨c4, hq⟩ | ⟨c4, hq⟩
    · refine jw_icmp_eq_t (tgt := 27) dX5_holdsOthers_15 (by decide) c4 ?_
      refine jw_forget [false] (L' := [none]) rfl ?_
      exact l_X5_holdsOthers_b27  hq
    · refine jw_icmp_eq_f (tgt := 27) dX5_holdsOthers_15 (by decide) c4 ?_
      refine jw_aload_n dX5_holdsOthers_18 (o := (some x0)) rfl ?_
      obtain ⟨v5, ev5, hq⟩ := Option.bind_eq_some_iff.mp hq
      refine jw_getI (o := (some x0)) dX5_holdsOthers_19 ev5 fl_X5_27 rfl ?_
      refine jw_bipush dX5_holdsOthers_22 (v := (123 : Int32)) (by decide) ?_
      rcases jw_if hq with ⟨c6, hq⟩ | ⟨c6, hq⟩
      · refine jw_icmp_ne_f (tgt := 31) dX5_holdsOthers_24 (by decide) c6 ?_
        refine jw_forget [false] (L' := [none]) rfl ?_
        exact l_X5_holdsOthers_b27  hq
      · refine jw_icmp_ne_t (tgt := 31) dX5_holdsOthers_24 (by decide) c6 ?_
        refine jw_iconst dX5_holdsOthers_31 (v := (0 : Int32)) (by decide) ?_
        refine jw_forget [false] (L' := [none]) rfl ?_
        exact l_X5_holdsOthers_b32  hq

theorem c_X5_holdsOthers {h : jw_H} {x0 : Nat} {r : Int32} {h' : jw_H} (hq : f_X5_holdsOthers h x0 = some (r, h')) : jw_Con (Cond.code yX5_holdsOthers cX5_holdsOthers 1 (some .boolean)) yX5_holdsOthers 0 [.ref x0] h (.inl (some (.int r))) h' :=
  jw_con false (plainFor_of_name (by decide +kernel)) (fun z => nomatch z) (by simp [jw_ent, jw_sl0_nil, jw_sl0_int, jw_sl0_long, jw_sl0_ref, jw_sl0_rf, jw_sl0_scr, List.replicate]) (by simp [jw_sl0_nil, jw_sl0_int, jw_sl0_long, jw_sl0_ref, jw_sl0_rf, jw_sl0_scr]) (l_X5_holdsOthers hq)


/-! X5_steers -/
noncomputable def g_X5_steers_b50 (h : jw_H) (t0 : Int32) : Option (Int32 × jw_H) :=
 (jw_rb t0).bind fun v1 =>
 some (t0, h)

noncomputable def g_X5_steers_b45 (h : jw_H)  : Option (Int32 × jw_H) :=
 g_X5_steers_b50  h (1 : Int32)

noncomputable def f_X5_steers (h : jw_H) (x0 : Nat) : Option (Int32 × jw_H) :=
 (jw_gI h 5 (some x0) 3).bind fun v1 =>
 if v1 = (58 : Int32) then (g_X5_steers_b45  h )
 else ((jw_gI h 5 (some x0) 3).bind fun v3 =>
 if v3 = (98 : Int32) then (g_X5_steers_b45  h )
 else ((jw_gI h 5 (some x0) 3).bind fun v5 =>
 if v5 = (84 : Int32) then (g_X5_steers_b45  h )
 else ((jw_gI h 5 (some x0) 3).bind fun v7 =>
 if v7 = (113 : Int32) then (g_X5_steers_b45  h )
 else ((jw_gI h 5 (some x0) 3).bind fun v9 =>
 if v9 = (78 : Int32) then (g_X5_steers_b45  h )
 else (g_X5_steers_b50  h (0 : Int32))))))

set_option maxRecDepth 100000 in
set_option maxHeartbeats 4000000 in
theorem l_X5_steers_b50 {hi : jw_H} {h : jw_H} {t0 : Int32} {r : Int32} {h' : jw_H} (hq : g_X5_steers_b50  h t0 = some (r, h')) : jw_E 0 uX5_steers hi 50 [none] [.int t0] h (.inl (some (.int r))) h' := by
  unfold g_X5_steers_b50 at hq
  obtain ⟨v1, ev1, hq⟩ := Option.bind_eq_some_iff.mp hq
  cases hq
  exact jw_iret (ty := .boolean) dX5_steers_50 rfl (jw_rb_spec ev1)

set_option maxRecDepth 100000 in
set_option maxHeartbeats 4000000 in
theorem l_X5_steers_b45 {hi : jw_H} {h : jw_H}  {r : Int32} {h' : jw_H} (hq : g_X5_steers_b45  h  = some (r, h')) : jw_E 0 uX5_steers hi 45 [none] [] h (.inl (some (.int r))) h' := by
  unfold g_X5_steers_b45 at hq
  refine jw_iconst dX5_steers_45 (v := (1 : Int32)) (by decide) ?_
  refine jw_goto (tgt := 50) dX5_steers_46 (by decide) ?_
  exact l_X5_steers_b50  hq

set_option maxRecDepth 100000 in
set_option maxHeartbeats 4000000 in
theorem l_X5_steers {hi : jw_H} {h : jw_H} {x0 : Nat} {r : Int32} {h' : jw_H} (hq : f_X5_steers  h x0 = some (r, h')) : jw_E 0 uX5_steers hi 0 [some (.ref x0)] [] h (.inl (some (.int r))) h' := by
  unfold f_X5_steers at hq
  refine jw_aload_n dX5_steers_0 (o := (some x0)) rfl ?_
  obtain ⟨v1, ev1, hq⟩ := Option.bind_eq_some_iff.mp hq
  refine jw_getI (o := (some x0)) dX5_steers_1 ev1 fl_X5_27 rfl ?_
  refine jw_bipush dX5_steers_4 (v := (58 : Int32)) (by decide) ?_
  rcases jw_if hq with ⟨c2, hq⟩ | ⟨c2, hq⟩
  · refine jw_icmp_eq_t (tgt := 45) dX5_steers_6 (by decide) c2 ?_
    refine jw_forget [false] (L' := [none]) rfl ?_
    exact l_X5_steers_b45  hq
  · refine jw_icmp_eq_f (tgt := 45) dX5_steers_6 (by decide) c2 ?_
    refine jw_aload_n dX5_steers_9 (o := (some x0)) rfl ?_
    obtain ⟨v3, ev3, hq⟩ := Option.bind_eq_some_iff.mp hq
    refine jw_getI (o := (some x0)) dX5_steers_10 ev3 fl_X5_27 rfl ?_
    refine jw_bipush dX5_steers_13 (v := (98 : Int32)) (by decide) ?_
    rcases jw_if hq with ⟨c4, hq⟩ | ⟨c4, hq⟩
    · refine jw_icmp_eq_t (tgt := 45) dX5_steers_15 (by decide) c4 ?_
      refine jw_forget [false] (L' := [none]) rfl ?_
      exact l_X5_steers_b45  hq
    · refine jw_icmp_eq_f (tgt := 45) dX5_steers_15 (by decide) c4 ?_
      refine jw_aload_n dX5_steers_18 (o := (some x0)) rfl ?_
      obtain ⟨v5, ev5, hq⟩ := Option.bind_eq_some_iff.mp hq
      refine jw_getI (o := (some x0)) dX5_steers_19 ev5 fl_X5_27 rfl ?_
      refine jw_bipush dX5_steers_22 (v := (84 : Int32)) (by decide) ?_
      rcases jw_if hq with ⟨c6, hq⟩ | ⟨c6, hq⟩
      · refine jw_icmp_eq_t (tgt := 45) dX5_steers_24 (by decide) c6 ?_
        refine jw_forget [false] (L' := [none]) rfl ?_
        exact l_X5_steers_b45  hq
      · refine jw_icmp_eq_f (tgt := 45) dX5_steers_24 (by decide) c6 ?_
        refine jw_aload_n dX5_steers_27 (o := (some x0)) rfl ?_
        obtain ⟨v7, ev7, hq⟩ := Option.bind_eq_some_iff.mp hq
        refine jw_getI (o := (some x0)) dX5_steers_28 ev7 fl_X5_27 rfl ?_
        refine jw_bipush dX5_steers_31 (v := (113 : Int32)) (by decide) ?_
        rcases jw_if hq with ⟨c8, hq⟩ | ⟨c8, hq⟩
        · refine jw_icmp_eq_t (tgt := 45) dX5_steers_33 (by decide) c8 ?_
          refine jw_forget [false] (L' := [none]) rfl ?_
          exact l_X5_steers_b45  hq
        · refine jw_icmp_eq_f (tgt := 45) dX5_steers_33 (by decide) c8 ?_
          refine jw_aload_n dX5_steers_36 (o := (some x0)) rfl ?_
          obtain ⟨v9, ev9, hq⟩ := Option.bind_eq_some_iff.mp hq
          refine jw_getI (o := (some x0)) dX5_steers_37 ev9 fl_X5_27 rfl ?_
          refine jw_bipush dX5_steers_40 (v := (78 : Int32)) (by decide) ?_
          rcases jw_if hq with ⟨c10, hq⟩ | ⟨c10, hq⟩
          · refine jw_icmp_ne_f (tgt := 49) dX5_steers_42 (by decide) c10 ?_
            refine jw_forget [false] (L' := [none]) rfl ?_
            exact l_X5_steers_b45  hq
          · refine jw_icmp_ne_t (tgt := 49) dX5_steers_42 (by decide) c10 ?_
            refine jw_iconst dX5_steers_49 (v := (0 : Int32)) (by decide) ?_
            refine jw_forget [false] (L' := [none]) rfl ?_
            exact l_X5_steers_b50  hq

theorem c_X5_steers {h : jw_H} {x0 : Nat} {r : Int32} {h' : jw_H} (hq : f_X5_steers h x0 = some (r, h')) : jw_Con (Cond.code yX5_steers cX5_steers 1 (some .boolean)) yX5_steers 0 [.ref x0] h (.inl (some (.int r))) h' :=
  jw_con false (plainFor_of_name (by decide +kernel)) (fun z => nomatch z) (by simp [jw_ent, jw_sl0_nil, jw_sl0_int, jw_sl0_long, jw_sl0_ref, jw_sl0_rf, jw_sl0_scr, List.replicate]) (by simp [jw_sl0_nil, jw_sl0_int, jw_sl0_long, jw_sl0_ref, jw_sl0_rf, jw_sl0_scr]) (l_X5_steers hq)


/-! X6_readRows -/
noncomputable def g_X6_readRows_b98 (h : jw_H) (x0 : Nat) (x1 : Option Nat) : Option (Int32 × jw_H) :=
 (jw_gI h 6 (some x0) 5).bind fun v1 =>
 (jw_pI h 5 x1 8 v1).bind fun h2 =>
 some ((1 : Int32), h2)

noncomputable def g_X6_readRows_b81 (k12 : jw_H → Nat → Option Nat → Int32 → Int32 → Option (Int32 × jw_H)) (h : jw_H) (x0 : Nat) (x1 : Option Nat) (x3 : Int32) (t0 : Int32) : Option (Int32 × jw_H) :=
 (jw_gI h 6 (some x0) 5).bind fun v1 =>
 (jw_pI h 6 (some x0) 5 (v1 + (1 : Int32))).bind fun h2 =>
 k12 h2 x0 x1 t0 (x3 + (1 : Int32))

noncomputable def g_X6_readRows_b69 (k12 : jw_H → Nat → Option Nat → Int32 → Int32 → Option (Int32 × jw_H)) (h : jw_H) (x0 : Nat) (x1 : Option Nat) (x2 : Int32) (x3 : Int32) (x5 : Int32) : Option (Int32 × jw_H) :=
 if x5 = 0 then (g_X6_readRows_b81 k12 h x0 x1 x3 (x2 + (1 : Int32)))
 else (g_X6_readRows_b81 k12 h x0 x1 x3 (0 : Int32))

noncomputable def g_X6_readRows_b56 (k12 : jw_H → Nat → Option Nat → Int32 → Int32 → Option (Int32 × jw_H)) (h : jw_H) (x0 : Nat) (x1 : Option Nat) (x2 : Int32) (x3 : Int32) (x5 : Int32) : Option (Int32 × jw_H) :=
 if x5 = 0 then (if x2 < (30 : Int32) then (g_X6_readRows_b69 k12 h x0 x1 x2 x3 x5)
 else (some ((0 : Int32), h)))
 else (g_X6_readRows_b69 k12 h x0 x1 x2 x3 x5)

noncomputable def g_X6_readRows_b36 (k12 : jw_H → Nat → Option Nat → Int32 → Int32 → Option (Int32 × jw_H)) (h : jw_H) (x0 : Nat) (x1 : Option Nat) (x2 : Int32) (x3 : Int32) (x4 : Int32) (t0 : Int32) : Option (Int32 × jw_H) :=
 if t0 = 0 then (jw_b2 (f_X11_bitOf h x4) fun w3 h2 =>
 if (lg_cmp w3 (0 : Int64)) = 0 then (g_X6_readRows_b98  h2 x0 x1)
 else (g_X6_readRows_b56 k12 h2 x0 x1 x2 x3 t0))
 else (g_X6_readRows_b56 k12 h x0 x1 x2 x3 t0)

noncomputable def g_X6_readRows_b12 (k12 : jw_H → Nat → Option Nat → Int32 → Int32 → Option (Int32 × jw_H)) (h : jw_H) (x0 : Nat) (x1 : Option Nat) (x2 : Int32) (x3 : Int32) : Option (Int32 × jw_H) :=
 if (60 : Int32) < x3 then (g_X6_readRows_b98  h x0 x1)
 else ((jw_rc h 6 (some x0)).bind fun a2 =>
 jw_b2 (f_X6_peek h a2) fun w4 h3 =>
 if w4 = (124 : Int32) then (g_X6_readRows_b36 k12 h3 x0 x1 x2 x3 w4 (1 : Int32))
 else (g_X6_readRows_b36 k12 h3 x0 x1 x2 x3 w4 (0 : Int32)))

noncomputable def f_X6_readRows_b12 (n : Nat) : jw_H → Nat → Option Nat → Int32 → Int32 → Option (Int32 × jw_H) :=
 Nat.rec (fun _ _ _ _ _ => none) (fun _ k12 => g_X6_readRows_b12 k12) n

noncomputable def f_X6_readRows (h : jw_H) (x0 : Nat) (x1 : Option Nat) : Option (Int32 × jw_H) :=
 (jw_gI h 6 (some x0) 5).bind fun v1 =>
 (jw_pI h 5 x1 7 v1).bind fun h2 =>
 f_X6_readRows_b12  jw_FU h2 x0 x1 (0 : Int32) (0 : Int32)

set_option maxRecDepth 100000 in
set_option maxHeartbeats 4000000 in
theorem l_X6_readRows_b98 {hi : jw_H} {h : jw_H} {x0 : Nat} {x1 : Option Nat} {r : Int32} {h' : jw_H} (hq : g_X6_readRows_b98  h x0 x1 = some (r, h')) : jw_E 1 uX6_readRows hi 98 [some (.ref x0), some (va_rf x1), none, none, none, none] [] h (.inl (some (.int r))) h' := by
  unfold g_X6_readRows_b98 at hq
  refine jw_aload_n dX6_readRows_98 (o := x1) rfl ?_
  refine jw_aload_n dX6_readRows_99 (o := (some x0)) rfl ?_
  obtain ⟨v1, ev1, hq⟩ := Option.bind_eq_some_iff.mp hq
  refine jw_getI (o := (some x0)) dX6_readRows_100 ev1 fl_X6_43 rfl ?_
  obtain ⟨h2, eh2, hq⟩ := Option.bind_eq_some_iff.mp hq
  refine jw_putI (o := x1) dX6_readRows_103 eh2 fl_X6_162 rfl rfl ?_
  refine jw_iconst dX6_readRows_106 (v := (1 : Int32)) (by decide) ?_
  cases hq
  exact jw_iret (ty := .boolean) dX6_readRows_107 rfl rfl

set_option maxRecDepth 100000 in
set_option maxHeartbeats 4000000 in
theorem l_X6_readRows_b81 {hi : jw_H} {k12 : jw_H → Nat → Option Nat → Int32 → Int32 → Option (Int32 × jw_H)} (hk12 : ∀ (h : jw_H) (x0 : Nat) (x1 : Option Nat) (x2 : Int32) (x3 : Int32) (r : Int32) (h' : jw_H), k12 h x0 x1 x2 x3 = some (r, h') → jw_E 1 uX6_readRows hi 12 [some (.ref x0), some (va_rf x1), some (.int x2), some (.int x3), none, none] [] h (.inl (some (.int r))) h') {h : jw_H} {x0 : Nat} {x1 : Option Nat} {x3 : Int32} {t0 : Int32} {r : Int32} {h' : jw_H} (hq : g_X6_readRows_b81 k12 h x0 x1 x3 t0 = some (r, h')) : jw_E 1 uX6_readRows hi 81 [some (.ref x0), some (va_rf x1), none, some (.int x3), none, none] [.int t0] h (.inl (some (.int r))) h' := by
  unfold g_X6_readRows_b81 at hq
  refine jw_istore_n (L' := [some (.ref x0), some (va_rf x1), some (.int t0), some (.int x3), none, none]) dX6_readRows_81 (Nat.le_of_ble_eq_true rfl) ((jw_st1_of (j := 1) jw_long_rf).trans rfl) ?_
  refine jw_aload_n dX6_readRows_82 (o := (some x0)) rfl ?_
  refine jw_dup dX6_readRows_83 rfl ?_
  obtain ⟨v1, ev1, hq⟩ := Option.bind_eq_some_iff.mp hq
  refine jw_getI (o := (some x0)) dX6_readRows_84 ev1 fl_X6_43 rfl ?_
  refine jw_iconst dX6_readRows_87 (v := (1 : Int32)) (by decide) ?_
  refine jw_iadd dX6_readRows_88 ?_
  obtain ⟨h2, eh2, hq⟩ := Option.bind_eq_some_iff.mp hq
  refine jw_putI (o := (some x0)) dX6_readRows_89 eh2 fl_X6_43 rfl rfl ?_
  refine jw_iinc (L' := [some (.ref x0), some (va_rf x1), some (.int t0), some (.int (x3 + (1 : Int32))), none, none]) dX6_readRows_92 rfl (v := (1 : Int32)) (by decide) (Nat.le_of_ble_eq_true rfl) rfl ?_
  refine jw_goto (tgt := 12) dX6_readRows_95 (by decide) ?_
  exact hk12 _ _ _ _ _ _ _ hq

set_option maxRecDepth 100000 in
set_option maxHeartbeats 4000000 in
theorem l_X6_readRows_b69 {hi : jw_H} {k12 : jw_H → Nat → Option Nat → Int32 → Int32 → Option (Int32 × jw_H)} (hk12 : ∀ (h : jw_H) (x0 : Nat) (x1 : Option Nat) (x2 : Int32) (x3 : Int32) (r : Int32) (h' : jw_H), k12 h x0 x1 x2 x3 = some (r, h') → jw_E 1 uX6_readRows hi 12 [some (.ref x0), some (va_rf x1), some (.int x2), some (.int x3), none, none] [] h (.inl (some (.int r))) h') {h : jw_H} {x0 : Nat} {x1 : Option Nat} {x2 : Int32} {x3 : Int32} {x5 : Int32} {r : Int32} {h' : jw_H} (hq : g_X6_readRows_b69 k12 h x0 x1 x2 x3 x5 = some (r, h')) : jw_E 1 uX6_readRows hi 69 [some (.ref x0), some (va_rf x1), some (.int x2), some (.int x3), none, some (.int x5)] [] h (.inl (some (.int r))) h' := by
  unfold g_X6_readRows_b69 at hq
  refine jw_iload dX6_readRows_69 rfl ?_
  rcases jw_if hq with ⟨c1, hq⟩ | ⟨c1, hq⟩
  · refine jw_if_eq_t (tgt := 78) dX6_readRows_71 (by decide) c1 ?_
    refine jw_iload_n dX6_readRows_78 rfl ?_
    refine jw_iconst dX6_readRows_79 (v := (1 : Int32)) (by decide) ?_
    refine jw_iadd dX6_readRows_80 ?_
    refine jw_forget [true, true, false, true, true, false] (L' := [some (.ref x0), some (va_rf x1), none, some (.int x3), none, none]) rfl ?_
    exact l_X6_readRows_b81 hk12 hq
  · refine jw_if_eq_f (tgt := 78) dX6_readRows_71 (by decide) c1 ?_
    refine jw_iconst dX6_readRows_74 (v := (0 : Int32)) (by decide) ?_
    refine jw_goto (tgt := 81) dX6_readRows_75 (by decide) ?_
    refine jw_forget [true, true, false, true, true, false] (L' := [some (.ref x0), some (va_rf x1), none, some (.int x3), none, none]) rfl ?_
    exact l_X6_readRows_b81 hk12 hq

set_option maxRecDepth 100000 in
set_option maxHeartbeats 4000000 in
theorem l_X6_readRows_b56 {hi : jw_H} {k12 : jw_H → Nat → Option Nat → Int32 → Int32 → Option (Int32 × jw_H)} (hk12 : ∀ (h : jw_H) (x0 : Nat) (x1 : Option Nat) (x2 : Int32) (x3 : Int32) (r : Int32) (h' : jw_H), k12 h x0 x1 x2 x3 = some (r, h') → jw_E 1 uX6_readRows hi 12 [some (.ref x0), some (va_rf x1), some (.int x2), some (.int x3), none, none] [] h (.inl (some (.int r))) h') {h : jw_H} {x0 : Nat} {x1 : Option Nat} {x2 : Int32} {x3 : Int32} {x5 : Int32} {r : Int32} {h' : jw_H} (hq : g_X6_readRows_b56 k12 h x0 x1 x2 x3 x5 = some (r, h')) : jw_E 1 uX6_readRows hi 56 [some (.ref x0), some (va_rf x1), some (.int x2), some (.int x3), none, some (.int x5)] [] h (.inl (some (.int r))) h' := by
  unfold g_X6_readRows_b56 at hq
  refine jw_iload dX6_readRows_56 rfl ?_
  rcases jw_if hq with ⟨c1, hq⟩ | ⟨c1, hq⟩
  · refine jw_if_ne_f (tgt := 69) dX6_readRows_58 (by decide) c1 ?_
    refine jw_iload_n dX6_readRows_61 rfl ?_
    refine jw_bipush dX6_readRows_62 (v := (30 : Int32)) (by decide) ?_
    rcases jw_if hq with ⟨c2, hq⟩ | ⟨c2, hq⟩
    · refine jw_icmp_lt_t (tgt := 69) dX6_readRows_64 (by decide) c2 ?_
      exact l_X6_readRows_b69 hk12 hq
    · refine jw_icmp_lt_f (tgt := 69) dX6_readRows_64 (by decide) c2 ?_
      refine jw_iconst dX6_readRows_67 (v := (0 : Int32)) (by decide) ?_
      cases hq
      exact jw_iret (ty := .boolean) dX6_readRows_68 rfl rfl
  · refine jw_if_ne_t (tgt := 69) dX6_readRows_58 (by decide) c1 ?_
    exact l_X6_readRows_b69 hk12 hq

set_option maxRecDepth 100000 in
set_option maxHeartbeats 4000000 in
theorem l_X6_readRows_b36 {hi : jw_H} {k12 : jw_H → Nat → Option Nat → Int32 → Int32 → Option (Int32 × jw_H)} (hk12 : ∀ (h : jw_H) (x0 : Nat) (x1 : Option Nat) (x2 : Int32) (x3 : Int32) (r : Int32) (h' : jw_H), k12 h x0 x1 x2 x3 = some (r, h') → jw_E 1 uX6_readRows hi 12 [some (.ref x0), some (va_rf x1), some (.int x2), some (.int x3), none, none] [] h (.inl (some (.int r))) h') {h : jw_H} {x0 : Nat} {x1 : Option Nat} {x2 : Int32} {x3 : Int32} {x4 : Int32} {t0 : Int32} {r : Int32} {h' : jw_H} (hq : g_X6_readRows_b36 k12 h x0 x1 x2 x3 x4 t0 = some (r, h')) : jw_E 1 uX6_readRows hi 36 [some (.ref x0), some (va_rf x1), some (.int x2), some (.int x3), some (.int x4), none] [.int t0] h (.inl (some (.int r))) h' := by
  unfold g_X6_readRows_b36 at hq
  refine jw_istore (L' := [some (.ref x0), some (va_rf x1), some (.int x2), some (.int x3), some (.int x4), some (.int t0)]) dX6_readRows_36 (Nat.le_of_ble_eq_true rfl) rfl ?_
  refine jw_iload dX6_readRows_38 rfl ?_
  rcases jw_if hq with ⟨c1, hq⟩ | ⟨c1, hq⟩
  · refine jw_if_ne_f (tgt := 56) dX6_readRows_40 (by decide) c1 ?_
    refine jw_iload dX6_readRows_43 rfl ?_
    obtain ⟨w3, h2, ew3, hq⟩ := jw_b2_spec hq
    refine jw_callS (As := [.int x4]) (S := []) (v := some (.long w3)) dX6_readRows_45 mt_X11_bitOf st_X11_bitOf lk_X6_158 (c_X11_bitOf ew3) rfl (by decide) (Nat.le_of_ble_eq_true rfl) rfl ?_
    refine jw_lconst dX6_readRows_48 (v := (0 : Int64)) (by decide) ?_
    refine jw_lcmp dX6_readRows_49 ?_
    rcases jw_if hq with ⟨c4, hq⟩ | ⟨c4, hq⟩
    · refine jw_if_ne_f (tgt := 56) dX6_readRows_50 (by decide) c4 ?_
      refine jw_goto (tgt := 98) dX6_readRows_53 (by decide) ?_
      refine jw_forget [true, true, false, false, false, false] (L' := [some (.ref x0), some (va_rf x1), none, none, none, none]) rfl ?_
      exact l_X6_readRows_b98  hq
    · refine jw_if_ne_t (tgt := 56) dX6_readRows_50 (by decide) c4 ?_
      refine jw_forget [true, true, true, true, false, true] (L' := [some (.ref x0), some (va_rf x1), some (.int x2), some (.int x3), none, some (.int t0)]) rfl ?_
      exact l_X6_readRows_b56 hk12 hq
  · refine jw_if_ne_t (tgt := 56) dX6_readRows_40 (by decide) c1 ?_
    refine jw_forget [true, true, true, true, false, true] (L' := [some (.ref x0), some (va_rf x1), some (.int x2), some (.int x3), none, some (.int t0)]) rfl ?_
    exact l_X6_readRows_b56 hk12 hq

set_option maxRecDepth 100000 in
set_option maxHeartbeats 4000000 in
theorem l_X6_readRows_b12g {hi : jw_H} {k12 : jw_H → Nat → Option Nat → Int32 → Int32 → Option (Int32 × jw_H)} (hk12 : ∀ (h : jw_H) (x0 : Nat) (x1 : Option Nat) (x2 : Int32) (x3 : Int32) (r : Int32) (h' : jw_H), k12 h x0 x1 x2 x3 = some (r, h') → jw_E 1 uX6_readRows hi 12 [some (.ref x0), some (va_rf x1), some (.int x2), some (.int x3), none, none] [] h (.inl (some (.int r))) h') {h : jw_H} {x0 : Nat} {x1 : Option Nat} {x2 : Int32} {x3 : Int32} {r : Int32} {h' : jw_H} (hq : g_X6_readRows_b12 k12 h x0 x1 x2 x3 = some (r, h')) : jw_E 1 uX6_readRows hi 12 [some (.ref x0), some (va_rf x1), some (.int x2), some (.int x3), none, none] [] h (.inl (some (.int r))) h' := by
  unfold g_X6_readRows_b12 at hq
  refine jw_iload_n dX6_readRows_12 rfl ?_
  refine jw_bipush dX6_readRows_13 (v := (60 : Int32)) (by decide) ?_
  rcases jw_if hq with ⟨c1, hq⟩ | ⟨c1, hq⟩
  · refine jw_icmp_gt_t (tgt := 98) dX6_readRows_15 (by decide) c1 ?_
    refine jw_forget [true, true, false, false, true, true] (L' := [some (.ref x0), some (va_rf x1), none, none, none, none]) rfl ?_
    exact l_X6_readRows_b98  hq
  · refine jw_icmp_gt_f (tgt := 98) dX6_readRows_15 (by decide) c1 ?_
    refine jw_aload_n dX6_readRows_18 (o := (some x0)) rfl ?_
    obtain ⟨a2, ea2, hq⟩ := Option.bind_eq_some_iff.mp hq
    obtain ⟨eoa2, eta2⟩ := jw_rc_spec ea2
    obtain ⟨w4, h3, ew4, hq⟩ := jw_b2_spec hq
    refine jw_callV (As := []) (S := []) (a := a2) (v := some (.int w4)) dX6_readRows_19 mt_X6_peek in_X6_peek se_X6_peek lk_X6_93 (c_X6_peek ew4) eta2 (by decide) rfl rfl (by decide) (Nat.le_of_ble_eq_true rfl) (by cases eoa2; rfl) ?_
    refine jw_istore (L' := [some (.ref x0), some (va_rf x1), some (.int x2), some (.int x3), some (.int w4), none]) dX6_readRows_22 (Nat.le_of_ble_eq_true rfl) rfl ?_
    refine jw_iload dX6_readRows_24 rfl ?_
    refine jw_bipush dX6_readRows_26 (v := (124 : Int32)) (by decide) ?_
    rcases jw_if hq with ⟨c5, hq⟩ | ⟨c5, hq⟩
    · refine jw_icmp_ne_f (tgt := 35) dX6_readRows_28 (by decide) c5 ?_
      refine jw_iconst dX6_readRows_31 (v := (1 : Int32)) (by decide) ?_
      refine jw_goto (tgt := 36) dX6_readRows_32 (by decide) ?_
      exact l_X6_readRows_b36 hk12 hq
    · refine jw_icmp_ne_t (tgt := 35) dX6_readRows_28 (by decide) c5 ?_
      refine jw_iconst dX6_readRows_35 (v := (0 : Int32)) (by decide) ?_
      exact l_X6_readRows_b36 hk12 hq

theorem l_X6_readRows_b12 {hi : jw_H} : ∀ (n : Nat) (h : jw_H) (x0 : Nat) (x1 : Option Nat) (x2 : Int32) (x3 : Int32) (r : Int32) (h' : jw_H), f_X6_readRows_b12  n h x0 x1 x2 x3 = some (r, h') → jw_E 1 uX6_readRows hi 12 [some (.ref x0), some (va_rf x1), some (.int x2), some (.int x3), none, none] [] h (.inl (some (.int r))) h' := by
  intro n
  induction n with
  | zero => intro h x0 x1 x2 x3 r h' hq; exact nomatch hq
  | succ n ih => intro h x0 x1 x2 x3 r h' hq; exact l_X6_readRows_b12g ih hq

set_option maxRecDepth 100000 in
set_option maxHeartbeats 4000000 in
theorem l_X6_readRows {hi : jw_H} {h : jw_H} {x0 : Nat} {x1 : Option Nat} {r : Int32} {h' : jw_H} (hq : f_X6_readRows  h x0 x1 = some (r, h')) : jw_E 1 uX6_readRows hi 0 [some (.ref x0), some (va_rf x1), none, none, none, none] [] h (.inl (some (.int r))) h' := by
  unfold f_X6_readRows at hq
  refine jw_aload_n dX6_readRows_0 (o := x1) rfl ?_
  refine jw_aload_n dX6_readRows_1 (o := (some x0)) rfl ?_
  obtain ⟨v1, ev1, hq⟩ := Option.bind_eq_some_iff.mp hq
  refine jw_getI (o := (some x0)) dX6_readRows_2 ev1 fl_X6_43 rfl ?_
  obtain ⟨h2, eh2, hq⟩ := Option.bind_eq_some_iff.mp hq
  refine jw_putI (o := x1) dX6_readRows_5 eh2 fl_X6_155 rfl rfl ?_
  refine jw_iconst dX6_readRows_8 (v := (0 : Int32)) (by decide) ?_
  refine jw_istore_n (L' := [some (.ref x0), some (va_rf x1), some (.int (0 : Int32)), none, none, none]) dX6_readRows_9 (Nat.le_of_ble_eq_true rfl) ((jw_st1_of (j := 1) jw_long_rf).trans rfl) ?_
  refine jw_iconst dX6_readRows_10 (v := (0 : Int32)) (by decide) ?_
  refine jw_istore_n (L' := [some (.ref x0), some (va_rf x1), some (.int (0 : Int32)), some (.int (0 : Int32)), none, none]) dX6_readRows_11 (Nat.le_of_ble_eq_true rfl) rfl ?_
  exact l_X6_readRows_b12  jw_FU _ _ _ _ _ _ _ hq

theorem c_X6_readRows {h : jw_H} {x0 : Nat} {x1 : Option Nat} {r : Int32} {h' : jw_H} (hq : f_X6_readRows h x0 x1 = some (r, h')) : jw_Con (Cond.code yX6_readRows cX6_readRows 6 (some .boolean)) yX6_readRows 1 [.ref x0, va_rf x1] h (.inl (some (.int r))) h' :=
  jw_con false (plainFor_of_name (by decide +kernel)) (fun z => nomatch z) (by simp [jw_ent, jw_sl0_nil, jw_sl0_int, jw_sl0_long, jw_sl0_ref, jw_sl0_rf, jw_sl0_scr, List.replicate]) (by simp [jw_sl0_nil, jw_sl0_int, jw_sl0_long, jw_sl0_ref, jw_sl0_rf, jw_sl0_scr]) (l_X6_readRows hq)


/-! X6_readFindNumber -/
noncomputable def g_X6_readFindNumber_b21 (h : jw_H) (t0 : Int32) : Option (Int32 × jw_H) :=
 some (t0, h)

noncomputable def f_X6_readFindNumber (h : jw_H) (x0 : Nat) : Option (Int32 × jw_H) :=
 (jw_rc h 6 (some x0)).bind fun a1 =>
 jw_b2 (f_X6_readFrom h a1 (49 : Int32) (57 : Int32)) fun w3 h2 =>
 if w3 = (-1 : Int32) then (g_X6_readFindNumber_b21  h2 (1 : Int32))
 else (g_X6_readFindNumber_b21  h2 (w3 + (1 : Int32)))

set_option maxRecDepth 100000 in
set_option maxHeartbeats 4000000 in
theorem l_X6_readFindNumber_b21 {hi : jw_H} {h : jw_H} {t0 : Int32} {r : Int32} {h' : jw_H} (hq : g_X6_readFindNumber_b21  h t0 = some (r, h')) : jw_E 2 uX6_readFindNumber hi 21 [none, none] [.int t0] h (.inl (some (.int r))) h' := by
  unfold g_X6_readFindNumber_b21 at hq
  cases hq
  exact jw_iret (ty := .int) dX6_readFindNumber_21 rfl rfl

set_option maxRecDepth 100000 in
set_option maxHeartbeats 4000000 in
theorem l_X6_readFindNumber {hi : jw_H} {h : jw_H} {x0 : Nat} {r : Int32} {h' : jw_H} (hq : f_X6_readFindNumber  h x0 = some (r, h')) : jw_E 2 uX6_readFindNumber hi 0 [some (.ref x0), none] [] h (.inl (some (.int r))) h' := by
  unfold f_X6_readFindNumber at hq
  refine jw_aload_n dX6_readFindNumber_0 (o := (some x0)) rfl ?_
  refine jw_bipush dX6_readFindNumber_1 (v := (49 : Int32)) (by decide) ?_
  refine jw_bipush dX6_readFindNumber_3 (v := (57 : Int32)) (by decide) ?_
  obtain ⟨a1, ea1, hq⟩ := Option.bind_eq_some_iff.mp hq
  obtain ⟨eoa1, eta1⟩ := jw_rc_spec ea1
  obtain ⟨w3, h2, ew3, hq⟩ := jw_b2_spec hq
  refine jw_callV (As := [.int (49 : Int32), .int (57 : Int32)]) (S := []) (a := a1) (v := some (.int w3)) dX6_readFindNumber_5 mt_X6_readFrom in_X6_readFrom se_X6_readFrom lk_X6_121 (c_X6_readFrom ew3) eta1 (by decide) rfl rfl (by decide) (Nat.le_of_ble_eq_true rfl) (by cases eoa1; rfl) ?_
  refine jw_istore_n (L' := [some (.ref x0), some (.int w3)]) dX6_readFindNumber_8 (Nat.le_of_ble_eq_true rfl) rfl ?_
  refine jw_iload_n dX6_readFindNumber_9 rfl ?_
  refine jw_iconst dX6_readFindNumber_10 (v := (-1 : Int32)) (by decide) ?_
  rcases jw_if hq with ⟨c4, hq⟩ | ⟨c4, hq⟩
  · refine jw_icmp_ne_f (tgt := 18) dX6_readFindNumber_11 (by decide) c4 ?_
    refine jw_iconst dX6_readFindNumber_14 (v := (1 : Int32)) (by decide) ?_
    refine jw_goto (tgt := 21) dX6_readFindNumber_15 (by decide) ?_
    refine jw_forget [false, false] (L' := [none, none]) rfl ?_
    exact l_X6_readFindNumber_b21  hq
  · refine jw_icmp_ne_t (tgt := 18) dX6_readFindNumber_11 (by decide) c4 ?_
    refine jw_iload_n dX6_readFindNumber_18 rfl ?_
    refine jw_iconst dX6_readFindNumber_19 (v := (1 : Int32)) (by decide) ?_
    refine jw_iadd dX6_readFindNumber_20 ?_
    refine jw_forget [false, false] (L' := [none, none]) rfl ?_
    exact l_X6_readFindNumber_b21  hq

theorem c_X6_readFindNumber {h : jw_H} {x0 : Nat} {r : Int32} {h' : jw_H} (hq : f_X6_readFindNumber h x0 = some (r, h')) : jw_Con (Cond.code yX6_readFindNumber cX6_readFindNumber 2 (some .int)) yX6_readFindNumber 2 [.ref x0] h (.inl (some (.int r))) h' :=
  jw_con false (plainFor_of_name (by decide +kernel)) (fun z => nomatch z) (by simp [jw_ent, jw_sl0_nil, jw_sl0_int, jw_sl0_long, jw_sl0_ref, jw_sl0_rf, jw_sl0_scr, List.replicate]) (by simp [jw_sl0_nil, jw_sl0_int, jw_sl0_long, jw_sl0_ref, jw_sl0_rf, jw_sl0_scr]) (l_X6_readFindNumber hq)


/-! X6_readReplace -/
noncomputable def g_X6_readReplace_b126 (k48 : jw_H → Nat → Option Nat → Int32 → Option (Int32 × jw_H)) (h : jw_H) (x0 : Nat) (x1 : Option Nat) (x2 : Int32) : Option (Int32 × jw_H) :=
 k48 h x0 x1 (x2 + (1 : Int32))

noncomputable def g_X6_readReplace_b116 (k48 : jw_H → Nat → Option Nat → Int32 → Option (Int32 × jw_H)) (h : jw_H) (x0 : Nat) (x1 : Option Nat) (x2 : Int32) : Option (Int32 × jw_H) :=
 (jw_gI h 6 (some x0) 5).bind fun v1 =>
 (jw_pI h 6 (some x0) 5 (v1 + (1 : Int32))).bind fun h2 =>
 g_X6_readReplace_b126 k48 h2 x0 x1 x2

noncomputable def g_X6_readReplace_b169 (h : jw_H) (t0 : Option Nat) (t1 : Int32) : Option (Int32 × jw_H) :=
 (jw_pI h 5 t0 5 t1).bind fun h1 =>
 some ((1 : Int32), h1)

noncomputable def g_X6_readReplace_b132 (h : jw_H) (x0 : Nat) (x1 : Option Nat) : Option (Int32 × jw_H) :=
 (jw_gI h 6 (some x0) 5).bind fun v1 =>
 (jw_pI h 5 x1 8 v1).bind fun h2 =>
 (jw_rc h2 6 (some x0)).bind fun a3 =>
 jw_b2 (f_X6_pass h2 a3 (47 : Int32)) fun w5 h4 =>
 if w5 = 0 then (some ((0 : Int32), h4))
 else ((jw_rc h4 6 (some x0)).bind fun a7 =>
 jw_b2 (f_X6_pass h4 a7 (103 : Int32)) fun w9 h8 =>
 if w9 = 0 then ((jw_rc h8 6 (some x0)).bind fun a11 =>
 jw_b2 (f_X6_readFindNumber h8 a11) fun w13 h12 =>
 g_X6_readReplace_b169  h12 x1 w13)
 else (g_X6_readReplace_b169  h8 x1 (0 : Int32)))

noncomputable def g_X6_readReplace_b101 (k48 : jw_H → Nat → Option Nat → Int32 → Option (Int32 × jw_H)) (h : jw_H) (x0 : Nat) (x1 : Option Nat) (x2 : Int32) (x3 : Int32) : Option (Int32 × jw_H) :=
 if x3 = (38 : Int32) then (g_X6_readReplace_b116 k48 h x0 x1 x2)
 else (jw_b2 (f_X11_bitOf h x3) fun w3 h2 =>
 if (lg_cmp w3 (0 : Int64)) = 0 then (g_X6_readReplace_b132  h2 x0 x1)
 else (g_X6_readReplace_b116 k48 h2 x0 x1 x2))

noncomputable def g_X6_readReplace_b48 (k48 : jw_H → Nat → Option Nat → Int32 → Option (Int32 × jw_H)) (h : jw_H) (x0 : Nat) (x1 : Option Nat) (x2 : Int32) : Option (Int32 × jw_H) :=
 if (60 : Int32) < x2 then (g_X6_readReplace_b132  h x0 x1)
 else ((jw_rc h 6 (some x0)).bind fun a2 =>
 jw_b2 (f_X6_peek h a2) fun w4 h3 =>
 if w4 = (92 : Int32) then ((jw_gI h3 6 (some x0) 9).bind fun v6 =>
 if v6 ≤ 0 then (g_X6_readReplace_b101 k48 h3 x0 x1 x2 w4)
 else ((jw_gI h3 6 (some x0) 5).bind fun v8 =>
 (jw_pI h3 6 (some x0) 5 (v8 + (1 : Int32))).bind fun h9 =>
 (jw_gI h9 6 (some x0) 9).bind fun v10 =>
 (jw_rc h9 6 (some x0)).bind fun a11 =>
 jw_b2 (f_X6_readFrom h9 a11 (49 : Int32) ((48 : Int32) + v10)) fun w13 h12 =>
 if w13 = (-1 : Int32) then (some ((0 : Int32), h12))
 else (g_X6_readReplace_b126 k48 h12 x0 x1 x2)))
 else (g_X6_readReplace_b101 k48 h3 x0 x1 x2 w4))

noncomputable def f_X6_readReplace_b48 (n : Nat) : jw_H → Nat → Option Nat → Int32 → Option (Int32 × jw_H) :=
 Nat.rec (fun _ _ _ _ => none) (fun _ k48 => g_X6_readReplace_b48 k48) n

noncomputable def f_X6_readReplace (h : jw_H) (x0 : Nat) (x1 : Option Nat) : Option (Int32 × jw_H) :=
 (jw_rc h 6 (some x0)).bind fun a1 =>
 jw_b2 (f_X6_pass h a1 (47 : Int32)) fun w3 h2 =>
 if w3 = 0 then (some ((0 : Int32), h2))
 else ((jw_rc h2 6 (some x0)).bind fun a5 =>
 jw_b2 (f_X6_readPattern h2 a5) fun w7 h6 =>
 (jw_pI h6 5 x1 6 w7).bind fun h8 =>
 (jw_gI h8 5 x1 6).bind fun v9 =>
 if v9 = (-1 : Int32) then (some ((0 : Int32), h8))
 else ((jw_rc h8 6 (some x0)).bind fun a11 =>
 jw_b2 (f_X6_pass h8 a11 (47 : Int32)) fun w13 h12 =>
 if w13 = 0 then (some ((0 : Int32), h12))
 else ((jw_gI h12 6 (some x0) 5).bind fun v15 =>
 (jw_pI h12 5 x1 7 v15).bind fun h16 =>
 f_X6_readReplace_b48  jw_FU h16 x0 x1 (0 : Int32))))

set_option maxRecDepth 100000 in
set_option maxHeartbeats 4000000 in
theorem l_X6_readReplace_b126 {hi : jw_H} {k48 : jw_H → Nat → Option Nat → Int32 → Option (Int32 × jw_H)} (hk48 : ∀ (h : jw_H) (x0 : Nat) (x1 : Option Nat) (x2 : Int32) (r : Int32) (h' : jw_H), k48 h x0 x1 x2 = some (r, h') → jw_E 3 uX6_readReplace hi 48 [some (.ref x0), some (va_rf x1), some (.int x2), none] [] h (.inl (some (.int r))) h') {h : jw_H} {x0 : Nat} {x1 : Option Nat} {x2 : Int32} {r : Int32} {h' : jw_H} (hq : g_X6_readReplace_b126 k48 h x0 x1 x2 = some (r, h')) : jw_E 3 uX6_readReplace hi 126 [some (.ref x0), some (va_rf x1), some (.int x2), none] [] h (.inl (some (.int r))) h' := by
  unfold g_X6_readReplace_b126 at hq
  refine jw_iinc (L' := [some (.ref x0), some (va_rf x1), some (.int (x2 + (1 : Int32))), none]) dX6_readReplace_126 rfl (v := (1 : Int32)) (by decide) (Nat.le_of_ble_eq_true rfl) ((jw_st1_of (j := 1) jw_long_rf).trans rfl) ?_
  refine jw_goto (tgt := 48) dX6_readReplace_129 (by decide) ?_
  exact hk48 _ _ _ _ _ _ hq

set_option maxRecDepth 100000 in
set_option maxHeartbeats 4000000 in
theorem l_X6_readReplace_b116 {hi : jw_H} {k48 : jw_H → Nat → Option Nat → Int32 → Option (Int32 × jw_H)} (hk48 : ∀ (h : jw_H) (x0 : Nat) (x1 : Option Nat) (x2 : Int32) (r : Int32) (h' : jw_H), k48 h x0 x1 x2 = some (r, h') → jw_E 3 uX6_readReplace hi 48 [some (.ref x0), some (va_rf x1), some (.int x2), none] [] h (.inl (some (.int r))) h') {h : jw_H} {x0 : Nat} {x1 : Option Nat} {x2 : Int32} {r : Int32} {h' : jw_H} (hq : g_X6_readReplace_b116 k48 h x0 x1 x2 = some (r, h')) : jw_E 3 uX6_readReplace hi 116 [some (.ref x0), some (va_rf x1), some (.int x2), none] [] h (.inl (some (.int r))) h' := by
  unfold g_X6_readReplace_b116 at hq
  refine jw_aload_n dX6_readReplace_116 (o := (some x0)) rfl ?_
  refine jw_dup dX6_readReplace_117 rfl ?_
  obtain ⟨v1, ev1, hq⟩ := Option.bind_eq_some_iff.mp hq
  refine jw_getI (o := (some x0)) dX6_readReplace_118 ev1 fl_X6_43 rfl ?_
  refine jw_iconst dX6_readReplace_121 (v := (1 : Int32)) (by decide) ?_
  refine jw_iadd dX6_readReplace_122 ?_
  obtain ⟨h2, eh2, hq⟩ := Option.bind_eq_some_iff.mp hq
  refine jw_putI (o := (some x0)) dX6_readReplace_123 eh2 fl_X6_43 rfl rfl ?_
  exact l_X6_readReplace_b126 hk48 hq

set_option maxRecDepth 100000 in
set_option maxHeartbeats 4000000 in
theorem l_X6_readReplace_b169 {hi : jw_H} {h : jw_H} {t0 : Option Nat} {t1 : Int32} {r : Int32} {h' : jw_H} (hq : g_X6_readReplace_b169  h t0 t1 = some (r, h')) : jw_E 3 uX6_readReplace hi 169 [none, none, none, none] [.int t1, va_rf t0] h (.inl (some (.int r))) h' := by
  unfold g_X6_readReplace_b169 at hq
  obtain ⟨h1, eh1, hq⟩ := Option.bind_eq_some_iff.mp hq
  refine jw_putI (o := t0) dX6_readReplace_169 eh1 fl_X6_140 rfl rfl ?_
  refine jw_iconst dX6_readReplace_172 (v := (1 : Int32)) (by decide) ?_
  cases hq
  exact jw_iret (ty := .boolean) dX6_readReplace_173 rfl rfl

set_option maxRecDepth 100000 in
set_option maxHeartbeats 4000000 in
theorem l_X6_readReplace_b132 {hi : jw_H} {h : jw_H} {x0 : Nat} {x1 : Option Nat} {r : Int32} {h' : jw_H} (hq : g_X6_readReplace_b132  h x0 x1 = some (r, h')) : jw_E 3 uX6_readReplace hi 132 [some (.ref x0), some (va_rf x1), none, none] [] h (.inl (some (.int r))) h' := by
  unfold g_X6_readReplace_b132 at hq
  refine jw_aload_n dX6_readReplace_132 (o := x1) rfl ?_
  refine jw_aload_n dX6_readReplace_133 (o := (some x0)) rfl ?_
  obtain ⟨v1, ev1, hq⟩ := Option.bind_eq_some_iff.mp hq
  refine jw_getI (o := (some x0)) dX6_readReplace_134 ev1 fl_X6_43 rfl ?_
  obtain ⟨h2, eh2, hq⟩ := Option.bind_eq_some_iff.mp hq
  refine jw_putI (o := x1) dX6_readReplace_137 eh2 fl_X6_162 rfl rfl ?_
  refine jw_aload_n dX6_readReplace_140 (o := (some x0)) rfl ?_
  refine jw_bipush dX6_readReplace_141 (v := (47 : Int32)) (by decide) ?_
  obtain ⟨a3, ea3, hq⟩ := Option.bind_eq_some_iff.mp hq
  obtain ⟨eoa3, eta3⟩ := jw_rc_spec ea3
  obtain ⟨w5, h4, ew5, hq⟩ := jw_b2_spec hq
  refine jw_callV (As := [.int (47 : Int32)]) (S := []) (a := a3) (v := some (.int w5)) dX6_readReplace_143 mt_X6_pass in_X6_pass se_X6_pass lk_X6_72 (c_X6_pass ew5) eta3 (by decide) rfl rfl (by decide) (Nat.le_of_ble_eq_true rfl) (by cases eoa3; rfl) ?_
  rcases jw_if hq with ⟨c6, hq⟩ | ⟨c6, hq⟩
  · refine jw_if_ne_f (tgt := 151) dX6_readReplace_146 (by decide) c6 ?_
    refine jw_iconst dX6_readReplace_149 (v := (0 : Int32)) (by decide) ?_
    cases hq
    exact jw_iret (ty := .boolean) dX6_readReplace_150 rfl rfl
  · refine jw_if_ne_t (tgt := 151) dX6_readReplace_146 (by decide) c6 ?_
    refine jw_aload_n dX6_readReplace_151 (o := x1) rfl ?_
    refine jw_aload_n dX6_readReplace_152 (o := (some x0)) rfl ?_
    refine jw_bipush dX6_readReplace_153 (v := (103 : Int32)) (by decide) ?_
    obtain ⟨a7, ea7, hq⟩ := Option.bind_eq_some_iff.mp hq
    obtain ⟨eoa7, eta7⟩ := jw_rc_spec ea7
    obtain ⟨w9, h8, ew9, hq⟩ := jw_b2_spec hq
    refine jw_callV (As := [.int (103 : Int32)]) (S := [va_rf x1]) (a := a7) (v := some (.int w9)) dX6_readReplace_155 mt_X6_pass in_X6_pass se_X6_pass lk_X6_72 (c_X6_pass ew9) eta7 (by decide) rfl rfl (by decide) (by simp only [List.map_cons, List.map_nil, List.sum_cons, List.sum_nil, jw_cat_rf, jw_cat_i, jw_cat_l, jw_cat_a, jw_cat_s] <;> decide) (by cases eoa7; rfl) ?_
    rcases jw_if hq with ⟨c10, hq⟩ | ⟨c10, hq⟩
    · refine jw_if_eq_t (tgt := 165) dX6_readReplace_158 (by decide) c10 ?_
      refine jw_aload_n dX6_readReplace_165 (o := (some x0)) rfl ?_
      obtain ⟨a11, ea11, hq⟩ := Option.bind_eq_some_iff.mp hq
      obtain ⟨eoa11, eta11⟩ := jw_rc_spec ea11
      obtain ⟨w13, h12, ew13, hq⟩ := jw_b2_spec hq
      refine jw_callV (As := []) (S := [va_rf x1]) (a := a11) (v := some (.int w13)) dX6_readReplace_166 mt_X6_readFindNumber in_X6_readFindNumber se_X6_readFindNumber lk_X6_171 (c_X6_readFindNumber ew13) eta11 (by decide) rfl rfl (by decide) (by simp only [List.map_cons, List.map_nil, List.sum_cons, List.sum_nil, jw_cat_rf, jw_cat_i, jw_cat_l, jw_cat_a, jw_cat_s] <;> decide) (by cases eoa11; rfl) ?_
      refine jw_forget [false, false, true, true] (L' := [none, none, none, none]) rfl ?_
      exact l_X6_readReplace_b169  hq
    · refine jw_if_eq_f (tgt := 165) dX6_readReplace_158 (by decide) c10 ?_
      refine jw_iconst dX6_readReplace_161 (v := (0 : Int32)) (by decide) ?_
      refine jw_goto (tgt := 169) dX6_readReplace_162 (by decide) ?_
      refine jw_forget [false, false, true, true] (L' := [none, none, none, none]) rfl ?_
      exact l_X6_readReplace_b169  hq

set_option maxRecDepth 100000 in
set_option maxHeartbeats 4000000 in
theorem l_X6_readReplace_b101 {hi : jw_H} {k48 : jw_H → Nat → Option Nat → Int32 → Option (Int32 × jw_H)} (hk48 : ∀ (h : jw_H) (x0 : Nat) (x1 : Option Nat) (x2 : Int32) (r : Int32) (h' : jw_H), k48 h x0 x1 x2 = some (r, h') → jw_E 3 uX6_readReplace hi 48 [some (.ref x0), some (va_rf x1), some (.int x2), none] [] h (.inl (some (.int r))) h') {h : jw_H} {x0 : Nat} {x1 : Option Nat} {x2 : Int32} {x3 : Int32} {r : Int32} {h' : jw_H} (hq : g_X6_readReplace_b101 k48 h x0 x1 x2 x3 = some (r, h')) : jw_E 3 uX6_readReplace hi 101 [some (.ref x0), some (va_rf x1), some (.int x2), some (.int x3)] [] h (.inl (some (.int r))) h' := by
  unfold g_X6_readReplace_b101 at hq
  refine jw_iload_n dX6_readReplace_101 rfl ?_
  refine jw_bipush dX6_readReplace_102 (v := (38 : Int32)) (by decide) ?_
  rcases jw_if hq with ⟨c1, hq⟩ | ⟨c1, hq⟩
  · refine jw_icmp_eq_t (tgt := 116) dX6_readReplace_104 (by decide) c1 ?_
    refine jw_forget [true, true, true, false] (L' := [some (.ref x0), some (va_rf x1), some (.int x2), none]) rfl ?_
    exact l_X6_readReplace_b116 hk48 hq
  · refine jw_icmp_eq_f (tgt := 116) dX6_readReplace_104 (by decide) c1 ?_
    refine jw_iload_n dX6_readReplace_107 rfl ?_
    obtain ⟨w3, h2, ew3, hq⟩ := jw_b2_spec hq
    refine jw_callS (As := [.int x3]) (S := []) (v := some (.long w3)) dX6_readReplace_108 mt_X11_bitOf st_X11_bitOf lk_X6_158 (c_X11_bitOf ew3) rfl (by decide) (Nat.le_of_ble_eq_true rfl) rfl ?_
    refine jw_lconst dX6_readReplace_111 (v := (0 : Int64)) (by decide) ?_
    refine jw_lcmp dX6_readReplace_112 ?_
    rcases jw_if hq with ⟨c4, hq⟩ | ⟨c4, hq⟩
    · refine jw_if_eq_t (tgt := 132) dX6_readReplace_113 (by decide) c4 ?_
      refine jw_forget [true, true, false, false] (L' := [some (.ref x0), some (va_rf x1), none, none]) rfl ?_
      exact l_X6_readReplace_b132  hq
    · refine jw_if_eq_f (tgt := 132) dX6_readReplace_113 (by decide) c4 ?_
      refine jw_forget [true, true, true, false] (L' := [some (.ref x0), some (va_rf x1), some (.int x2), none]) rfl ?_
      exact l_X6_readReplace_b116 hk48 hq

set_option maxRecDepth 100000 in
set_option maxHeartbeats 4000000 in
theorem l_X6_readReplace_b48g {hi : jw_H} {k48 : jw_H → Nat → Option Nat → Int32 → Option (Int32 × jw_H)} (hk48 : ∀ (h : jw_H) (x0 : Nat) (x1 : Option Nat) (x2 : Int32) (r : Int32) (h' : jw_H), k48 h x0 x1 x2 = some (r, h') → jw_E 3 uX6_readReplace hi 48 [some (.ref x0), some (va_rf x1), some (.int x2), none] [] h (.inl (some (.int r))) h') {h : jw_H} {x0 : Nat} {x1 : Option Nat} {x2 : Int32} {r : Int32} {h' : jw_H} (hq : g_X6_readReplace_b48 k48 h x0 x1 x2 = some (r, h')) : jw_E 3 uX6_readReplace hi 48 [some (.ref x0), some (va_rf x1), some (.int x2), none] [] h (.inl (some (.int r))) h' := by
  unfold g_X6_readReplace_b48 at hq
  refine jw_iload_n dX6_readReplace_48 rfl ?_
  refine jw_bipush dX6_readReplace_49 (v := (60 : Int32)) (by decide) ?_
  rcases jw_if hq with ⟨c1, hq⟩ | ⟨c1, hq⟩
  · refine jw_icmp_gt_t (tgt := 132) dX6_readReplace_51 (by decide) c1 ?_
    refine jw_forget [true, true, false, true] (L' := [some (.ref x0), some (va_rf x1), none, none]) rfl ?_
    exact l_X6_readReplace_b132  hq
  · refine jw_icmp_gt_f (tgt := 132) dX6_readReplace_51 (by decide) c1 ?_
    refine jw_aload_n dX6_readReplace_54 (o := (some x0)) rfl ?_
    obtain ⟨a2, ea2, hq⟩ := Option.bind_eq_some_iff.mp hq
    obtain ⟨eoa2, eta2⟩ := jw_rc_spec ea2
    obtain ⟨w4, h3, ew4, hq⟩ := jw_b2_spec hq
    refine jw_callV (As := []) (S := []) (a := a2) (v := some (.int w4)) dX6_readReplace_55 mt_X6_peek in_X6_peek se_X6_peek lk_X6_93 (c_X6_peek ew4) eta2 (by decide) rfl rfl (by decide) (Nat.le_of_ble_eq_true rfl) (by cases eoa2; rfl) ?_
    refine jw_istore_n (L' := [some (.ref x0), some (va_rf x1), some (.int x2), some (.int w4)]) dX6_readReplace_58 (Nat.le_of_ble_eq_true rfl) rfl ?_
    refine jw_iload_n dX6_readReplace_59 rfl ?_
    refine jw_bipush dX6_readReplace_60 (v := (92 : Int32)) (by decide) ?_
    rcases jw_if hq with ⟨c5, hq⟩ | ⟨c5, hq⟩
    · refine jw_icmp_ne_f (tgt := 101) dX6_readReplace_62 (by decide) c5 ?_
      refine jw_aload_n dX6_readReplace_65 (o := (some x0)) rfl ?_
      obtain ⟨v6, ev6, hq⟩ := Option.bind_eq_some_iff.mp hq
      refine jw_getI (o := (some x0)) dX6_readReplace_66 ev6 fl_X6_168 rfl ?_
      rcases jw_if hq with ⟨c7, hq⟩ | ⟨c7, hq⟩
      · refine jw_if_le_t (tgt := 101) dX6_readReplace_69 (by decide) c7 ?_
        exact l_X6_readReplace_b101 hk48 hq
      · refine jw_if_le_f (tgt := 101) dX6_readReplace_69 (by decide) c7 ?_
        refine jw_aload_n dX6_readReplace_72 (o := (some x0)) rfl ?_
        refine jw_dup dX6_readReplace_73 rfl ?_
        obtain ⟨v8, ev8, hq⟩ := Option.bind_eq_some_iff.mp hq
        refine jw_getI (o := (some x0)) dX6_readReplace_74 ev8 fl_X6_43 rfl ?_
        refine jw_iconst dX6_readReplace_77 (v := (1 : Int32)) (by decide) ?_
        refine jw_iadd dX6_readReplace_78 ?_
        obtain ⟨h9, eh9, hq⟩ := Option.bind_eq_some_iff.mp hq
        refine jw_putI (o := (some x0)) dX6_readReplace_79 eh9 fl_X6_43 rfl rfl ?_
        refine jw_aload_n dX6_readReplace_82 (o := (some x0)) rfl ?_
        refine jw_bipush dX6_readReplace_83 (v := (49 : Int32)) (by decide) ?_
        refine jw_bipush dX6_readReplace_85 (v := (48 : Int32)) (by decide) ?_
        refine jw_aload_n dX6_readReplace_87 (o := (some x0)) rfl ?_
        obtain ⟨v10, ev10, hq⟩ := Option.bind_eq_some_iff.mp hq
        refine jw_getI (o := (some x0)) dX6_readReplace_88 ev10 fl_X6_168 rfl ?_
        refine jw_iadd dX6_readReplace_91 ?_
        obtain ⟨a11, ea11, hq⟩ := Option.bind_eq_some_iff.mp hq
        obtain ⟨eoa11, eta11⟩ := jw_rc_spec ea11
        obtain ⟨w13, h12, ew13, hq⟩ := jw_b2_spec hq
        refine jw_callV (As := [.int (49 : Int32), .int ((48 : Int32) + v10)]) (S := []) (a := a11) (v := some (.int w13)) dX6_readReplace_92 mt_X6_readFrom in_X6_readFrom se_X6_readFrom lk_X6_121 (c_X6_readFrom ew13) eta11 (by decide) rfl rfl (by decide) (Nat.le_of_ble_eq_true rfl) (by cases eoa11; rfl) ?_
        refine jw_iconst dX6_readReplace_95 (v := (-1 : Int32)) (by decide) ?_
        rcases jw_if hq with ⟨c14, hq⟩ | ⟨c14, hq⟩
        · refine jw_icmp_ne_f (tgt := 126) dX6_readReplace_96 (by decide) c14 ?_
          refine jw_iconst dX6_readReplace_99 (v := (0 : Int32)) (by decide) ?_
          cases hq
          exact jw_iret (ty := .boolean) dX6_readReplace_100 rfl rfl
        · refine jw_icmp_ne_t (tgt := 126) dX6_readReplace_96 (by decide) c14 ?_
          refine jw_forget [true, true, true, false] (L' := [some (.ref x0), some (va_rf x1), some (.int x2), none]) rfl ?_
          exact l_X6_readReplace_b126 hk48 hq
    · refine jw_icmp_ne_t (tgt := 101) dX6_readReplace_62 (by decide) c5 ?_
      exact l_X6_readReplace_b101 hk48 hq

theorem l_X6_readReplace_b48 {hi : jw_H} : ∀ (n : Nat) (h : jw_H) (x0 : Nat) (x1 : Option Nat) (x2 : Int32) (r : Int32) (h' : jw_H), f_X6_readReplace_b48  n h x0 x1 x2 = some (r, h') → jw_E 3 uX6_readReplace hi 48 [some (.ref x0), some (va_rf x1), some (.int x2), none] [] h (.inl (some (.int r))) h' := by
  intro n
  induction n with
  | zero => intro h x0 x1 x2 r h' hq; exact nomatch hq
  | succ n ih => intro h x0 x1 x2 r h' hq; exact l_X6_readReplace_b48g ih hq

set_option maxRecDepth 100000 in
set_option maxHeartbeats 4000000 in
theorem l_X6_readReplace {hi : jw_H} {h : jw_H} {x0 : Nat} {x1 : Option Nat} {r : Int32} {h' : jw_H} (hq : f_X6_readReplace  h x0 x1 = some (r, h')) : jw_E 3 uX6_readReplace hi 0 [some (.ref x0), some (va_rf x1), none, none] [] h (.inl (some (.int r))) h' := by
  unfold f_X6_readReplace at hq
  refine jw_aload_n dX6_readReplace_0 (o := (some x0)) rfl ?_
  refine jw_bipush dX6_readReplace_1 (v := (47 : Int32)) (by decide) ?_
  obtain ⟨a1, ea1, hq⟩ := Option.bind_eq_some_iff.mp hq
  obtain ⟨eoa1, eta1⟩ := jw_rc_spec ea1
  obtain ⟨w3, h2, ew3, hq⟩ := jw_b2_spec hq
  refine jw_callV (As := [.int (47 : Int32)]) (S := []) (a := a1) (v := some (.int w3)) dX6_readReplace_3 mt_X6_pass in_X6_pass se_X6_pass lk_X6_72 (c_X6_pass ew3) eta1 (by decide) rfl rfl (by decide) (Nat.le_of_ble_eq_true rfl) (by cases eoa1; rfl) ?_
  rcases jw_if hq with ⟨c4, hq⟩ | ⟨c4, hq⟩
  · refine jw_if_ne_f (tgt := 11) dX6_readReplace_6 (by decide) c4 ?_
    refine jw_iconst dX6_readReplace_9 (v := (0 : Int32)) (by decide) ?_
    cases hq
    exact jw_iret (ty := .boolean) dX6_readReplace_10 rfl rfl
  · refine jw_if_ne_t (tgt := 11) dX6_readReplace_6 (by decide) c4 ?_
    refine jw_aload_n dX6_readReplace_11 (o := x1) rfl ?_
    refine jw_aload_n dX6_readReplace_12 (o := (some x0)) rfl ?_
    obtain ⟨a5, ea5, hq⟩ := Option.bind_eq_some_iff.mp hq
    obtain ⟨eoa5, eta5⟩ := jw_rc_spec ea5
    obtain ⟨w7, h6, ew7, hq⟩ := jw_b2_spec hq
    refine jw_callV (As := []) (S := [va_rf x1]) (a := a5) (v := some (.int w7)) dX6_readReplace_13 mt_X6_readPattern in_X6_readPattern se_X6_readPattern lk_X6_53 (c_X6_readPattern ew7) eta5 (by decide) rfl rfl (by decide) (by simp only [List.map_cons, List.map_nil, List.sum_cons, List.sum_nil, jw_cat_rf, jw_cat_i, jw_cat_l, jw_cat_a, jw_cat_s] <;> decide) (by cases eoa5; rfl) ?_
    obtain ⟨h8, eh8, hq⟩ := Option.bind_eq_some_iff.mp hq
    refine jw_putI (o := x1) dX6_readReplace_16 eh8 fl_X6_165 rfl rfl ?_
    refine jw_aload_n dX6_readReplace_19 (o := x1) rfl ?_
    obtain ⟨v9, ev9, hq⟩ := Option.bind_eq_some_iff.mp hq
    refine jw_getI (o := x1) dX6_readReplace_20 ev9 fl_X6_165 rfl ?_
    refine jw_iconst dX6_readReplace_23 (v := (-1 : Int32)) (by decide) ?_
    rcases jw_if hq with ⟨c10, hq⟩ | ⟨c10, hq⟩
    · refine jw_icmp_eq_t (tgt := 36) dX6_readReplace_24 (by decide) c10 ?_
      refine jw_iconst dX6_readReplace_36 (v := (0 : Int32)) (by decide) ?_
      cases hq
      exact jw_iret (ty := .boolean) dX6_readReplace_37 rfl rfl
    · refine jw_icmp_eq_f (tgt := 36) dX6_readReplace_24 (by decide) c10 ?_
      refine jw_aload_n dX6_readReplace_27 (o := (some x0)) rfl ?_
      refine jw_bipush dX6_readReplace_28 (v := (47 : Int32)) (by decide) ?_
      obtain ⟨a11, ea11, hq⟩ := Option.bind_eq_some_iff.mp hq
      obtain ⟨eoa11, eta11⟩ := jw_rc_spec ea11
      obtain ⟨w13, h12, ew13, hq⟩ := jw_b2_spec hq
      refine jw_callV (As := [.int (47 : Int32)]) (S := []) (a := a11) (v := some (.int w13)) dX6_readReplace_30 mt_X6_pass in_X6_pass se_X6_pass lk_X6_72 (c_X6_pass ew13) eta11 (by decide) rfl rfl (by decide) (Nat.le_of_ble_eq_true rfl) (by cases eoa11; rfl) ?_
      rcases jw_if hq with ⟨c14, hq⟩ | ⟨c14, hq⟩
      · refine jw_if_ne_f (tgt := 38) dX6_readReplace_33 (by decide) c14 ?_
        refine jw_iconst dX6_readReplace_36 (v := (0 : Int32)) (by decide) ?_
        cases hq
        exact jw_iret (ty := .boolean) dX6_readReplace_37 rfl rfl
      · refine jw_if_ne_t (tgt := 38) dX6_readReplace_33 (by decide) c14 ?_
        refine jw_aload_n dX6_readReplace_38 (o := x1) rfl ?_
        refine jw_aload_n dX6_readReplace_39 (o := (some x0)) rfl ?_
        obtain ⟨v15, ev15, hq⟩ := Option.bind_eq_some_iff.mp hq
        refine jw_getI (o := (some x0)) dX6_readReplace_40 ev15 fl_X6_43 rfl ?_
        obtain ⟨h16, eh16, hq⟩ := Option.bind_eq_some_iff.mp hq
        refine jw_putI (o := x1) dX6_readReplace_43 eh16 fl_X6_155 rfl rfl ?_
        refine jw_iconst dX6_readReplace_46 (v := (0 : Int32)) (by decide) ?_
        refine jw_istore_n (L' := [some (.ref x0), some (va_rf x1), some (.int (0 : Int32)), none]) dX6_readReplace_47 (Nat.le_of_ble_eq_true rfl) ((jw_st1_of (j := 1) jw_long_rf).trans rfl) ?_
        exact l_X6_readReplace_b48  jw_FU _ _ _ _ _ _ hq

theorem c_X6_readReplace {h : jw_H} {x0 : Nat} {x1 : Option Nat} {r : Int32} {h' : jw_H} (hq : f_X6_readReplace h x0 x1 = some (r, h')) : jw_Con (Cond.code yX6_readReplace cX6_readReplace 4 (some .boolean)) yX6_readReplace 3 [.ref x0, va_rf x1] h (.inl (some (.int r))) h' :=
  jw_con false (plainFor_of_name (by decide +kernel)) (fun z => nomatch z) (by simp [jw_ent, jw_sl0_nil, jw_sl0_int, jw_sl0_long, jw_sl0_ref, jw_sl0_rf, jw_sl0_scr, List.replicate]) (by simp [jw_sl0_nil, jw_sl0_int, jw_sl0_long, jw_sl0_ref, jw_sl0_rf, jw_sl0_scr]) (l_X6_readReplace hq)


/-! X6_readTurn -/
noncomputable def g_X6_readTurn_b96 (k96 : jw_H → Nat → Option Nat → Int32 → Option (Int32 × jw_H)) (h : jw_H) (x0 : Nat) (x1 : Option Nat) (x2 : Int32) : Option (Int32 × jw_H) :=
 (jw_gI h 5 x1 5).bind fun v1 =>
 if v1 ≤ x2 then ((jw_rc h 6 (some x0)).bind fun a3 =>
 jw_b2 (f_X6_pass h a3 (47 : Int32)) fun w5 h4 =>
 (jw_rb w5).bind fun v6 =>
 some (w5, h4))
 else ((jw_rc h 6 (some x0)).bind fun a7 =>
 jw_b2 (f_X6_peek h a7) fun w9 h8 =>
 jw_b2 (f_X11_bitOf h8 w9) fun w11 h10 =>
 if (lg_cmp w11 (0 : Int64)) = 0 then (some ((0 : Int32), h10))
 else ((jw_gI h10 6 (some x0) 5).bind fun v13 =>
 (jw_pI h10 6 (some x0) 5 (v13 + (1 : Int32))).bind fun h14 =>
 k96 h14 x0 x1 (x2 + (1 : Int32))))

noncomputable def f_X6_readTurn_b96 (n : Nat) : jw_H → Nat → Option Nat → Int32 → Option (Int32 × jw_H) :=
 Nat.rec (fun _ _ _ _ => none) (fun _ k96 => g_X6_readTurn_b96 k96) n

noncomputable def g_X6_readTurn_b55 (h : jw_H) (x0 : Nat) (x1 : Option Nat) : Option (Int32 × jw_H) :=
 (jw_gI h 6 (some x0) 5).bind fun v1 =>
 (jw_gI h 5 x1 7).bind fun v2 =>
 (jw_pI h 5 x1 5 (v1 - v2)).bind fun h3 =>
 (jw_gI h3 5 x1 5).bind fun v4 =>
 if v4 = 0 then (some ((0 : Int32), h3))
 else ((jw_rc h3 6 (some x0)).bind fun a6 =>
 jw_b2 (f_X6_pass h3 a6 (47 : Int32)) fun w8 h7 =>
 if w8 = 0 then (some ((0 : Int32), h7))
 else ((jw_gI h7 6 (some x0) 5).bind fun v10 =>
 (jw_pI h7 5 x1 8 v10).bind fun h11 =>
 f_X6_readTurn_b96  jw_FU h11 x0 x1 (0 : Int32)))

noncomputable def g_X6_readTurn_b21 (k21 : jw_H → Nat → Option Nat → Int32 → Option (Int32 × jw_H)) (h : jw_H) (x0 : Nat) (x1 : Option Nat) (x2 : Int32) : Option (Int32 × jw_H) :=
 if (60 : Int32) < x2 then (g_X6_readTurn_b55  h x0 x1)
 else ((jw_rc h 6 (some x0)).bind fun a2 =>
 jw_b2 (f_X6_peek h a2) fun w4 h3 =>
 jw_b2 (f_X11_bitOf h3 w4) fun w6 h5 =>
 if (lg_cmp w6 (0 : Int64)) = 0 then (g_X6_readTurn_b55  h5 x0 x1)
 else ((jw_gI h5 6 (some x0) 5).bind fun v8 =>
 (jw_pI h5 6 (some x0) 5 (v8 + (1 : Int32))).bind fun h9 =>
 k21 h9 x0 x1 (x2 + (1 : Int32))))

noncomputable def f_X6_readTurn_b21 (n : Nat) : jw_H → Nat → Option Nat → Int32 → Option (Int32 × jw_H) :=
 Nat.rec (fun _ _ _ _ => none) (fun _ k21 => g_X6_readTurn_b21 k21) n

noncomputable def f_X6_readTurn (h : jw_H) (x0 : Nat) (x1 : Option Nat) : Option (Int32 × jw_H) :=
 (jw_rc h 6 (some x0)).bind fun a1 =>
 jw_b2 (f_X6_pass h a1 (47 : Int32)) fun w3 h2 =>
 if w3 = 0 then (some ((0 : Int32), h2))
 else ((jw_gI h2 6 (some x0) 5).bind fun v5 =>
 (jw_pI h2 5 x1 7 v5).bind fun h6 =>
 f_X6_readTurn_b21  jw_FU h6 x0 x1 (0 : Int32))

set_option maxRecDepth 100000 in
set_option maxHeartbeats 4000000 in
theorem l_X6_readTurn_b96g {hi : jw_H} {k96 : jw_H → Nat → Option Nat → Int32 → Option (Int32 × jw_H)} (hk96 : ∀ (h : jw_H) (x0 : Nat) (x1 : Option Nat) (x2 : Int32) (r : Int32) (h' : jw_H), k96 h x0 x1 x2 = some (r, h') → jw_E 1 uX6_readTurn hi 96 [some (.ref x0), some (va_rf x1), some (.int x2)] [] h (.inl (some (.int r))) h') {h : jw_H} {x0 : Nat} {x1 : Option Nat} {x2 : Int32} {r : Int32} {h' : jw_H} (hq : g_X6_readTurn_b96 k96 h x0 x1 x2 = some (r, h')) : jw_E 1 uX6_readTurn hi 96 [some (.ref x0), some (va_rf x1), some (.int x2)] [] h (.inl (some (.int r))) h' := by
  unfold g_X6_readTurn_b96 at hq
  refine jw_iload_n dX6_readTurn_96 rfl ?_
  refine jw_aload_n dX6_readTurn_97 (o := x1) rfl ?_
  obtain ⟨v1, ev1, hq⟩ := Option.bind_eq_some_iff.mp hq
  refine jw_getI (o := x1) dX6_readTurn_98 ev1 fl_X6_140 rfl ?_
  rcases jw_if hq with ⟨c2, hq⟩ | ⟨c2, hq⟩
  · refine jw_icmp_ge_t (tgt := 134) dX6_readTurn_101 (by decide) c2 ?_
    refine jw_aload_n dX6_readTurn_134 (o := (some x0)) rfl ?_
    refine jw_bipush dX6_readTurn_135 (v := (47 : Int32)) (by decide) ?_
    obtain ⟨a3, ea3, hq⟩ := Option.bind_eq_some_iff.mp hq
    obtain ⟨eoa3, eta3⟩ := jw_rc_spec ea3
    obtain ⟨w5, h4, ew5, hq⟩ := jw_b2_spec hq
    refine jw_callV (As := [.int (47 : Int32)]) (S := []) (a := a3) (v := some (.int w5)) dX6_readTurn_137 mt_X6_pass in_X6_pass se_X6_pass lk_X6_72 (c_X6_pass ew5) eta3 (by decide) rfl rfl (by decide) (Nat.le_of_ble_eq_true rfl) (by cases eoa3; rfl) ?_
    obtain ⟨v6, ev6, hq⟩ := Option.bind_eq_some_iff.mp hq
    cases hq
    exact jw_iret (ty := .boolean) dX6_readTurn_140 rfl (jw_rb_spec ev6)
  · refine jw_icmp_ge_f (tgt := 134) dX6_readTurn_101 (by decide) c2 ?_
    refine jw_aload_n dX6_readTurn_104 (o := (some x0)) rfl ?_
    obtain ⟨a7, ea7, hq⟩ := Option.bind_eq_some_iff.mp hq
    obtain ⟨eoa7, eta7⟩ := jw_rc_spec ea7
    obtain ⟨w9, h8, ew9, hq⟩ := jw_b2_spec hq
    refine jw_callV (As := []) (S := []) (a := a7) (v := some (.int w9)) dX6_readTurn_105 mt_X6_peek in_X6_peek se_X6_peek lk_X6_93 (c_X6_peek ew9) eta7 (by decide) rfl rfl (by decide) (Nat.le_of_ble_eq_true rfl) (by cases eoa7; rfl) ?_
    obtain ⟨w11, h10, ew11, hq⟩ := jw_b2_spec hq
    refine jw_callS (As := [.int w9]) (S := []) (v := some (.long w11)) dX6_readTurn_108 mt_X11_bitOf st_X11_bitOf lk_X6_158 (c_X11_bitOf ew11) rfl (by decide) (Nat.le_of_ble_eq_true rfl) rfl ?_
    refine jw_lconst dX6_readTurn_111 (v := (0 : Int64)) (by decide) ?_
    refine jw_lcmp dX6_readTurn_112 ?_
    rcases jw_if hq with ⟨c12, hq⟩ | ⟨c12, hq⟩
    · refine jw_if_ne_f (tgt := 118) dX6_readTurn_113 (by decide) c12 ?_
      refine jw_iconst dX6_readTurn_116 (v := (0 : Int32)) (by decide) ?_
      cases hq
      exact jw_iret (ty := .boolean) dX6_readTurn_117 rfl rfl
    · refine jw_if_ne_t (tgt := 118) dX6_readTurn_113 (by decide) c12 ?_
      refine jw_aload_n dX6_readTurn_118 (o := (some x0)) rfl ?_
      refine jw_dup dX6_readTurn_119 rfl ?_
      obtain ⟨v13, ev13, hq⟩ := Option.bind_eq_some_iff.mp hq
      refine jw_getI (o := (some x0)) dX6_readTurn_120 ev13 fl_X6_43 rfl ?_
      refine jw_iconst dX6_readTurn_123 (v := (1 : Int32)) (by decide) ?_
      refine jw_iadd dX6_readTurn_124 ?_
      obtain ⟨h14, eh14, hq⟩ := Option.bind_eq_some_iff.mp hq
      refine jw_putI (o := (some x0)) dX6_readTurn_125 eh14 fl_X6_43 rfl rfl ?_
      refine jw_iinc (L' := [some (.ref x0), some (va_rf x1), some (.int (x2 + (1 : Int32)))]) dX6_readTurn_128 rfl (v := (1 : Int32)) (by decide) (Nat.le_of_ble_eq_true rfl) ((jw_st1_of (j := 1) jw_long_rf).trans rfl) ?_
      refine jw_goto (tgt := 96) dX6_readTurn_131 (by decide) ?_
      exact hk96 _ _ _ _ _ _ hq

theorem l_X6_readTurn_b96 {hi : jw_H} : ∀ (n : Nat) (h : jw_H) (x0 : Nat) (x1 : Option Nat) (x2 : Int32) (r : Int32) (h' : jw_H), f_X6_readTurn_b96  n h x0 x1 x2 = some (r, h') → jw_E 1 uX6_readTurn hi 96 [some (.ref x0), some (va_rf x1), some (.int x2)] [] h (.inl (some (.int r))) h' := by
  intro n
  induction n with
  | zero => intro h x0 x1 x2 r h' hq; exact nomatch hq
  | succ n ih => intro h x0 x1 x2 r h' hq; exact l_X6_readTurn_b96g ih hq

set_option maxRecDepth 100000 in
set_option maxHeartbeats 4000000 in
theorem l_X6_readTurn_b55 {hi : jw_H} {h : jw_H} {x0 : Nat} {x1 : Option Nat} {r : Int32} {h' : jw_H} (hq : g_X6_readTurn_b55  h x0 x1 = some (r, h')) : jw_E 1 uX6_readTurn hi 55 [some (.ref x0), some (va_rf x1), none] [] h (.inl (some (.int r))) h' := by
  unfold g_X6_readTurn_b55 at hq
  refine jw_aload_n dX6_readTurn_55 (o := x1) rfl ?_
  refine jw_aload_n dX6_readTurn_56 (o := (some x0)) rfl ?_
  obtain ⟨v1, ev1, hq⟩ := Option.bind_eq_some_iff.mp hq
  refine jw_getI (o := (some x0)) dX6_readTurn_57 ev1 fl_X6_43 rfl ?_
  refine jw_aload_n dX6_readTurn_60 (o := x1) rfl ?_
  obtain ⟨v2, ev2, hq⟩ := Option.bind_eq_some_iff.mp hq
  refine jw_getI (o := x1) dX6_readTurn_61 ev2 fl_X6_155 rfl ?_
  refine jw_isub dX6_readTurn_64 ?_
  obtain ⟨h3, eh3, hq⟩ := Option.bind_eq_some_iff.mp hq
  refine jw_putI (o := x1) dX6_readTurn_65 eh3 fl_X6_140 rfl rfl ?_
  refine jw_aload_n dX6_readTurn_68 (o := x1) rfl ?_
  obtain ⟨v4, ev4, hq⟩ := Option.bind_eq_some_iff.mp hq
  refine jw_getI (o := x1) dX6_readTurn_69 ev4 fl_X6_140 rfl ?_
  rcases jw_if hq with ⟨c5, hq⟩ | ⟨c5, hq⟩
  · refine jw_if_eq_t (tgt := 84) dX6_readTurn_72 (by decide) c5 ?_
    refine jw_iconst dX6_readTurn_84 (v := (0 : Int32)) (by decide) ?_
    cases hq
    exact jw_iret (ty := .boolean) dX6_readTurn_85 rfl rfl
  · refine jw_if_eq_f (tgt := 84) dX6_readTurn_72 (by decide) c5 ?_
    refine jw_aload_n dX6_readTurn_75 (o := (some x0)) rfl ?_
    refine jw_bipush dX6_readTurn_76 (v := (47 : Int32)) (by decide) ?_
    obtain ⟨a6, ea6, hq⟩ := Option.bind_eq_some_iff.mp hq
    obtain ⟨eoa6, eta6⟩ := jw_rc_spec ea6
    obtain ⟨w8, h7, ew8, hq⟩ := jw_b2_spec hq
    refine jw_callV (As := [.int (47 : Int32)]) (S := []) (a := a6) (v := some (.int w8)) dX6_readTurn_78 mt_X6_pass in_X6_pass se_X6_pass lk_X6_72 (c_X6_pass ew8) eta6 (by decide) rfl rfl (by decide) (Nat.le_of_ble_eq_true rfl) (by cases eoa6; rfl) ?_
    rcases jw_if hq with ⟨c9, hq⟩ | ⟨c9, hq⟩
    · refine jw_if_ne_f (tgt := 86) dX6_readTurn_81 (by decide) c9 ?_
      refine jw_iconst dX6_readTurn_84 (v := (0 : Int32)) (by decide) ?_
      cases hq
      exact jw_iret (ty := .boolean) dX6_readTurn_85 rfl rfl
    · refine jw_if_ne_t (tgt := 86) dX6_readTurn_81 (by decide) c9 ?_
      refine jw_aload_n dX6_readTurn_86 (o := x1) rfl ?_
      refine jw_aload_n dX6_readTurn_87 (o := (some x0)) rfl ?_
      obtain ⟨v10, ev10, hq⟩ := Option.bind_eq_some_iff.mp hq
      refine jw_getI (o := (some x0)) dX6_readTurn_88 ev10 fl_X6_43 rfl ?_
      obtain ⟨h11, eh11, hq⟩ := Option.bind_eq_some_iff.mp hq
      refine jw_putI (o := x1) dX6_readTurn_91 eh11 fl_X6_162 rfl rfl ?_
      refine jw_iconst dX6_readTurn_94 (v := (0 : Int32)) (by decide) ?_
      refine jw_istore_n (L' := [some (.ref x0), some (va_rf x1), some (.int (0 : Int32))]) dX6_readTurn_95 (Nat.le_of_ble_eq_true rfl) ((jw_st1_of (j := 1) jw_long_rf).trans rfl) ?_
      exact l_X6_readTurn_b96  jw_FU _ _ _ _ _ _ hq

set_option maxRecDepth 100000 in
set_option maxHeartbeats 4000000 in
theorem l_X6_readTurn_b21g {hi : jw_H} {k21 : jw_H → Nat → Option Nat → Int32 → Option (Int32 × jw_H)} (hk21 : ∀ (h : jw_H) (x0 : Nat) (x1 : Option Nat) (x2 : Int32) (r : Int32) (h' : jw_H), k21 h x0 x1 x2 = some (r, h') → jw_E 1 uX6_readTurn hi 21 [some (.ref x0), some (va_rf x1), some (.int x2)] [] h (.inl (some (.int r))) h') {h : jw_H} {x0 : Nat} {x1 : Option Nat} {x2 : Int32} {r : Int32} {h' : jw_H} (hq : g_X6_readTurn_b21 k21 h x0 x1 x2 = some (r, h')) : jw_E 1 uX6_readTurn hi 21 [some (.ref x0), some (va_rf x1), some (.int x2)] [] h (.inl (some (.int r))) h' := by
  unfold g_X6_readTurn_b21 at hq
  refine jw_iload_n dX6_readTurn_21 rfl ?_
  refine jw_bipush dX6_readTurn_22 (v := (60 : Int32)) (by decide) ?_
  rcases jw_if hq with ⟨c1, hq⟩ | ⟨c1, hq⟩
  · refine jw_icmp_gt_t (tgt := 55) dX6_readTurn_24 (by decide) c1 ?_
    refine jw_forget [true, true, false] (L' := [some (.ref x0), some (va_rf x1), none]) rfl ?_
    exact l_X6_readTurn_b55  hq
  · refine jw_icmp_gt_f (tgt := 55) dX6_readTurn_24 (by decide) c1 ?_
    refine jw_aload_n dX6_readTurn_27 (o := (some x0)) rfl ?_
    obtain ⟨a2, ea2, hq⟩ := Option.bind_eq_some_iff.mp hq
    obtain ⟨eoa2, eta2⟩ := jw_rc_spec ea2
    obtain ⟨w4, h3, ew4, hq⟩ := jw_b2_spec hq
    refine jw_callV (As := []) (S := []) (a := a2) (v := some (.int w4)) dX6_readTurn_28 mt_X6_peek in_X6_peek se_X6_peek lk_X6_93 (c_X6_peek ew4) eta2 (by decide) rfl rfl (by decide) (Nat.le_of_ble_eq_true rfl) (by cases eoa2; rfl) ?_
    obtain ⟨w6, h5, ew6, hq⟩ := jw_b2_spec hq
    refine jw_callS (As := [.int w4]) (S := []) (v := some (.long w6)) dX6_readTurn_31 mt_X11_bitOf st_X11_bitOf lk_X6_158 (c_X11_bitOf ew6) rfl (by decide) (Nat.le_of_ble_eq_true rfl) rfl ?_
    refine jw_lconst dX6_readTurn_34 (v := (0 : Int64)) (by decide) ?_
    refine jw_lcmp dX6_readTurn_35 ?_
    rcases jw_if hq with ⟨c7, hq⟩ | ⟨c7, hq⟩
    · refine jw_if_eq_t (tgt := 55) dX6_readTurn_36 (by decide) c7 ?_
      refine jw_forget [true, true, false] (L' := [some (.ref x0), some (va_rf x1), none]) rfl ?_
      exact l_X6_readTurn_b55  hq
    · refine jw_if_eq_f (tgt := 55) dX6_readTurn_36 (by decide) c7 ?_
      refine jw_aload_n dX6_readTurn_39 (o := (some x0)) rfl ?_
      refine jw_dup dX6_readTurn_40 rfl ?_
      obtain ⟨v8, ev8, hq⟩ := Option.bind_eq_some_iff.mp hq
      refine jw_getI (o := (some x0)) dX6_readTurn_41 ev8 fl_X6_43 rfl ?_
      refine jw_iconst dX6_readTurn_44 (v := (1 : Int32)) (by decide) ?_
      refine jw_iadd dX6_readTurn_45 ?_
      obtain ⟨h9, eh9, hq⟩ := Option.bind_eq_some_iff.mp hq
      refine jw_putI (o := (some x0)) dX6_readTurn_46 eh9 fl_X6_43 rfl rfl ?_
      refine jw_iinc (L' := [some (.ref x0), some (va_rf x1), some (.int (x2 + (1 : Int32)))]) dX6_readTurn_49 rfl (v := (1 : Int32)) (by decide) (Nat.le_of_ble_eq_true rfl) ((jw_st1_of (j := 1) jw_long_rf).trans rfl) ?_
      refine jw_goto (tgt := 21) dX6_readTurn_52 (by decide) ?_
      exact hk21 _ _ _ _ _ _ hq

theorem l_X6_readTurn_b21 {hi : jw_H} : ∀ (n : Nat) (h : jw_H) (x0 : Nat) (x1 : Option Nat) (x2 : Int32) (r : Int32) (h' : jw_H), f_X6_readTurn_b21  n h x0 x1 x2 = some (r, h') → jw_E 1 uX6_readTurn hi 21 [some (.ref x0), some (va_rf x1), some (.int x2)] [] h (.inl (some (.int r))) h' := by
  intro n
  induction n with
  | zero => intro h x0 x1 x2 r h' hq; exact nomatch hq
  | succ n ih => intro h x0 x1 x2 r h' hq; exact l_X6_readTurn_b21g ih hq

set_option maxRecDepth 100000 in
set_option maxHeartbeats 4000000 in
theorem l_X6_readTurn {hi : jw_H} {h : jw_H} {x0 : Nat} {x1 : Option Nat} {r : Int32} {h' : jw_H} (hq : f_X6_readTurn  h x0 x1 = some (r, h')) : jw_E 1 uX6_readTurn hi 0 [some (.ref x0), some (va_rf x1), none] [] h (.inl (some (.int r))) h' := by
  unfold f_X6_readTurn at hq
  refine jw_aload_n dX6_readTurn_0 (o := (some x0)) rfl ?_
  refine jw_bipush dX6_readTurn_1 (v := (47 : Int32)) (by decide) ?_
  obtain ⟨a1, ea1, hq⟩ := Option.bind_eq_some_iff.mp hq
  obtain ⟨eoa1, eta1⟩ := jw_rc_spec ea1
  obtain ⟨w3, h2, ew3, hq⟩ := jw_b2_spec hq
  refine jw_callV (As := [.int (47 : Int32)]) (S := []) (a := a1) (v := some (.int w3)) dX6_readTurn_3 mt_X6_pass in_X6_pass se_X6_pass lk_X6_72 (c_X6_pass ew3) eta1 (by decide) rfl rfl (by decide) (Nat.le_of_ble_eq_true rfl) (by cases eoa1; rfl) ?_
  rcases jw_if hq with ⟨c4, hq⟩ | ⟨c4, hq⟩
  · refine jw_if_ne_f (tgt := 11) dX6_readTurn_6 (by decide) c4 ?_
    refine jw_iconst dX6_readTurn_9 (v := (0 : Int32)) (by decide) ?_
    cases hq
    exact jw_iret (ty := .boolean) dX6_readTurn_10 rfl rfl
  · refine jw_if_ne_t (tgt := 11) dX6_readTurn_6 (by decide) c4 ?_
    refine jw_aload_n dX6_readTurn_11 (o := x1) rfl ?_
    refine jw_aload_n dX6_readTurn_12 (o := (some x0)) rfl ?_
    obtain ⟨v5, ev5, hq⟩ := Option.bind_eq_some_iff.mp hq
    refine jw_getI (o := (some x0)) dX6_readTurn_13 ev5 fl_X6_43 rfl ?_
    obtain ⟨h6, eh6, hq⟩ := Option.bind_eq_some_iff.mp hq
    refine jw_putI (o := x1) dX6_readTurn_16 eh6 fl_X6_155 rfl rfl ?_
    refine jw_iconst dX6_readTurn_19 (v := (0 : Int32)) (by decide) ?_
    refine jw_istore_n (L' := [some (.ref x0), some (va_rf x1), some (.int (0 : Int32))]) dX6_readTurn_20 (Nat.le_of_ble_eq_true rfl) ((jw_st1_of (j := 1) jw_long_rf).trans rfl) ?_
    exact l_X6_readTurn_b21  jw_FU _ _ _ _ _ _ hq

theorem c_X6_readTurn {h : jw_H} {x0 : Nat} {x1 : Option Nat} {r : Int32} {h' : jw_H} (hq : f_X6_readTurn h x0 x1 = some (r, h')) : jw_Con (Cond.code yX6_readTurn cX6_readTurn 3 (some .boolean)) yX6_readTurn 1 [.ref x0, va_rf x1] h (.inl (some (.int r))) h' :=
  jw_con false (plainFor_of_name (by decide +kernel)) (fun z => nomatch z) (by simp [jw_ent, jw_sl0_nil, jw_sl0_int, jw_sl0_long, jw_sl0_ref, jw_sl0_rf, jw_sl0_scr, List.replicate]) (by simp [jw_sl0_nil, jw_sl0_int, jw_sl0_long, jw_sl0_ref, jw_sl0_rf, jw_sl0_scr]) (l_X6_readTurn hq)


/-! X6_readPatternOf -/
noncomputable def g_X6_readPatternOf_b41 (h : jw_H) (t0 : Int32) : Option (Int32 × jw_H) :=
 (jw_rb t0).bind fun v1 =>
 some (t0, h)

noncomputable def g_X6_readPatternOf_b40 (h : jw_H)  : Option (Int32 × jw_H) :=
 g_X6_readPatternOf_b41  h (0 : Int32)

noncomputable def f_X6_readPatternOf (h : jw_H) (x0 : Nat) (x1 : Option Nat) : Option (Int32 × jw_H) :=
 (jw_rc h 6 (some x0)).bind fun a1 =>
 jw_b2 (f_X6_pass h a1 (47 : Int32)) fun w3 h2 =>
 if w3 = 0 then (some ((0 : Int32), h2))
 else ((jw_rc h2 6 (some x0)).bind fun a5 =>
 jw_b2 (f_X6_readPattern h2 a5) fun w7 h6 =>
 (jw_pI h6 5 x1 6 w7).bind fun h8 =>
 (jw_gI h8 5 x1 6).bind fun v9 =>
 if v9 = (-1 : Int32) then (g_X6_readPatternOf_b40  h8 )
 else ((jw_rc h8 6 (some x0)).bind fun a11 =>
 jw_b2 (f_X6_pass h8 a11 (47 : Int32)) fun w13 h12 =>
 if w13 = 0 then (g_X6_readPatternOf_b40  h12 )
 else (g_X6_readPatternOf_b41  h12 (1 : Int32))))

set_option maxRecDepth 100000 in
set_option maxHeartbeats 4000000 in
theorem l_X6_readPatternOf_b41 {hi : jw_H} {h : jw_H} {t0 : Int32} {r : Int32} {h' : jw_H} (hq : g_X6_readPatternOf_b41  h t0 = some (r, h')) : jw_E 3 uX6_readPatternOf hi 41 [none, none] [.int t0] h (.inl (some (.int r))) h' := by
  unfold g_X6_readPatternOf_b41 at hq
  obtain ⟨v1, ev1, hq⟩ := Option.bind_eq_some_iff.mp hq
  cases hq
  exact jw_iret (ty := .boolean) dX6_readPatternOf_41 rfl (jw_rb_spec ev1)

set_option maxRecDepth 100000 in
set_option maxHeartbeats 4000000 in
theorem l_X6_readPatternOf_b40 {hi : jw_H} {h : jw_H}  {r : Int32} {h' : jw_H} (hq : g_X6_readPatternOf_b40  h  = some (r, h')) : jw_E 3 uX6_readPatternOf hi 40 [none, none] [] h (.inl (some (.int r))) h' := by
  unfold g_X6_readPatternOf_b40 at hq
  refine jw_iconst dX6_readPatternOf_40 (v := (0 : Int32)) (by decide) ?_
  exact l_X6_readPatternOf_b41  hq

set_option maxRecDepth 100000 in
set_option maxHeartbeats 4000000 in
theorem l_X6_readPatternOf {hi : jw_H} {h : jw_H} {x0 : Nat} {x1 : Option Nat} {r : Int32} {h' : jw_H} (hq : f_X6_readPatternOf  h x0 x1 = some (r, h')) : jw_E 3 uX6_readPatternOf hi 0 [some (.ref x0), some (va_rf x1)] [] h (.inl (some (.int r))) h' := by
  unfold f_X6_readPatternOf at hq
  refine jw_aload_n dX6_readPatternOf_0 (o := (some x0)) rfl ?_
  refine jw_bipush dX6_readPatternOf_1 (v := (47 : Int32)) (by decide) ?_
  obtain ⟨a1, ea1, hq⟩ := Option.bind_eq_some_iff.mp hq
  obtain ⟨eoa1, eta1⟩ := jw_rc_spec ea1
  obtain ⟨w3, h2, ew3, hq⟩ := jw_b2_spec hq
  refine jw_callV (As := [.int (47 : Int32)]) (S := []) (a := a1) (v := some (.int w3)) dX6_readPatternOf_3 mt_X6_pass in_X6_pass se_X6_pass lk_X6_72 (c_X6_pass ew3) eta1 (by decide) rfl rfl (by decide) (Nat.le_of_ble_eq_true rfl) (by cases eoa1; rfl) ?_
  rcases jw_if hq with ⟨c4, hq⟩ | ⟨c4, hq⟩
  · refine jw_if_ne_f (tgt := 11) dX6_readPatternOf_6 (by decide) c4 ?_
    refine jw_iconst dX6_readPatternOf_9 (v := (0 : Int32)) (by decide) ?_
    cases hq
    exact jw_iret (ty := .boolean) dX6_readPatternOf_10 rfl rfl
  · refine jw_if_ne_t (tgt := 11) dX6_readPatternOf_6 (by decide) c4 ?_
    refine jw_aload_n dX6_readPatternOf_11 (o := x1) rfl ?_
    refine jw_aload_n dX6_readPatternOf_12 (o := (some x0)) rfl ?_
    obtain ⟨a5, ea5, hq⟩ := Option.bind_eq_some_iff.mp hq
    obtain ⟨eoa5, eta5⟩ := jw_rc_spec ea5
    obtain ⟨w7, h6, ew7, hq⟩ := jw_b2_spec hq
    refine jw_callV (As := []) (S := [va_rf x1]) (a := a5) (v := some (.int w7)) dX6_readPatternOf_13 mt_X6_readPattern in_X6_readPattern se_X6_readPattern lk_X6_53 (c_X6_readPattern ew7) eta5 (by decide) rfl rfl (by decide) (by simp only [List.map_cons, List.map_nil, List.sum_cons, List.sum_nil, jw_cat_rf, jw_cat_i, jw_cat_l, jw_cat_a, jw_cat_s] <;> decide) (by cases eoa5; rfl) ?_
    obtain ⟨h8, eh8, hq⟩ := Option.bind_eq_some_iff.mp hq
    refine jw_putI (o := x1) dX6_readPatternOf_16 eh8 fl_X6_165 rfl rfl ?_
    refine jw_aload_n dX6_readPatternOf_19 (o := x1) rfl ?_
    obtain ⟨v9, ev9, hq⟩ := Option.bind_eq_some_iff.mp hq
    refine jw_getI (o := x1) dX6_readPatternOf_20 ev9 fl_X6_165 rfl ?_
    refine jw_iconst dX6_readPatternOf_23 (v := (-1 : Int32)) (by decide) ?_
    rcases jw_if hq with ⟨c10, hq⟩ | ⟨c10, hq⟩
    · refine jw_icmp_eq_t (tgt := 40) dX6_readPatternOf_24 (by decide) c10 ?_
      refine jw_forget [false, false] (L' := [none, none]) rfl ?_
      exact l_X6_readPatternOf_b40  hq
    · refine jw_icmp_eq_f (tgt := 40) dX6_readPatternOf_24 (by decide) c10 ?_
      refine jw_aload_n dX6_readPatternOf_27 (o := (some x0)) rfl ?_
      refine jw_bipush dX6_readPatternOf_28 (v := (47 : Int32)) (by decide) ?_
      obtain ⟨a11, ea11, hq⟩ := Option.bind_eq_some_iff.mp hq
      obtain ⟨eoa11, eta11⟩ := jw_rc_spec ea11
      obtain ⟨w13, h12, ew13, hq⟩ := jw_b2_spec hq
      refine jw_callV (As := [.int (47 : Int32)]) (S := []) (a := a11) (v := some (.int w13)) dX6_readPatternOf_30 mt_X6_pass in_X6_pass se_X6_pass lk_X6_72 (c_X6_pass ew13) eta11 (by decide) rfl rfl (by decide) (Nat.le_of_ble_eq_true rfl) (by cases eoa11; rfl) ?_
      rcases jw_if hq with ⟨c14, hq⟩ | ⟨c14, hq⟩
      · refine jw_if_eq_t (tgt := 40) dX6_readPatternOf_33 (by decide) c14 ?_
        refine jw_forget [false, false] (L' := [none, none]) rfl ?_
        exact l_X6_readPatternOf_b40  hq
      · refine jw_if_eq_f (tgt := 40) dX6_readPatternOf_33 (by decide) c14 ?_
        refine jw_iconst dX6_readPatternOf_36 (v := (1 : Int32)) (by decide) ?_
        refine jw_goto (tgt := 41) dX6_readPatternOf_37 (by decide) ?_
        refine jw_forget [false, false] (L' := [none, none]) rfl ?_
        exact l_X6_readPatternOf_b41  hq

theorem c_X6_readPatternOf {h : jw_H} {x0 : Nat} {x1 : Option Nat} {r : Int32} {h' : jw_H} (hq : f_X6_readPatternOf h x0 x1 = some (r, h')) : jw_Con (Cond.code yX6_readPatternOf cX6_readPatternOf 2 (some .boolean)) yX6_readPatternOf 3 [.ref x0, va_rf x1] h (.inl (some (.int r))) h' :=
  jw_con false (plainFor_of_name (by decide +kernel)) (fun z => nomatch z) (by simp [jw_ent, jw_sl0_nil, jw_sl0_int, jw_sl0_long, jw_sl0_ref, jw_sl0_rf, jw_sl0_scr, List.replicate]) (by simp [jw_sl0_nil, jw_sl0_int, jw_sl0_long, jw_sl0_ref, jw_sl0_rf, jw_sl0_scr]) (l_X6_readPatternOf hq)

