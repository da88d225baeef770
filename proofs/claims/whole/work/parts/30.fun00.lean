/-! X0_init -/
noncomputable def f_X0_init (h : jw_H) (x0 : Nat) : Option (Unit × jw_H) :=
 some ((), h)

set_option maxRecDepth 100000 in
set_option maxHeartbeats 4000000 in
theorem l_X0_init {hi : jw_H} {h : jw_H} {x0 : Nat} {r : Unit} {h' : jw_H} (hq : f_X0_init  h x0 = some (r, h')) : jw_E 1 uX0_init hi 0 [some (.ref x0)] [] h (.inl none) h' := by
  unfold f_X0_init at hq
  refine jw_aload_n dX0_init_0 (o := (some x0)) rfl ?_
  refine jw_obj dX0_init_1 ol_X0_1 oi_0 oc_0 (by decide) (Nat.le_of_ble_eq_true rfl) ?_
  cases hq
  exact jw_vret dX0_init_4 rfl

theorem c_X0_init {h : jw_H} {x0 : Nat} {r : Unit} {h' : jw_H} (hq : f_X0_init h x0 = some (r, h')) : jw_Con (Cond.code yX0_init cX0_init 1 none) yX0_init 1 [.ref x0] h (.inl none) h' :=
  jw_con true (plainFor_of_name (by decide +kernel)) (fun _ => rfl) (by simp [jw_ent, jw_sl0_nil, jw_sl0_int, jw_sl0_long, jw_sl0_ref, jw_sl0_rf, jw_sl0_scr, List.replicate]) (by simp [jw_sl0_nil, jw_sl0_int, jw_sl0_long, jw_sl0_ref, jw_sl0_rf, jw_sl0_scr]) (l_X0_init hq)


/-! X0_clear -/
noncomputable def f_X0_clear (h : jw_H) (x0 : Nat) : Option (Unit × jw_H) :=
 (jw_pI h 0 (some x0) 0 (46 : Int32)).bind fun h1 =>
 (jw_pI h1 0 (some x0) 1 (0 : Int32)).bind fun h2 =>
 (jw_pI h2 0 (some x0) 2 (0 : Int32)).bind fun h3 =>
 (jw_pB h3 0 (some x0) 3 (0 : Int32)).bind fun h4 =>
 some ((), h4)

set_option maxRecDepth 100000 in
set_option maxHeartbeats 4000000 in
theorem l_X0_clear {hi : jw_H} {h : jw_H} {x0 : Nat} {r : Unit} {h' : jw_H} (hq : f_X0_clear  h x0 = some (r, h')) : jw_E 0 uX0_clear hi 0 [some (.ref x0)] [] h (.inl none) h' := by
  unfold f_X0_clear at hq
  refine jw_aload_n dX0_clear_0 (o := (some x0)) rfl ?_
  refine jw_bipush dX0_clear_1 (v := (46 : Int32)) (by decide) ?_
  obtain ⟨h1, eh1, hq⟩ := Option.bind_eq_some_iff.mp hq
  refine jw_putI (o := (some x0)) dX0_clear_3 eh1 fl_X0_7 rfl rfl ?_
  refine jw_aload_n dX0_clear_6 (o := (some x0)) rfl ?_
  refine jw_iconst dX0_clear_7 (v := (0 : Int32)) (by decide) ?_
  obtain ⟨h2, eh2, hq⟩ := Option.bind_eq_some_iff.mp hq
  refine jw_putI (o := (some x0)) dX0_clear_8 eh2 fl_X0_13 rfl rfl ?_
  refine jw_aload_n dX0_clear_11 (o := (some x0)) rfl ?_
  refine jw_iconst dX0_clear_12 (v := (0 : Int32)) (by decide) ?_
  obtain ⟨h3, eh3, hq⟩ := Option.bind_eq_some_iff.mp hq
  refine jw_putI (o := (some x0)) dX0_clear_13 eh3 fl_X0_16 rfl rfl ?_
  refine jw_aload_n dX0_clear_16 (o := (some x0)) rfl ?_
  refine jw_iconst dX0_clear_17 (v := (0 : Int32)) (by decide) ?_
  obtain ⟨h4, eh4, hq⟩ := Option.bind_eq_some_iff.mp hq
  refine jw_putB (o := (some x0)) dX0_clear_18 eh4 fl_X0_19 rfl rfl ?_
  cases hq
  exact jw_vret dX0_clear_21 rfl

theorem c_X0_clear {h : jw_H} {x0 : Nat} {r : Unit} {h' : jw_H} (hq : f_X0_clear h x0 = some (r, h')) : jw_Con (Cond.code yX0_clear cX0_clear 1 none) yX0_clear 0 [.ref x0] h (.inl none) h' :=
  jw_con false (plainFor_of_name (by decide +kernel)) (fun z => nomatch z) (by simp [jw_ent, jw_sl0_nil, jw_sl0_int, jw_sl0_long, jw_sl0_ref, jw_sl0_rf, jw_sl0_scr, List.replicate]) (by simp [jw_sl0_nil, jw_sl0_int, jw_sl0_long, jw_sl0_ref, jw_sl0_rf, jw_sl0_scr]) (l_X0_clear hq)


/-! X0_isNumber -/
noncomputable def g_X0_isNumber_b23 (h : jw_H) (t0 : Int32) : Option (Int32 × jw_H) :=
 (jw_rb t0).bind fun v1 =>
 some (t0, h)

noncomputable def g_X0_isNumber_b18 (h : jw_H)  : Option (Int32 × jw_H) :=
 g_X0_isNumber_b23  h (1 : Int32)

noncomputable def f_X0_isNumber (h : jw_H) (x0 : Nat) : Option (Int32 × jw_H) :=
 (jw_gI h 0 (some x0) 0).bind fun v1 =>
 if v1 = (48 : Int32) then (g_X0_isNumber_b18  h )
 else ((jw_gI h 0 (some x0) 0).bind fun v3 =>
 if v3 = (36 : Int32) then (g_X0_isNumber_b18  h )
 else (g_X0_isNumber_b23  h (0 : Int32)))

set_option maxRecDepth 100000 in
set_option maxHeartbeats 4000000 in
theorem l_X0_isNumber_b23 {hi : jw_H} {h : jw_H} {t0 : Int32} {r : Int32} {h' : jw_H} (hq : g_X0_isNumber_b23  h t0 = some (r, h')) : jw_E 0 uX0_isNumber hi 23 [none] [.int t0] h (.inl (some (.int r))) h' := by
  unfold g_X0_isNumber_b23 at hq
  obtain ⟨v1, ev1, hq⟩ := Option.bind_eq_some_iff.mp hq
  cases hq
  exact jw_iret (ty := .boolean) dX0_isNumber_23 rfl (jw_rb_spec ev1)

set_option maxRecDepth 100000 in
set_option maxHeartbeats 4000000 in
theorem l_X0_isNumber_b18 {hi : jw_H} {h : jw_H}  {r : Int32} {h' : jw_H} (hq : g_X0_isNumber_b18  h  = some (r, h')) : jw_E 0 uX0_isNumber hi 18 [none] [] h (.inl (some (.int r))) h' := by
  unfold g_X0_isNumber_b18 at hq
  refine jw_iconst dX0_isNumber_18 (v := (1 : Int32)) (by decide) ?_
  refine jw_goto (tgt := 23) dX0_isNumber_19 (by decide) ?_
  exact l_X0_isNumber_b23  hq

set_option maxRecDepth 100000 in
set_option maxHeartbeats 4000000 in
theorem l_X0_isNumber {hi : jw_H} {h : jw_H} {x0 : Nat} {r : Int32} {h' : jw_H} (hq : f_X0_isNumber  h x0 = some (r, h')) : jw_E 0 uX0_isNumber hi 0 [some (.ref x0)] [] h (.inl (some (.int r))) h' := by
  unfold f_X0_isNumber at hq
  refine jw_aload_n dX0_isNumber_0 (o := (some x0)) rfl ?_
  obtain ⟨v1, ev1, hq⟩ := Option.bind_eq_some_iff.mp hq
  refine jw_getI (o := (some x0)) dX0_isNumber_1 ev1 fl_X0_7 rfl ?_
  refine jw_bipush dX0_isNumber_4 (v := (48 : Int32)) (by decide) ?_
  rcases jw_if hq with ⟨c2, hq⟩ | ⟨c2, hq⟩
  · refine jw_icmp_eq_t (tgt := 18) dX0_isNumber_6 (by decide) c2 ?_
    refine jw_forget [false] (L' := [none]) rfl ?_
    exact l_X0_isNumber_b18  hq
  · refine jw_icmp_eq_f (tgt := 18) dX0_isNumber_6 (by decide) c2 ?_
    refine jw_aload_n dX0_isNumber_9 (o := (some x0)) rfl ?_
    obtain ⟨v3, ev3, hq⟩ := Option.bind_eq_some_iff.mp hq
    refine jw_getI (o := (some x0)) dX0_isNumber_10 ev3 fl_X0_7 rfl ?_
    refine jw_bipush dX0_isNumber_13 (v := (36 : Int32)) (by decide) ?_
    rcases jw_if hq with ⟨c4, hq⟩ | ⟨c4, hq⟩
    · refine jw_icmp_ne_f (tgt := 22) dX0_isNumber_15 (by decide) c4 ?_
      refine jw_forget [false] (L' := [none]) rfl ?_
      exact l_X0_isNumber_b18  hq
    · refine jw_icmp_ne_t (tgt := 22) dX0_isNumber_15 (by decide) c4 ?_
      refine jw_iconst dX0_isNumber_22 (v := (0 : Int32)) (by decide) ?_
      refine jw_forget [false] (L' := [none]) rfl ?_
      exact l_X0_isNumber_b23  hq

theorem c_X0_isNumber {h : jw_H} {x0 : Nat} {r : Int32} {h' : jw_H} (hq : f_X0_isNumber h x0 = some (r, h')) : jw_Con (Cond.code yX0_isNumber cX0_isNumber 1 (some .boolean)) yX0_isNumber 0 [.ref x0] h (.inl (some (.int r))) h' :=
  jw_con false (plainFor_of_name (by decide +kernel)) (fun z => nomatch z) (by simp [jw_ent, jw_sl0_nil, jw_sl0_int, jw_sl0_long, jw_sl0_ref, jw_sl0_rf, jw_sl0_scr, List.replicate]) (by simp [jw_sl0_nil, jw_sl0_int, jw_sl0_long, jw_sl0_ref, jw_sl0_rf, jw_sl0_scr]) (l_X0_isNumber hq)


/-! X0_isNotByLine -/
noncomputable def g_X0_isNotByLine_b30 (h : jw_H) (t0 : Int32) : Option (Int32 × jw_H) :=
 (jw_rb t0).bind fun v1 =>
 some (t0, h)

noncomputable def g_X0_isNotByLine_b29 (h : jw_H)  : Option (Int32 × jw_H) :=
 g_X0_isNotByLine_b30  h (0 : Int32)

noncomputable def f_X0_isNotByLine (h : jw_H) (x0 : Nat) : Option (Int32 × jw_H) :=
 (jw_gI h 0 (some x0) 3).bind fun v1 =>
 if v1 = 0 then (g_X0_isNotByLine_b29  h )
 else ((jw_gI h 0 (some x0) 0).bind fun v3 =>
 if v3 = (48 : Int32) then (g_X0_isNotByLine_b29  h )
 else ((jw_gI h 0 (some x0) 0).bind fun v5 =>
 if v5 = (36 : Int32) then (g_X0_isNotByLine_b29  h )
 else (g_X0_isNotByLine_b30  h (1 : Int32))))

set_option maxRecDepth 100000 in
set_option maxHeartbeats 4000000 in
theorem l_X0_isNotByLine_b30 {hi : jw_H} {h : jw_H} {t0 : Int32} {r : Int32} {h' : jw_H} (hq : g_X0_isNotByLine_b30  h t0 = some (r, h')) : jw_E 0 uX0_isNotByLine hi 30 [none] [.int t0] h (.inl (some (.int r))) h' := by
  unfold g_X0_isNotByLine_b30 at hq
  obtain ⟨v1, ev1, hq⟩ := Option.bind_eq_some_iff.mp hq
  cases hq
  exact jw_iret (ty := .boolean) dX0_isNotByLine_30 rfl (jw_rb_spec ev1)

set_option maxRecDepth 100000 in
set_option maxHeartbeats 4000000 in
theorem l_X0_isNotByLine_b29 {hi : jw_H} {h : jw_H}  {r : Int32} {h' : jw_H} (hq : g_X0_isNotByLine_b29  h  = some (r, h')) : jw_E 0 uX0_isNotByLine hi 29 [none] [] h (.inl (some (.int r))) h' := by
  unfold g_X0_isNotByLine_b29 at hq
  refine jw_iconst dX0_isNotByLine_29 (v := (0 : Int32)) (by decide) ?_
  exact l_X0_isNotByLine_b30  hq

set_option maxRecDepth 100000 in
set_option maxHeartbeats 4000000 in
theorem l_X0_isNotByLine {hi : jw_H} {h : jw_H} {x0 : Nat} {r : Int32} {h' : jw_H} (hq : f_X0_isNotByLine  h x0 = some (r, h')) : jw_E 0 uX0_isNotByLine hi 0 [some (.ref x0)] [] h (.inl (some (.int r))) h' := by
  unfold f_X0_isNotByLine at hq
  refine jw_aload_n dX0_isNotByLine_0 (o := (some x0)) rfl ?_
  obtain ⟨v1, ev1, hq⟩ := Option.bind_eq_some_iff.mp hq
  refine jw_getI (o := (some x0)) dX0_isNotByLine_1 ev1 fl_X0_19 rfl ?_
  rcases jw_if hq with ⟨c2, hq⟩ | ⟨c2, hq⟩
  · refine jw_if_eq_t (tgt := 29) dX0_isNotByLine_4 (by decide) c2 ?_
    refine jw_forget [false] (L' := [none]) rfl ?_
    exact l_X0_isNotByLine_b29  hq
  · refine jw_if_eq_f (tgt := 29) dX0_isNotByLine_4 (by decide) c2 ?_
    refine jw_aload_n dX0_isNotByLine_7 (o := (some x0)) rfl ?_
    obtain ⟨v3, ev3, hq⟩ := Option.bind_eq_some_iff.mp hq
    refine jw_getI (o := (some x0)) dX0_isNotByLine_8 ev3 fl_X0_7 rfl ?_
    refine jw_bipush dX0_isNotByLine_11 (v := (48 : Int32)) (by decide) ?_
    rcases jw_if hq with ⟨c4, hq⟩ | ⟨c4, hq⟩
    · refine jw_icmp_eq_t (tgt := 29) dX0_isNotByLine_13 (by decide) c4 ?_
      refine jw_forget [false] (L' := [none]) rfl ?_
      exact l_X0_isNotByLine_b29  hq
    · refine jw_icmp_eq_f (tgt := 29) dX0_isNotByLine_13 (by decide) c4 ?_
      refine jw_aload_n dX0_isNotByLine_16 (o := (some x0)) rfl ?_
      obtain ⟨v5, ev5, hq⟩ := Option.bind_eq_some_iff.mp hq
      refine jw_getI (o := (some x0)) dX0_isNotByLine_17 ev5 fl_X0_7 rfl ?_
      refine jw_bipush dX0_isNotByLine_20 (v := (36 : Int32)) (by decide) ?_
      rcases jw_if hq with ⟨c6, hq⟩ | ⟨c6, hq⟩
      · refine jw_icmp_eq_t (tgt := 29) dX0_isNotByLine_22 (by decide) c6 ?_
        refine jw_forget [false] (L' := [none]) rfl ?_
        exact l_X0_isNotByLine_b29  hq
      · refine jw_icmp_eq_f (tgt := 29) dX0_isNotByLine_22 (by decide) c6 ?_
        refine jw_iconst dX0_isNotByLine_25 (v := (1 : Int32)) (by decide) ?_
        refine jw_goto (tgt := 30) dX0_isNotByLine_26 (by decide) ?_
        refine jw_forget [false] (L' := [none]) rfl ?_
        exact l_X0_isNotByLine_b30  hq

theorem c_X0_isNotByLine {h : jw_H} {x0 : Nat} {r : Int32} {h' : jw_H} (hq : f_X0_isNotByLine h x0 = some (r, h')) : jw_Con (Cond.code yX0_isNotByLine cX0_isNotByLine 1 (some .boolean)) yX0_isNotByLine 0 [.ref x0] h (.inl (some (.int r))) h' :=
  jw_con false (plainFor_of_name (by decide +kernel)) (fun z => nomatch z) (by simp [jw_ent, jw_sl0_nil, jw_sl0_int, jw_sl0_long, jw_sl0_ref, jw_sl0_rf, jw_sl0_scr, List.replicate]) (by simp [jw_sl0_nil, jw_sl0_int, jw_sl0_long, jw_sl0_ref, jw_sl0_rf, jw_sl0_scr]) (l_X0_isNotByLine hq)


/-! J9_max_7cf53 -/
noncomputable def g_J9_max_7cf53_b10 (h : jw_H) (t0 : Int32) : Option (Int32 × jw_H) :=
 some (t0, h)

noncomputable def f_J9_max_7cf53 (h : jw_H) (x0 : Int32) (x1 : Int32) : Option (Int32 × jw_H) :=
 if x0 < x1 then (g_J9_max_7cf53_b10  h x1)
 else (g_J9_max_7cf53_b10  h x0)

set_option maxRecDepth 100000 in
set_option maxHeartbeats 4000000 in
theorem l_J9_max_7cf53_b10 {hi : jw_H} {h : jw_H} {t0 : Int32} {r : Int32} {h' : jw_H} (hq : g_J9_max_7cf53_b10  h t0 = some (r, h')) : jw_E 0 uJ9_max_7cf53 hi 10 [none, none] [.int t0] h (.inl (some (.int r))) h' := by
  unfold g_J9_max_7cf53_b10 at hq
  cases hq
  exact jw_iret (ty := .int) dJ9_max_7cf53_10 rfl rfl

set_option maxRecDepth 100000 in
set_option maxHeartbeats 4000000 in
theorem l_J9_max_7cf53 {hi : jw_H} {h : jw_H} {x0 : Int32} {x1 : Int32} {r : Int32} {h' : jw_H} (hq : f_J9_max_7cf53  h x0 x1 = some (r, h')) : jw_E 0 uJ9_max_7cf53 hi 0 [some (.int x0), some (.int x1)] [] h (.inl (some (.int r))) h' := by
  unfold f_J9_max_7cf53 at hq
  refine jw_iload_n dJ9_max_7cf53_0 rfl ?_
  refine jw_iload_n dJ9_max_7cf53_1 rfl ?_
  rcases jw_if hq with ⟨c1, hq⟩ | ⟨c1, hq⟩
  · refine jw_icmp_lt_t (tgt := 9) dJ9_max_7cf53_2 (by decide) c1 ?_
    refine jw_iload_n dJ9_max_7cf53_9 rfl ?_
    refine jw_forget [false, false] (L' := [none, none]) rfl ?_
    exact l_J9_max_7cf53_b10  hq
  · refine jw_icmp_lt_f (tgt := 9) dJ9_max_7cf53_2 (by decide) c1 ?_
    refine jw_iload_n dJ9_max_7cf53_5 rfl ?_
    refine jw_goto (tgt := 10) dJ9_max_7cf53_6 (by decide) ?_
    refine jw_forget [false, false] (L' := [none, none]) rfl ?_
    exact l_J9_max_7cf53_b10  hq

theorem c_J9_max_7cf53 {h : jw_H} {x0 : Int32} {x1 : Int32} {r : Int32} {h' : jw_H} (hq : f_J9_max_7cf53 h x0 x1 = some (r, h')) : jw_Con (Cond.code yJ9_max_7cf53 cJ9_max_7cf53 2 (some .int)) yJ9_max_7cf53 0 [.int x0, .int x1] h (.inl (some (.int r))) h' :=
  jw_con false (by decide +kernel) (fun z => nomatch z) (by simp [jw_ent, jw_sl0_nil, jw_sl0_int, jw_sl0_long, jw_sl0_ref, jw_sl0_rf, jw_sl0_scr, List.replicate]) (by simp [jw_sl0_nil, jw_sl0_int, jw_sl0_long, jw_sl0_ref, jw_sl0_rf, jw_sl0_scr]) (l_J9_max_7cf53 hq)


/-! X7_init -/
noncomputable def f_X7_init (h : jw_H) (x0 : Nat) (x1 : Int32) : Option (Unit × jw_H) :=
 jw_b2 (f_J9_max_7cf53 h x1 (0 : Int32)) fun w2 h1 =>
 (jw_mka h1 20 w2).bind fun h3 =>
 (jw_pR h3 7 (some x0) 0 (some (jw_n h1))).bind fun h5 =>
 (jw_mka h5 21 (w2 * (30 : Int32))).bind fun h6 =>
 (jw_pR h6 7 (some x0) 1 (some (jw_n h5))).bind fun h8 =>
 some ((), h8)

set_option maxRecDepth 100000 in
set_option maxHeartbeats 4000000 in
theorem l_X7_init {hi : jw_H} {h : jw_H} {x0 : Nat} {x1 : Int32} {r : Unit} {h' : jw_H} (hq : f_X7_init  h x0 x1 = some (r, h')) : jw_E 1 uX7_init hi 0 [some (.ref x0), some (.int x1), none] [] h (.inl none) h' := by
  unfold f_X7_init at hq
  refine jw_aload_n dX7_init_0 (o := (some x0)) rfl ?_
  refine jw_obj dX7_init_1 ol_X7_3 oi_0 oc_0 (by decide) (Nat.le_of_ble_eq_true rfl) ?_
  refine jw_iload_n dX7_init_4 rfl ?_
  refine jw_iconst dX7_init_5 (v := (0 : Int32)) (by decide) ?_
  obtain ⟨w2, h1, ew2, hq⟩ := jw_b2_spec hq
  refine jw_callS (As := [.int x1, .int (0 : Int32)]) (S := []) (v := some (.int w2)) dX7_init_6 mt_J9_max_7cf53 st_J9_max_7cf53 lk_X7_9 (c_J9_max_7cf53 ew2) rfl (by decide) (Nat.le_of_ble_eq_true rfl) rfl ?_
  refine jw_istore_n (L' := [some (.ref x0), some (.int x1), some (.int w2)]) dX7_init_9 (Nat.le_of_ble_eq_true rfl) rfl ?_
  refine jw_aload_n dX7_init_10 (o := (some x0)) rfl ?_
  refine jw_iload_n dX7_init_11 rfl ?_
  obtain ⟨h3, eh3, hq⟩ := Option.bind_eq_some_iff.mp hq
  obtain ⟨ew4, eh3⟩ := jw_mka_spec eh3
  refine jw_mkI dX7_init_12 ac_int ew4.1 ew4.2 ?_
  rw [eh3]
  obtain ⟨h5, eh5, hq⟩ := Option.bind_eq_some_iff.mp hq
  refine jw_putF (o := (some x0)) (x := (some (jw_n h1))) dX7_init_14 eh5 fl_X7_15 fk_X7_15 rfl rfl rfl rfl ?_
  refine jw_aload_n dX7_init_17 (o := (some x0)) rfl ?_
  refine jw_iload_n dX7_init_18 rfl ?_
  refine jw_bipush dX7_init_19 (v := (30 : Int32)) (by decide) ?_
  refine jw_imul dX7_init_21 ?_
  obtain ⟨h6, eh6, hq⟩ := Option.bind_eq_some_iff.mp hq
  obtain ⟨ew7, eh6⟩ := jw_mka_spec eh6
  refine jw_mkB dX7_init_22 ac_byte ew7.1 ew7.2 ?_
  rw [eh6]
  obtain ⟨h8, eh8, hq⟩ := Option.bind_eq_some_iff.mp hq
  refine jw_putF (o := (some x0)) (x := (some (jw_n h5))) dX7_init_24 eh8 fl_X7_21 fk_X7_21 rfl rfl rfl rfl ?_
  cases hq
  exact jw_vret dX7_init_27 rfl

theorem c_X7_init {h : jw_H} {x0 : Nat} {x1 : Int32} {r : Unit} {h' : jw_H} (hq : f_X7_init h x0 x1 = some (r, h')) : jw_Con (Cond.code yX7_init cX7_init 3 none) yX7_init 1 [.ref x0, .int x1] h (.inl none) h' :=
  jw_con true (plainFor_of_name (by decide +kernel)) (fun _ => rfl) (by simp [jw_ent, jw_sl0_nil, jw_sl0_int, jw_sl0_long, jw_sl0_ref, jw_sl0_rf, jw_sl0_scr, List.replicate]) (by simp [jw_sl0_nil, jw_sl0_int, jw_sl0_long, jw_sl0_ref, jw_sl0_rf, jw_sl0_scr]) (l_X7_init hq)


/-! X9_init -/
noncomputable def g_X9_init_b34 (k34 : jw_H → Nat → Int32 → Option (Unit × jw_H)) (h : jw_H) (x0 : Nat) (x1 : Int32) : Option (Unit × jw_H) :=
 if (5 : Int32) ≤ x1 then (some ((), h))
 else ((jw_gR h 9 (some x0) 2).bind fun v2 =>
 (jw_si h 20 v2 x1 (-1 : Int32)).bind fun h3 =>
 k34 h3 x0 (x1 + (1 : Int32)))

noncomputable def f_X9_init_b34 (n : Nat) : jw_H → Nat → Int32 → Option (Unit × jw_H) :=
 Nat.rec (fun _ _ _ => none) (fun _ k34 => g_X9_init_b34 k34) n

noncomputable def f_X9_init (h : jw_H) (x0 : Nat) : Option (Unit × jw_H) :=
 (some (jw_new h (7, 0) (jw_nf 7))).bind fun h1 =>
 jw_b2 (f_X7_init h1 (jw_n h) (40 : Int32)) fun w3 h2 =>
 (jw_pR h2 9 (some x0) 0 (some (jw_n h))).bind fun h4 =>
 (jw_mka h4 20 (40 : Int32)).bind fun h5 =>
 (jw_pR h5 9 (some x0) 1 (some (jw_n h4))).bind fun h7 =>
 (jw_mka h7 20 (5 : Int32)).bind fun h8 =>
 (jw_pR h8 9 (some x0) 2 (some (jw_n h7))).bind fun h10 =>
 f_X9_init_b34  jw_FU h10 x0 (0 : Int32)

set_option maxRecDepth 100000 in
set_option maxHeartbeats 4000000 in
theorem l_X9_init_b34g {hi : jw_H} {k34 : jw_H → Nat → Int32 → Option (Unit × jw_H)} (hk34 : ∀ (h : jw_H) (x0 : Nat) (x1 : Int32) (r : Unit) (h' : jw_H), k34 h x0 x1 = some (r, h') → jw_E 2 uX9_init hi 34 [some (.ref x0), some (.int x1)] [] h (.inl none) h') {h : jw_H} {x0 : Nat} {x1 : Int32} {r : Unit} {h' : jw_H} (hq : g_X9_init_b34 k34 h x0 x1 = some (r, h')) : jw_E 2 uX9_init hi 34 [some (.ref x0), some (.int x1)] [] h (.inl none) h' := by
  unfold g_X9_init_b34 at hq
  refine jw_iload_n dX9_init_34 rfl ?_
  refine jw_iconst dX9_init_35 (v := (5 : Int32)) (by decide) ?_
  rcases jw_if hq with ⟨c1, hq⟩ | ⟨c1, hq⟩
  · refine jw_icmp_ge_t (tgt := 52) dX9_init_36 (by decide) c1 ?_
    cases hq
    exact jw_vret dX9_init_52 rfl
  · refine jw_icmp_ge_f (tgt := 52) dX9_init_36 (by decide) c1 ?_
    refine jw_aload_n dX9_init_39 (o := (some x0)) rfl ?_
    obtain ⟨v2, ev2, hq⟩ := Option.bind_eq_some_iff.mp hq
    refine jw_getR (o := (some x0)) dX9_init_40 ev2 fl_X9_24 rfl ?_
    refine jw_iload_n dX9_init_43 rfl ?_
    refine jw_iconst dX9_init_44 (v := (-1 : Int32)) (by decide) ?_
    obtain ⟨h3, eh3, hq⟩ := Option.bind_eq_some_iff.mp hq
    refine jw_iast (o := v2) dX9_init_45 eh3 ?_
    refine jw_iinc (L' := [some (.ref x0), some (.int (x1 + (1 : Int32)))]) dX9_init_46 rfl (v := (1 : Int32)) (by decide) (Nat.le_of_ble_eq_true rfl) rfl ?_
    refine jw_goto (tgt := 34) dX9_init_49 (by decide) ?_
    exact hk34 _ _ _ _ _ hq

theorem l_X9_init_b34 {hi : jw_H} : ∀ (n : Nat) (h : jw_H) (x0 : Nat) (x1 : Int32) (r : Unit) (h' : jw_H), f_X9_init_b34  n h x0 x1 = some (r, h') → jw_E 2 uX9_init hi 34 [some (.ref x0), some (.int x1)] [] h (.inl none) h' := by
  intro n
  induction n with
  | zero => intro h x0 x1 r h' hq; exact nomatch hq
  | succ n ih => intro h x0 x1 r h' hq; exact l_X9_init_b34g ih hq

set_option maxRecDepth 100000 in
set_option maxHeartbeats 4000000 in
theorem l_X9_init {hi : jw_H} {h : jw_H} {x0 : Nat} {r : Unit} {h' : jw_H} (hq : f_X9_init  h x0 = some (r, h')) : jw_E 2 uX9_init hi 0 [some (.ref x0), none] [] h (.inl none) h' := by
  unfold f_X9_init at hq
  refine jw_aload_n dX9_init_0 (o := (some x0)) rfl ?_
  refine jw_obj dX9_init_1 ol_X9_3 oi_0 oc_0 (by decide) (Nat.le_of_ble_eq_true rfl) ?_
  refine jw_aload_n dX9_init_4 (o := (some x0)) rfl ?_
  obtain ⟨h1, eh1, hq⟩ := Option.bind_eq_some_iff.mp hq
  have eh1 := Option.some.inj eh1
  refine jw_mk (c := 7) dX9_init_5 (by decide) cl_X9_9 inst_7 ini_7 ?_
  rw [eh1]
  refine jw_dup dX9_init_8 rfl ?_
  refine jw_bipush dX9_init_9 (v := (40 : Int32)) (by decide) ?_
  obtain ⟨w3, h2, ew3, hq⟩ := jw_b2_spec hq
  refine jw_callI (As := [.int (40 : Int32)]) (S := [.ref (jw_n h), .ref x0]) (a := (jw_n h)) (v := none) dX9_init_11 mt_X7_init in_X7_init rfl lk_X9_11 (c_X7_init ew3) rfl (by decide) (Nat.le_of_ble_eq_true rfl) rfl ?_
  obtain ⟨h4, eh4, hq⟩ := Option.bind_eq_some_iff.mp hq
  refine jw_putF (o := (some x0)) (x := (some (jw_n h))) dX9_init_14 eh4 fl_X9_14 fk_X9_14 rfl rfl rfl rfl ?_
  refine jw_aload_n dX9_init_17 (o := (some x0)) rfl ?_
  refine jw_bipush dX9_init_18 (v := (40 : Int32)) (by decide) ?_
  obtain ⟨h5, eh5, hq⟩ := Option.bind_eq_some_iff.mp hq
  obtain ⟨ew6, eh5⟩ := jw_mka_spec eh5
  refine jw_mkI dX9_init_20 ac_int ew6.1 ew6.2 ?_
  rw [eh5]
  obtain ⟨h7, eh7, hq⟩ := Option.bind_eq_some_iff.mp hq
  refine jw_putF (o := (some x0)) (x := (some (jw_n h4))) dX9_init_22 eh7 fl_X9_20 fk_X9_20 rfl rfl rfl rfl ?_
  refine jw_aload_n dX9_init_25 (o := (some x0)) rfl ?_
  refine jw_iconst dX9_init_26 (v := (5 : Int32)) (by decide) ?_
  obtain ⟨h8, eh8, hq⟩ := Option.bind_eq_some_iff.mp hq
  obtain ⟨ew9, eh8⟩ := jw_mka_spec eh8
  refine jw_mkI dX9_init_27 ac_int ew9.1 ew9.2 ?_
  rw [eh8]
  obtain ⟨h10, eh10, hq⟩ := Option.bind_eq_some_iff.mp hq
  refine jw_putF (o := (some x0)) (x := (some (jw_n h7))) dX9_init_29 eh10 fl_X9_24 fk_X9_24 rfl rfl rfl rfl ?_
  refine jw_iconst dX9_init_32 (v := (0 : Int32)) (by decide) ?_
  refine jw_istore_n (L' := [some (.ref x0), some (.int (0 : Int32))]) dX9_init_33 (Nat.le_of_ble_eq_true rfl) rfl ?_
  exact l_X9_init_b34  jw_FU _ _ _ _ _ hq

theorem c_X9_init {h : jw_H} {x0 : Nat} {r : Unit} {h' : jw_H} (hq : f_X9_init h x0 = some (r, h')) : jw_Con (Cond.code yX9_init cX9_init 2 none) yX9_init 2 [.ref x0] h (.inl none) h' :=
  jw_con true (plainFor_of_name (by decide +kernel)) (fun _ => rfl) (by simp [jw_ent, jw_sl0_nil, jw_sl0_int, jw_sl0_long, jw_sl0_ref, jw_sl0_rf, jw_sl0_scr, List.replicate]) (by simp [jw_sl0_nil, jw_sl0_int, jw_sl0_long, jw_sl0_ref, jw_sl0_rf, jw_sl0_scr]) (l_X9_init hq)


/-! X1_init -/
noncomputable def f_X1_init (h : jw_H) (x0 : Nat) (x1 : Option Nat) (x2 : Option Nat) (x3 : Option Nat) (x4 : Option Nat) (x5 : Option Nat) (x6 : Option Nat) : Option (Unit × jw_H) :=
 (jw_pR h 1 (some x0) 0 x1).bind fun h1 =>
 (jw_pR h1 1 (some x0) 1 x2).bind fun h2 =>
 (jw_pR h2 1 (some x0) 2 x3).bind fun h3 =>
 (jw_pR h3 1 (some x0) 3 x4).bind fun h4 =>
 (jw_pR h4 1 (some x0) 4 x5).bind fun h5 =>
 (jw_pR h5 1 (some x0) 5 x6).bind fun h6 =>
 (some (jw_new h6 (9, 0) (jw_nf 9))).bind fun h7 =>
 jw_b2 (f_X9_init h7 (jw_n h6)) fun w9 h8 =>
 (jw_pR h8 1 (some x0) 6 (some (jw_n h6))).bind fun h10 =>
 (some (jw_new h10 (7, 0) (jw_nf 7))).bind fun h11 =>
 jw_b2 (f_X7_init h11 (jw_n h10) (1 : Int32)) fun w13 h12 =>
 (jw_pR h12 1 (some x0) 7 (some (jw_n h10))).bind fun h14 =>
 (some (jw_new h14 (7, 0) (jw_nf 7))).bind fun h15 =>
 jw_b2 (f_X7_init h15 (jw_n h14) (41 : Int32)) fun w17 h16 =>
 (jw_pR h16 1 (some x0) 8 (some (jw_n h14))).bind fun h18 =>
 (some (jw_new h18 (7, 0) (jw_nf 7))).bind fun h19 =>
 jw_b2 (f_X7_init h19 (jw_n h18) (60 : Int32)) fun w21 h20 =>
 (jw_pR h20 1 (some x0) 9 (some (jw_n h18))).bind fun h22 =>
 some ((), h22)

set_option maxRecDepth 100000 in
set_option maxHeartbeats 4000000 in
theorem l_X1_init {hi : jw_H} {h : jw_H} {x0 : Nat} {x1 : Option Nat} {x2 : Option Nat} {x3 : Option Nat} {x4 : Option Nat} {x5 : Option Nat} {x6 : Option Nat} {r : Unit} {h' : jw_H} (hq : f_X1_init  h x0 x1 x2 x3 x4 x5 x6 = some (r, h')) : jw_E 3 uX1_init hi 0 [some (.ref x0), some (va_rf x1), some (va_rf x2), some (va_rf x3), some (va_rf x4), some (va_rf x5), some (va_rf x6)] [] h (.inl none) h' := by
  unfold f_X1_init at hq
  refine jw_aload_n dX1_init_0 (o := (some x0)) rfl ?_
  refine jw_obj dX1_init_1 ol_X1_3 oi_0 oc_0 (by decide) (Nat.le_of_ble_eq_true rfl) ?_
  refine jw_aload_n dX1_init_4 (o := (some x0)) rfl ?_
  refine jw_aload_n dX1_init_5 (o := x1) rfl ?_
  obtain ⟨h1, eh1, hq⟩ := Option.bind_eq_some_iff.mp hq
  refine jw_putF (o := (some x0)) (x := x1) dX1_init_6 eh1 fl_X1_9 fk_X1_9 rfl rfl rfl rfl ?_
  refine jw_aload_n dX1_init_9 (o := (some x0)) rfl ?_
  refine jw_aload_n dX1_init_10 (o := x2) rfl ?_
  obtain ⟨h2, eh2, hq⟩ := Option.bind_eq_some_iff.mp hq
  refine jw_putF (o := (some x0)) (x := x2) dX1_init_11 eh2 fl_X1_15 fk_X1_15 rfl rfl rfl rfl ?_
  refine jw_aload_n dX1_init_14 (o := (some x0)) rfl ?_
  refine jw_aload_n dX1_init_15 (o := x3) rfl ?_
  obtain ⟨h3, eh3, hq⟩ := Option.bind_eq_some_iff.mp hq
  refine jw_putF (o := (some x0)) (x := x3) dX1_init_16 eh3 fl_X1_19 fk_X1_19 rfl rfl rfl rfl ?_
  refine jw_aload_n dX1_init_19 (o := (some x0)) rfl ?_
  refine jw_aload dX1_init_20 (o := x4) rfl ?_
  obtain ⟨h4, eh4, hq⟩ := Option.bind_eq_some_iff.mp hq
  refine jw_putF (o := (some x0)) (x := x4) dX1_init_22 eh4 fl_X1_23 fk_X1_23 rfl rfl rfl rfl ?_
  refine jw_aload_n dX1_init_25 (o := (some x0)) rfl ?_
  refine jw_aload dX1_init_26 (o := x5) rfl ?_
  obtain ⟨h5, eh5, hq⟩ := Option.bind_eq_some_iff.mp hq
  refine jw_putF (o := (some x0)) (x := x5) dX1_init_28 eh5 fl_X1_26 fk_X1_26 rfl rfl rfl rfl ?_
  refine jw_aload_n dX1_init_31 (o := (some x0)) rfl ?_
  refine jw_aload dX1_init_32 (o := x6) rfl ?_
  obtain ⟨h6, eh6, hq⟩ := Option.bind_eq_some_iff.mp hq
  refine jw_putF (o := (some x0)) (x := x6) dX1_init_34 eh6 fl_X1_30 fk_X1_30 rfl rfl rfl rfl ?_
  refine jw_aload_n dX1_init_37 (o := (some x0)) rfl ?_
  obtain ⟨h7, eh7, hq⟩ := Option.bind_eq_some_iff.mp hq
  have eh7 := Option.some.inj eh7
  refine jw_mk (c := 9) dX1_init_38 (by decide) cl_X1_34 inst_9 ini_9 ?_
  rw [eh7]
  refine jw_dup dX1_init_41 rfl ?_
  obtain ⟨w9, h8, ew9, hq⟩ := jw_b2_spec hq
  refine jw_callI (As := []) (S := [.ref (jw_n h6), .ref x0]) (a := (jw_n h6)) (v := none) dX1_init_42 mt_X9_init in_X9_init rfl lk_X1_36 (c_X9_init ew9) rfl (by decide) (Nat.le_of_ble_eq_true rfl) rfl ?_
  obtain ⟨h10, eh10, hq⟩ := Option.bind_eq_some_iff.mp hq
  refine jw_putF (o := (some x0)) (x := (some (jw_n h6))) dX1_init_45 eh10 fl_X1_37 fk_X1_37 rfl rfl rfl rfl ?_
  refine jw_aload_n dX1_init_48 (o := (some x0)) rfl ?_
  obtain ⟨h11, eh11, hq⟩ := Option.bind_eq_some_iff.mp hq
  have eh11 := Option.some.inj eh11
  refine jw_mk (c := 7) dX1_init_49 (by decide) cl_X1_40 inst_7 ini_7 ?_
  rw [eh11]
  refine jw_dup dX1_init_52 rfl ?_
  refine jw_iconst dX1_init_53 (v := (1 : Int32)) (by decide) ?_
  obtain ⟨w13, h12, ew13, hq⟩ := jw_b2_spec hq
  refine jw_callI (As := [.int (1 : Int32)]) (S := [.ref (jw_n h10), .ref x0]) (a := (jw_n h10)) (v := none) dX1_init_54 mt_X7_init in_X7_init rfl lk_X1_42 (c_X7_init ew13) rfl (by decide) (Nat.le_of_ble_eq_true rfl) rfl ?_
  obtain ⟨h14, eh14, hq⟩ := Option.bind_eq_some_iff.mp hq
  refine jw_putF (o := (some x0)) (x := (some (jw_n h10))) dX1_init_57 eh14 fl_X1_45 fk_X1_45 rfl rfl rfl rfl ?_
  refine jw_aload_n dX1_init_60 (o := (some x0)) rfl ?_
  obtain ⟨h15, eh15, hq⟩ := Option.bind_eq_some_iff.mp hq
  have eh15 := Option.some.inj eh15
  refine jw_mk (c := 7) dX1_init_61 (by decide) cl_X1_40 inst_7 ini_7 ?_
  rw [eh15]
  refine jw_dup dX1_init_64 rfl ?_
  refine jw_bipush dX1_init_65 (v := (41 : Int32)) (by decide) ?_
  obtain ⟨w17, h16, ew17, hq⟩ := jw_b2_spec hq
  refine jw_callI (As := [.int (41 : Int32)]) (S := [.ref (jw_n h14), .ref x0]) (a := (jw_n h14)) (v := none) dX1_init_67 mt_X7_init in_X7_init rfl lk_X1_42 (c_X7_init ew17) rfl (by decide) (Nat.le_of_ble_eq_true rfl) rfl ?_
  obtain ⟨h18, eh18, hq⟩ := Option.bind_eq_some_iff.mp hq
  refine jw_putF (o := (some x0)) (x := (some (jw_n h14))) dX1_init_70 eh18 fl_X1_49 fk_X1_49 rfl rfl rfl rfl ?_
  refine jw_aload_n dX1_init_73 (o := (some x0)) rfl ?_
  obtain ⟨h19, eh19, hq⟩ := Option.bind_eq_some_iff.mp hq
  have eh19 := Option.some.inj eh19
  refine jw_mk (c := 7) dX1_init_74 (by decide) cl_X1_40 inst_7 ini_7 ?_
  rw [eh19]
  refine jw_dup dX1_init_77 rfl ?_
  refine jw_bipush dX1_init_78 (v := (60 : Int32)) (by decide) ?_
  obtain ⟨w21, h20, ew21, hq⟩ := jw_b2_spec hq
  refine jw_callI (As := [.int (60 : Int32)]) (S := [.ref (jw_n h18), .ref x0]) (a := (jw_n h18)) (v := none) dX1_init_80 mt_X7_init in_X7_init rfl lk_X1_42 (c_X7_init ew21) rfl (by decide) (Nat.le_of_ble_eq_true rfl) rfl ?_
  obtain ⟨h22, eh22, hq⟩ := Option.bind_eq_some_iff.mp hq
  refine jw_putF (o := (some x0)) (x := (some (jw_n h18))) dX1_init_83 eh22 fl_X1_52 fk_X1_52 rfl rfl rfl rfl ?_
  cases hq
  exact jw_vret dX1_init_86 rfl

theorem c_X1_init {h : jw_H} {x0 : Nat} {x1 : Option Nat} {x2 : Option Nat} {x3 : Option Nat} {x4 : Option Nat} {x5 : Option Nat} {x6 : Option Nat} {r : Unit} {h' : jw_H} (hq : f_X1_init h x0 x1 x2 x3 x4 x5 x6 = some (r, h')) : jw_Con (Cond.code yX1_init cX1_init 7 none) yX1_init 3 [.ref x0, va_rf x1, va_rf x2, va_rf x3, va_rf x4, va_rf x5, va_rf x6] h (.inl none) h' :=
  jw_con true (plainFor_of_name (by decide +kernel)) (fun _ => rfl) (by simp [jw_ent, jw_sl0_nil, jw_sl0_int, jw_sl0_long, jw_sl0_ref, jw_sl0_rf, jw_sl0_scr, List.replicate]) (by simp [jw_sl0_nil, jw_sl0_int, jw_sl0_long, jw_sl0_ref, jw_sl0_rf, jw_sl0_scr]) (l_X1_init hq)


/-! J9_min_7cf53 -/
noncomputable def g_J9_min_7cf53_b10 (h : jw_H) (t0 : Int32) : Option (Int32 × jw_H) :=
 some (t0, h)

noncomputable def f_J9_min_7cf53 (h : jw_H) (x0 : Int32) (x1 : Int32) : Option (Int32 × jw_H) :=
 if x1 < x0 then (g_J9_min_7cf53_b10  h x1)
 else (g_J9_min_7cf53_b10  h x0)

set_option maxRecDepth 100000 in
set_option maxHeartbeats 4000000 in
theorem l_J9_min_7cf53_b10 {hi : jw_H} {h : jw_H} {t0 : Int32} {r : Int32} {h' : jw_H} (hq : g_J9_min_7cf53_b10  h t0 = some (r, h')) : jw_E 0 uJ9_min_7cf53 hi 10 [none, none] [.int t0] h (.inl (some (.int r))) h' := by
  unfold g_J9_min_7cf53_b10 at hq
  cases hq
  exact jw_iret (ty := .int) dJ9_min_7cf53_10 rfl rfl

set_option maxRecDepth 100000 in
set_option maxHeartbeats 4000000 in
theorem l_J9_min_7cf53 {hi : jw_H} {h : jw_H} {x0 : Int32} {x1 : Int32} {r : Int32} {h' : jw_H} (hq : f_J9_min_7cf53  h x0 x1 = some (r, h')) : jw_E 0 uJ9_min_7cf53 hi 0 [some (.int x0), some (.int x1)] [] h (.inl (some (.int r))) h' := by
  unfold f_J9_min_7cf53 at hq
  refine jw_iload_n dJ9_min_7cf53_0 rfl ?_
  refine jw_iload_n dJ9_min_7cf53_1 rfl ?_
  rcases jw_if hq with ⟨c1, hq⟩ | ⟨c1, hq⟩
  · refine jw_icmp_gt_t (tgt := 9) dJ9_min_7cf53_2 (by decide) c1 ?_
    refine jw_iload_n dJ9_min_7cf53_9 rfl ?_
    refine jw_forget [false, false] (L' := [none, none]) rfl ?_
    exact l_J9_min_7cf53_b10  hq
  · refine jw_icmp_gt_f (tgt := 9) dJ9_min_7cf53_2 (by decide) c1 ?_
    refine jw_iload_n dJ9_min_7cf53_5 rfl ?_
    refine jw_goto (tgt := 10) dJ9_min_7cf53_6 (by decide) ?_
    refine jw_forget [false, false] (L' := [none, none]) rfl ?_
    exact l_J9_min_7cf53_b10  hq

theorem c_J9_min_7cf53 {h : jw_H} {x0 : Int32} {x1 : Int32} {r : Int32} {h' : jw_H} (hq : f_J9_min_7cf53 h x0 x1 = some (r, h')) : jw_Con (Cond.code yJ9_min_7cf53 cJ9_min_7cf53 2 (some .int)) yJ9_min_7cf53 0 [.int x0, .int x1] h (.inl (some (.int r))) h' :=
  jw_con false (by decide +kernel) (fun z => nomatch z) (by simp [jw_ent, jw_sl0_nil, jw_sl0_int, jw_sl0_long, jw_sl0_ref, jw_sl0_rf, jw_sl0_scr, List.replicate]) (by simp [jw_sl0_nil, jw_sl0_int, jw_sl0_long, jw_sl0_ref, jw_sl0_rf, jw_sl0_scr]) (l_J9_min_7cf53 hq)


/-! X7_copy -/
noncomputable def f_X7_copy (h : jw_H) (x0 : Nat) (x1 : Option Nat) : Option (Unit × jw_H) :=
 (jw_gI h 7 x1 2).bind fun v1 =>
 (jw_gR h 7 (some x0) 0).bind fun v2 =>
 (jw_ln h v2).bind fun v3 =>
 (jw_gR h 7 x1 0).bind fun v4 =>
 (jw_ln h v4).bind fun v5 =>
 jw_b2 (f_J9_min_7cf53 h v3 v5) fun w7 h6 =>
 jw_b2 (f_J9_min_7cf53 h6 v1 w7) fun w9 h8 =>
 if 0 ≤ w9 then ((jw_gR h8 7 x1 0).bind fun v11 =>
 (jw_gR h8 7 (some x0) 0).bind fun v12 =>
 (jw_cp h8 20 v11 (0 : Int32) v12 (0 : Int32) w9).bind fun h13 =>
 (jw_gR h13 7 x1 1).bind fun v14 =>
 (jw_gR h13 7 (some x0) 1).bind fun v15 =>
 (jw_cp h13 21 v14 (0 : Int32) v15 (0 : Int32) (w9 * (30 : Int32))).bind fun h16 =>
 (jw_pI h16 7 (some x0) 2 w9).bind fun h17 =>
 some ((), h17))
 else (some ((), h8))

set_option maxRecDepth 100000 in
set_option maxHeartbeats 4000000 in
theorem l_X7_copy {hi : jw_H} {h : jw_H} {x0 : Nat} {x1 : Option Nat} {r : Unit} {h' : jw_H} (hq : f_X7_copy  h x0 x1 = some (r, h')) : jw_E 1 uX7_copy hi 0 [some (.ref x0), some (va_rf x1), none] [] h (.inl none) h' := by
  unfold f_X7_copy at hq
  refine jw_aload_n dX7_copy_0 (o := x1) rfl ?_
  obtain ⟨v1, ev1, hq⟩ := Option.bind_eq_some_iff.mp hq
  refine jw_getI (o := x1) dX7_copy_1 ev1 fl_X7_25 rfl ?_
  refine jw_aload_n dX7_copy_4 (o := (some x0)) rfl ?_
  obtain ⟨v2, ev2, hq⟩ := Option.bind_eq_some_iff.mp hq
  refine jw_getR (o := (some x0)) dX7_copy_5 ev2 fl_X7_15 rfl ?_
  obtain ⟨v3, ev3, hq⟩ := Option.bind_eq_some_iff.mp hq
  refine jw_alen (o := v2) dX7_copy_8 ev3 ?_
  refine jw_aload_n dX7_copy_9 (o := x1) rfl ?_
  obtain ⟨v4, ev4, hq⟩ := Option.bind_eq_some_iff.mp hq
  refine jw_getR (o := x1) dX7_copy_10 ev4 fl_X7_15 rfl ?_
  obtain ⟨v5, ev5, hq⟩ := Option.bind_eq_some_iff.mp hq
  refine jw_alen (o := v4) dX7_copy_13 ev5 ?_
  obtain ⟨w7, h6, ew7, hq⟩ := jw_b2_spec hq
  refine jw_callS (As := [.int v3, .int v5]) (S := [.int v1]) (v := some (.int w7)) dX7_copy_14 mt_J9_min_7cf53 st_J9_min_7cf53 lk_X7_29 (c_J9_min_7cf53 ew7) rfl (by decide) (Nat.le_of_ble_eq_true rfl) rfl ?_
  obtain ⟨w9, h8, ew9, hq⟩ := jw_b2_spec hq
  refine jw_callS (As := [.int v1, .int w7]) (S := []) (v := some (.int w9)) dX7_copy_17 mt_J9_min_7cf53 st_J9_min_7cf53 lk_X7_29 (c_J9_min_7cf53 ew9) rfl (by decide) (Nat.le_of_ble_eq_true rfl) rfl ?_
  refine jw_istore_n (L' := [some (.ref x0), some (va_rf x1), some (.int w9)]) dX7_copy_20 (Nat.le_of_ble_eq_true rfl) ((jw_st1_of (j := 1) jw_long_rf).trans rfl) ?_
  refine jw_iload_n dX7_copy_21 rfl ?_
  rcases jw_if hq with ⟨c10, hq⟩ | ⟨c10, hq⟩
  · refine jw_if_ge_t (tgt := 26) dX7_copy_22 (by decide) c10 ?_
    refine jw_aload_n dX7_copy_26 (o := x1) rfl ?_
    obtain ⟨v11, ev11, hq⟩ := Option.bind_eq_some_iff.mp hq
    refine jw_getR (o := x1) dX7_copy_27 ev11 fl_X7_15 rfl ?_
    refine jw_iconst dX7_copy_30 (v := (0 : Int32)) (by decide) ?_
    refine jw_aload_n dX7_copy_31 (o := (some x0)) rfl ?_
    obtain ⟨v12, ev12, hq⟩ := Option.bind_eq_some_iff.mp hq
    refine jw_getR (o := (some x0)) dX7_copy_32 ev12 fl_X7_15 rfl ?_
    refine jw_iconst dX7_copy_35 (v := (0 : Int32)) (by decide) ?_
    refine jw_iload_n dX7_copy_36 rfl ?_
    obtain ⟨h13, eh13, hq⟩ := Option.bind_eq_some_iff.mp hq
    refine jw_acp (o1 := v11) (o2 := v12) (t := 20) dX7_copy_37 (by decide) al_X7_32 an_0 as_0 ai_0 (by decide) (Nat.le_of_ble_eq_true rfl) eh13 ?_
    refine jw_aload_n dX7_copy_40 (o := x1) rfl ?_
    obtain ⟨v14, ev14, hq⟩ := Option.bind_eq_some_iff.mp hq
    refine jw_getR (o := x1) dX7_copy_41 ev14 fl_X7_21 rfl ?_
    refine jw_iconst dX7_copy_44 (v := (0 : Int32)) (by decide) ?_
    refine jw_aload_n dX7_copy_45 (o := (some x0)) rfl ?_
    obtain ⟨v15, ev15, hq⟩ := Option.bind_eq_some_iff.mp hq
    refine jw_getR (o := (some x0)) dX7_copy_46 ev15 fl_X7_21 rfl ?_
    refine jw_iconst dX7_copy_49 (v := (0 : Int32)) (by decide) ?_
    refine jw_iload_n dX7_copy_50 rfl ?_
    refine jw_bipush dX7_copy_51 (v := (30 : Int32)) (by decide) ?_
    refine jw_imul dX7_copy_53 ?_
    obtain ⟨h16, eh16, hq⟩ := Option.bind_eq_some_iff.mp hq
    refine jw_acp (o1 := v14) (o2 := v15) (t := 21) dX7_copy_54 (by decide) al_X7_32 an_0 as_0 ai_0 (by decide) (Nat.le_of_ble_eq_true rfl) eh16 ?_
    refine jw_aload_n dX7_copy_57 (o := (some x0)) rfl ?_
    refine jw_iload_n dX7_copy_58 rfl ?_
    obtain ⟨h17, eh17, hq⟩ := Option.bind_eq_some_iff.mp hq
    refine jw_putI (o := (some x0)) dX7_copy_59 eh17 fl_X7_25 rfl rfl ?_
    cases hq
    exact jw_vret dX7_copy_62 rfl
  · refine jw_if_ge_f (tgt := 26) dX7_copy_22 (by decide) c10 ?_
    cases hq
    exact jw_vret dX7_copy_25 rfl

theorem c_X7_copy {h : jw_H} {x0 : Nat} {x1 : Option Nat} {r : Unit} {h' : jw_H} (hq : f_X7_copy h x0 x1 = some (r, h')) : jw_Con (Cond.code yX7_copy cX7_copy 3 none) yX7_copy 1 [.ref x0, va_rf x1] h (.inl none) h' :=
  jw_con false (plainFor_of_name (by decide +kernel)) (fun z => nomatch z) (by simp [jw_ent, jw_sl0_nil, jw_sl0_int, jw_sl0_long, jw_sl0_ref, jw_sl0_rf, jw_sl0_scr, List.replicate]) (by simp [jw_sl0_nil, jw_sl0_int, jw_sl0_long, jw_sl0_ref, jw_sl0_rf, jw_sl0_scr]) (l_X7_copy hq)


/-! X8_file -/
noncomputable def g_X8_file_b23 (h : jw_H) (t0 : Option Nat) : Option ((Option Nat) × jw_H) :=
 some (t0, h)

noncomputable def g_X8_file_b22 (h : jw_H)  : Option ((Option Nat) × jw_H) :=
 g_X8_file_b23  h none

noncomputable def f_X8_file (h : jw_H) (x0 : Nat) (x1 : Int32) : Option ((Option Nat) × jw_H) :=
 if x1 < 0 then (g_X8_file_b22  h )
 else ((jw_gR h 8 (some x0) 2).bind fun v2 =>
 (jw_ln h v2).bind fun v3 =>
 if v3 ≤ x1 then (g_X8_file_b22  h )
 else ((jw_gR h 8 (some x0) 2).bind fun v5 =>
 (jw_ar h 37 v5 x1).bind fun v6 =>
 g_X8_file_b23  h v6))

set_option maxRecDepth 100000 in
set_option maxHeartbeats 4000000 in
theorem l_X8_file_b23 {hi : jw_H} {h : jw_H} {t0 : Option Nat} {r : Option Nat} {h' : jw_H} (hq : g_X8_file_b23  h t0 = some (r, h')) : jw_E 0 uX8_file hi 23 [none, none] [va_rf t0] h (.inl (some (va_rf r))) h' := by
  unfold g_X8_file_b23 at hq
  cases hq
  exact jw_aret (x := t0) dX8_file_23 rfl rfl

set_option maxRecDepth 100000 in
set_option maxHeartbeats 4000000 in
theorem l_X8_file_b22 {hi : jw_H} {h : jw_H}  {r : Option Nat} {h' : jw_H} (hq : g_X8_file_b22  h  = some (r, h')) : jw_E 0 uX8_file hi 22 [none, none] [] h (.inl (some (va_rf r))) h' := by
  unfold g_X8_file_b22 at hq
  refine jw_null dX8_file_22 ?_
  exact l_X8_file_b23  hq

set_option maxRecDepth 100000 in
set_option maxHeartbeats 4000000 in
theorem l_X8_file {hi : jw_H} {h : jw_H} {x0 : Nat} {x1 : Int32} {r : Option Nat} {h' : jw_H} (hq : f_X8_file  h x0 x1 = some (r, h')) : jw_E 0 uX8_file hi 0 [some (.ref x0), some (.int x1)] [] h (.inl (some (va_rf r))) h' := by
  unfold f_X8_file at hq
  refine jw_iload_n dX8_file_0 rfl ?_
  rcases jw_if hq with ⟨c1, hq⟩ | ⟨c1, hq⟩
  · refine jw_if_lt_t (tgt := 22) dX8_file_1 (by decide) c1 ?_
    refine jw_forget [false, false] (L' := [none, none]) rfl ?_
    exact l_X8_file_b22  hq
  · refine jw_if_lt_f (tgt := 22) dX8_file_1 (by decide) c1 ?_
    refine jw_iload_n dX8_file_4 rfl ?_
    refine jw_aload_n dX8_file_5 (o := (some x0)) rfl ?_
    obtain ⟨v2, ev2, hq⟩ := Option.bind_eq_some_iff.mp hq
    refine jw_getR (o := (some x0)) dX8_file_6 ev2 fl_X8_23 rfl ?_
    obtain ⟨v3, ev3, hq⟩ := Option.bind_eq_some_iff.mp hq
    refine jw_alen (o := v2) dX8_file_9 ev3 ?_
    rcases jw_if hq with ⟨c4, hq⟩ | ⟨c4, hq⟩
    · refine jw_icmp_ge_t (tgt := 22) dX8_file_10 (by decide) c4 ?_
      refine jw_forget [false, false] (L' := [none, none]) rfl ?_
      exact l_X8_file_b22  hq
    · refine jw_icmp_ge_f (tgt := 22) dX8_file_10 (by decide) c4 ?_
      refine jw_aload_n dX8_file_13 (o := (some x0)) rfl ?_
      obtain ⟨v5, ev5, hq⟩ := Option.bind_eq_some_iff.mp hq
      refine jw_getR (o := (some x0)) dX8_file_14 ev5 fl_X8_23 rfl ?_
      refine jw_iload_n dX8_file_17 rfl ?_
      obtain ⟨v6, ev6, hq⟩ := Option.bind_eq_some_iff.mp hq
      refine jw_aald (t := 37) (Nat.le_of_ble_eq_true rfl) (o := v5) dX8_file_18 ev6 ?_
      refine jw_goto (tgt := 23) dX8_file_19 (by decide) ?_
      refine jw_forget [false, false] (L' := [none, none]) rfl ?_
      exact l_X8_file_b23  hq

theorem c_X8_file {h : jw_H} {x0 : Nat} {x1 : Int32} {r : Option Nat} {h' : jw_H} (hq : f_X8_file h x0 x1 = some (r, h')) : jw_Con (Cond.code yX8_file cX8_file 2 (some (.object "Lineorders$Rows"))) yX8_file 0 [.ref x0, .int x1] h (.inl (some (va_rf r))) h' :=
  jw_con false (plainFor_of_name (by decide +kernel)) (fun z => nomatch z) (by simp [jw_ent, jw_sl0_nil, jw_sl0_int, jw_sl0_long, jw_sl0_ref, jw_sl0_rf, jw_sl0_scr, List.replicate]) (by simp [jw_sl0_nil, jw_sl0_int, jw_sl0_long, jw_sl0_ref, jw_sl0_rf, jw_sl0_scr]) (l_X8_file hq)


/-! X8_copy -/
noncomputable def g_X8_copy_b57 (k24 : jw_H → Nat → Option Nat → Int32 → Option (Unit × jw_H)) (h : jw_H) (x0 : Nat) (x1 : Option Nat) (x2 : Int32) : Option (Unit × jw_H) :=
 k24 h x0 x1 (x2 + (1 : Int32))

noncomputable def g_X8_copy_b24 (k24 : jw_H → Nat → Option Nat → Int32 → Option (Unit × jw_H)) (h : jw_H) (x0 : Nat) (x1 : Option Nat) (x2 : Int32) : Option (Unit × jw_H) :=
 if (4 : Int32) ≤ x2 then (some ((), h))
 else ((jw_rc h 8 (some x0)).bind fun a2 =>
 jw_b2 (f_X8_file h a2 x2) fun w4 h3 =>
 (jw_rc h3 8 x1).bind fun a5 =>
 jw_b2 (f_X8_file h3 a5 x2) fun w7 h6 =>
 if w4 = none then (g_X8_copy_b57 k24 h6 x0 x1 x2)
 else (if w7 = none then (g_X8_copy_b57 k24 h6 x0 x1 x2)
 else ((jw_rc h6 7 w4).bind fun a10 =>
 jw_b2 (f_X7_copy h6 a10 w7) fun w12 h11 =>
 g_X8_copy_b57 k24 h11 x0 x1 x2)))

noncomputable def f_X8_copy_b24 (n : Nat) : jw_H → Nat → Option Nat → Int32 → Option (Unit × jw_H) :=
 Nat.rec (fun _ _ _ _ => none) (fun _ k24 => g_X8_copy_b24 k24) n

noncomputable def f_X8_copy (h : jw_H) (x0 : Nat) (x1 : Option Nat) : Option (Unit × jw_H) :=
 (jw_gR h 8 (some x0) 0).bind fun v1 =>
 (jw_gR h 8 x1 0).bind fun v2 =>
 (jw_rc h 7 v1).bind fun a3 =>
 jw_b2 (f_X7_copy h a3 v2) fun w5 h4 =>
 (jw_gR h4 8 (some x0) 1).bind fun v6 =>
 (jw_gR h4 8 x1 1).bind fun v7 =>
 (jw_rc h4 7 v6).bind fun a8 =>
 jw_b2 (f_X7_copy h4 a8 v7) fun w10 h9 =>
 f_X8_copy_b24  jw_FU h9 x0 x1 (0 : Int32)

set_option maxRecDepth 100000 in
set_option maxHeartbeats 4000000 in
theorem l_X8_copy_b57 {hi : jw_H} {k24 : jw_H → Nat → Option Nat → Int32 → Option (Unit × jw_H)} (hk24 : ∀ (h : jw_H) (x0 : Nat) (x1 : Option Nat) (x2 : Int32) (r : Unit) (h' : jw_H), k24 h x0 x1 x2 = some (r, h') → jw_E 2 uX8_copy hi 24 [some (.ref x0), some (va_rf x1), some (.int x2), none, none] [] h (.inl none) h') {h : jw_H} {x0 : Nat} {x1 : Option Nat} {x2 : Int32} {r : Unit} {h' : jw_H} (hq : g_X8_copy_b57 k24 h x0 x1 x2 = some (r, h')) : jw_E 2 uX8_copy hi 57 [some (.ref x0), some (va_rf x1), some (.int x2), none, none] [] h (.inl none) h' := by
  unfold g_X8_copy_b57 at hq
  refine jw_iinc (L' := [some (.ref x0), some (va_rf x1), some (.int (x2 + (1 : Int32))), none, none]) dX8_copy_57 rfl (v := (1 : Int32)) (by decide) (Nat.le_of_ble_eq_true rfl) ((jw_st1_of (j := 1) jw_long_rf).trans rfl) ?_
  refine jw_goto (tgt := 24) dX8_copy_60 (by decide) ?_
  exact hk24 _ _ _ _ _ _ hq

set_option maxRecDepth 100000 in
set_option maxHeartbeats 4000000 in
theorem l_X8_copy_b24g {hi : jw_H} {k24 : jw_H → Nat → Option Nat → Int32 → Option (Unit × jw_H)} (hk24 : ∀ (h : jw_H) (x0 : Nat) (x1 : Option Nat) (x2 : Int32) (r : Unit) (h' : jw_H), k24 h x0 x1 x2 = some (r, h') → jw_E 2 uX8_copy hi 24 [some (.ref x0), some (va_rf x1), some (.int x2), none, none] [] h (.inl none) h') {h : jw_H} {x0 : Nat} {x1 : Option Nat} {x2 : Int32} {r : Unit} {h' : jw_H} (hq : g_X8_copy_b24 k24 h x0 x1 x2 = some (r, h')) : jw_E 2 uX8_copy hi 24 [some (.ref x0), some (va_rf x1), some (.int x2), none, none] [] h (.inl none) h' := by
  unfold g_X8_copy_b24 at hq
  refine jw_iload_n dX8_copy_24 rfl ?_
  refine jw_iconst dX8_copy_25 (v := (4 : Int32)) (by decide) ?_
  rcases jw_if hq with ⟨c1, hq⟩ | ⟨c1, hq⟩
  · refine jw_icmp_ge_t (tgt := 63) dX8_copy_26 (by decide) c1 ?_
    cases hq
    exact jw_vret dX8_copy_63 rfl
  · refine jw_icmp_ge_f (tgt := 63) dX8_copy_26 (by decide) c1 ?_
    refine jw_aload_n dX8_copy_29 (o := (some x0)) rfl ?_
    refine jw_iload_n dX8_copy_30 rfl ?_
    obtain ⟨a2, ea2, hq⟩ := Option.bind_eq_some_iff.mp hq
    obtain ⟨eoa2, eta2⟩ := jw_rc_spec ea2
    obtain ⟨w4, h3, ew4, hq⟩ := jw_b2_spec hq
    refine jw_callV (As := [.int x2]) (S := []) (a := a2) (v := some (va_rf w4)) dX8_copy_31 mt_X8_file in_X8_file se_X8_file lk_X8_35 (c_X8_file ew4) eta2 (by decide) rfl rfl (by decide) (Nat.le_of_ble_eq_true rfl) (by cases eoa2; rfl) ?_
    refine jw_astore_n (o := w4) (L' := [some (.ref x0), some (va_rf x1), some (.int x2), some (va_rf w4), none]) dX8_copy_34 (Nat.le_of_ble_eq_true rfl) rfl ?_
    refine jw_aload_n dX8_copy_35 (o := x1) rfl ?_
    refine jw_iload_n dX8_copy_36 rfl ?_
    obtain ⟨a5, ea5, hq⟩ := Option.bind_eq_some_iff.mp hq
    obtain ⟨eoa5, eta5⟩ := jw_rc_spec ea5
    obtain ⟨w7, h6, ew7, hq⟩ := jw_b2_spec hq
    refine jw_callV (As := [.int x2]) (S := []) (a := a5) (v := some (va_rf w7)) dX8_copy_37 mt_X8_file in_X8_file se_X8_file lk_X8_35 (c_X8_file ew7) eta5 (by decide) rfl rfl (by decide) (Nat.le_of_ble_eq_true rfl) (by cases eoa5; rfl) ?_
    refine jw_astore (o := w7) (L' := [some (.ref x0), some (va_rf x1), some (.int x2), some (va_rf w4), some (va_rf w7)]) dX8_copy_40 (Nat.le_of_ble_eq_true rfl) ((jw_st1_of (j := 3) jw_long_rf).trans rfl) ?_
    refine jw_aload_n dX8_copy_42 (o := w4) rfl ?_
    rcases jw_if hq with ⟨c8, hq⟩ | ⟨c8, hq⟩
    · refine jw_ifnull_t (o := w4) (tgt := 57) dX8_copy_43 (by decide) c8 ?_
      refine jw_forget [true, true, true, false, false] (L' := [some (.ref x0), some (va_rf x1), some (.int x2), none, none]) rfl ?_
      exact l_X8_copy_b57 hk24 hq
    · refine jw_ifnull_f (o := w4) dX8_copy_43 c8 ?_
      refine jw_aload dX8_copy_46 (o := w7) rfl ?_
      rcases jw_if hq with ⟨c9, hq⟩ | ⟨c9, hq⟩
      · refine jw_ifnull_t (o := w7) (tgt := 57) dX8_copy_48 (by decide) c9 ?_
        refine jw_forget [true, true, true, false, false] (L' := [some (.ref x0), some (va_rf x1), some (.int x2), none, none]) rfl ?_
        exact l_X8_copy_b57 hk24 hq
      · refine jw_ifnull_f (o := w7) dX8_copy_48 c9 ?_
        refine jw_aload_n dX8_copy_51 (o := w4) rfl ?_
        refine jw_aload dX8_copy_52 (o := w7) rfl ?_
        obtain ⟨a10, ea10, hq⟩ := Option.bind_eq_some_iff.mp hq
        obtain ⟨eoa10, eta10⟩ := jw_rc_spec ea10
        obtain ⟨w12, h11, ew12, hq⟩ := jw_b2_spec hq
        refine jw_callV (As := [va_rf w7]) (S := []) (a := a10) (v := none) dX8_copy_54 mt_X7_copy in_X7_copy se_X7_copy lk_X8_31 (c_X7_copy ew12) eta10 (by decide) rfl rfl (by decide) (Nat.le_of_ble_eq_true rfl) (by cases eoa10; rfl) ?_
        refine jw_forget [true, true, true, false, false] (L' := [some (.ref x0), some (va_rf x1), some (.int x2), none, none]) rfl ?_
        exact l_X8_copy_b57 hk24 hq

theorem l_X8_copy_b24 {hi : jw_H} : ∀ (n : Nat) (h : jw_H) (x0 : Nat) (x1 : Option Nat) (x2 : Int32) (r : Unit) (h' : jw_H), f_X8_copy_b24  n h x0 x1 x2 = some (r, h') → jw_E 2 uX8_copy hi 24 [some (.ref x0), some (va_rf x1), some (.int x2), none, none] [] h (.inl none) h' := by
  intro n
  induction n with
  | zero => intro h x0 x1 x2 r h' hq; exact nomatch hq
  | succ n ih => intro h x0 x1 x2 r h' hq; exact l_X8_copy_b24g ih hq

set_option maxRecDepth 100000 in
set_option maxHeartbeats 4000000 in
theorem l_X8_copy {hi : jw_H} {h : jw_H} {x0 : Nat} {x1 : Option Nat} {r : Unit} {h' : jw_H} (hq : f_X8_copy  h x0 x1 = some (r, h')) : jw_E 2 uX8_copy hi 0 [some (.ref x0), some (va_rf x1), none, none, none] [] h (.inl none) h' := by
  unfold f_X8_copy at hq
  refine jw_aload_n dX8_copy_0 (o := (some x0)) rfl ?_
  obtain ⟨v1, ev1, hq⟩ := Option.bind_eq_some_iff.mp hq
  refine jw_getR (o := (some x0)) dX8_copy_1 ev1 fl_X8_14 rfl ?_
  refine jw_aload_n dX8_copy_4 (o := x1) rfl ?_
  obtain ⟨v2, ev2, hq⟩ := Option.bind_eq_some_iff.mp hq
  refine jw_getR (o := x1) dX8_copy_5 ev2 fl_X8_14 rfl ?_
  obtain ⟨a3, ea3, hq⟩ := Option.bind_eq_some_iff.mp hq
  obtain ⟨eoa3, eta3⟩ := jw_rc_spec ea3
  obtain ⟨w5, h4, ew5, hq⟩ := jw_b2_spec hq
  refine jw_callV (As := [va_rf v2]) (S := []) (a := a3) (v := none) dX8_copy_8 mt_X7_copy in_X7_copy se_X7_copy lk_X8_31 (c_X7_copy ew5) eta3 (by decide) rfl rfl (by decide) (Nat.le_of_ble_eq_true rfl) (by cases eoa3; rfl) ?_
  refine jw_aload_n dX8_copy_11 (o := (some x0)) rfl ?_
  obtain ⟨v6, ev6, hq⟩ := Option.bind_eq_some_iff.mp hq
  refine jw_getR (o := (some x0)) dX8_copy_12 ev6 fl_X8_20 rfl ?_
  refine jw_aload_n dX8_copy_15 (o := x1) rfl ?_
  obtain ⟨v7, ev7, hq⟩ := Option.bind_eq_some_iff.mp hq
  refine jw_getR (o := x1) dX8_copy_16 ev7 fl_X8_20 rfl ?_
  obtain ⟨a8, ea8, hq⟩ := Option.bind_eq_some_iff.mp hq
  obtain ⟨eoa8, eta8⟩ := jw_rc_spec ea8
  obtain ⟨w10, h9, ew10, hq⟩ := jw_b2_spec hq
  refine jw_callV (As := [va_rf v7]) (S := []) (a := a8) (v := none) dX8_copy_19 mt_X7_copy in_X7_copy se_X7_copy lk_X8_31 (c_X7_copy ew10) eta8 (by decide) rfl rfl (by decide) (Nat.le_of_ble_eq_true rfl) (by cases eoa8; rfl) ?_
  refine jw_iconst dX8_copy_22 (v := (0 : Int32)) (by decide) ?_
  refine jw_istore_n (L' := [some (.ref x0), some (va_rf x1), some (.int (0 : Int32)), none, none]) dX8_copy_23 (Nat.le_of_ble_eq_true rfl) ((jw_st1_of (j := 1) jw_long_rf).trans rfl) ?_
  exact l_X8_copy_b24  jw_FU _ _ _ _ _ _ hq

theorem c_X8_copy {h : jw_H} {x0 : Nat} {x1 : Option Nat} {r : Unit} {h' : jw_H} (hq : f_X8_copy h x0 x1 = some (r, h')) : jw_Con (Cond.code yX8_copy cX8_copy 5 none) yX8_copy 2 [.ref x0, va_rf x1] h (.inl none) h' :=
  jw_con false (plainFor_of_name (by decide +kernel)) (fun z => nomatch z) (by simp [jw_ent, jw_sl0_nil, jw_sl0_int, jw_sl0_long, jw_sl0_ref, jw_sl0_rf, jw_sl0_scr, List.replicate]) (by simp [jw_sl0_nil, jw_sl0_int, jw_sl0_long, jw_sl0_ref, jw_sl0_rf, jw_sl0_scr]) (l_X8_copy hq)


/-! X9_copy -/
noncomputable def f_X9_copy (h : jw_H) (x0 : Nat) (x1 : Option Nat) : Option (Unit × jw_H) :=
 (jw_gR h 9 (some x0) 0).bind fun v1 =>
 (jw_gR h 9 x1 0).bind fun v2 =>
 (jw_rc h 7 v1).bind fun a3 =>
 jw_b2 (f_X7_copy h a3 v2) fun w5 h4 =>
 (jw_gR h4 9 x1 1).bind fun v6 =>
 (jw_gR h4 9 (some x0) 1).bind fun v7 =>
 (jw_cp h4 20 v6 (0 : Int32) v7 (0 : Int32) (40 : Int32)).bind fun h8 =>
 (jw_gR h8 9 x1 2).bind fun v9 =>
 (jw_gR h8 9 (some x0) 2).bind fun v10 =>
 (jw_cp h8 20 v9 (0 : Int32) v10 (0 : Int32) (5 : Int32)).bind fun h11 =>
 (jw_gI h11 9 x1 3).bind fun v12 =>
 (jw_pI h11 9 (some x0) 3 v12).bind fun h13 =>
 some ((), h13)

set_option maxRecDepth 100000 in
set_option maxHeartbeats 4000000 in
theorem l_X9_copy {hi : jw_H} {h : jw_H} {x0 : Nat} {x1 : Option Nat} {r : Unit} {h' : jw_H} (hq : f_X9_copy  h x0 x1 = some (r, h')) : jw_E 2 uX9_copy hi 0 [some (.ref x0), some (va_rf x1)] [] h (.inl none) h' := by
  unfold f_X9_copy at hq
  refine jw_aload_n dX9_copy_0 (o := (some x0)) rfl ?_
  obtain ⟨v1, ev1, hq⟩ := Option.bind_eq_some_iff.mp hq
  refine jw_getR (o := (some x0)) dX9_copy_1 ev1 fl_X9_14 rfl ?_
  refine jw_aload_n dX9_copy_4 (o := x1) rfl ?_
  obtain ⟨v2, ev2, hq⟩ := Option.bind_eq_some_iff.mp hq
  refine jw_getR (o := x1) dX9_copy_5 ev2 fl_X9_14 rfl ?_
  obtain ⟨a3, ea3, hq⟩ := Option.bind_eq_some_iff.mp hq
  obtain ⟨eoa3, eta3⟩ := jw_rc_spec ea3
  obtain ⟨w5, h4, ew5, hq⟩ := jw_b2_spec hq
  refine jw_callV (As := [va_rf v2]) (S := []) (a := a3) (v := none) dX9_copy_8 mt_X7_copy in_X7_copy se_X7_copy lk_X9_27 (c_X7_copy ew5) eta3 (by decide) rfl rfl (by decide) (Nat.le_of_ble_eq_true rfl) (by cases eoa3; rfl) ?_
  refine jw_aload_n dX9_copy_11 (o := x1) rfl ?_
  obtain ⟨v6, ev6, hq⟩ := Option.bind_eq_some_iff.mp hq
  refine jw_getR (o := x1) dX9_copy_12 ev6 fl_X9_20 rfl ?_
  refine jw_iconst dX9_copy_15 (v := (0 : Int32)) (by decide) ?_
  refine jw_aload_n dX9_copy_16 (o := (some x0)) rfl ?_
  obtain ⟨v7, ev7, hq⟩ := Option.bind_eq_some_iff.mp hq
  refine jw_getR (o := (some x0)) dX9_copy_17 ev7 fl_X9_20 rfl ?_
  refine jw_iconst dX9_copy_20 (v := (0 : Int32)) (by decide) ?_
  refine jw_bipush dX9_copy_21 (v := (40 : Int32)) (by decide) ?_
  obtain ⟨h8, eh8, hq⟩ := Option.bind_eq_some_iff.mp hq
  refine jw_acp (o1 := v6) (o2 := v7) (t := 20) dX9_copy_23 (by decide) al_X9_31 an_0 as_0 ai_0 (by decide) (Nat.le_of_ble_eq_true rfl) eh8 ?_
  refine jw_aload_n dX9_copy_26 (o := x1) rfl ?_
  obtain ⟨v9, ev9, hq⟩ := Option.bind_eq_some_iff.mp hq
  refine jw_getR (o := x1) dX9_copy_27 ev9 fl_X9_24 rfl ?_
  refine jw_iconst dX9_copy_30 (v := (0 : Int32)) (by decide) ?_
  refine jw_aload_n dX9_copy_31 (o := (some x0)) rfl ?_
  obtain ⟨v10, ev10, hq⟩ := Option.bind_eq_some_iff.mp hq
  refine jw_getR (o := (some x0)) dX9_copy_32 ev10 fl_X9_24 rfl ?_
  refine jw_iconst dX9_copy_35 (v := (0 : Int32)) (by decide) ?_
  refine jw_iconst dX9_copy_36 (v := (5 : Int32)) (by decide) ?_
  obtain ⟨h11, eh11, hq⟩ := Option.bind_eq_some_iff.mp hq
  refine jw_acp (o1 := v9) (o2 := v10) (t := 20) dX9_copy_37 (by decide) al_X9_31 an_0 as_0 ai_0 (by decide) (Nat.le_of_ble_eq_true rfl) eh11 ?_
  refine jw_aload_n dX9_copy_40 (o := (some x0)) rfl ?_
  refine jw_aload_n dX9_copy_41 (o := x1) rfl ?_
  obtain ⟨v12, ev12, hq⟩ := Option.bind_eq_some_iff.mp hq
  refine jw_getI (o := x1) dX9_copy_42 ev12 fl_X9_37 rfl ?_
  obtain ⟨h13, eh13, hq⟩ := Option.bind_eq_some_iff.mp hq
  refine jw_putI (o := (some x0)) dX9_copy_45 eh13 fl_X9_37 rfl rfl ?_
  cases hq
  exact jw_vret dX9_copy_48 rfl

theorem c_X9_copy {h : jw_H} {x0 : Nat} {x1 : Option Nat} {r : Unit} {h' : jw_H} (hq : f_X9_copy h x0 x1 = some (r, h')) : jw_Con (Cond.code yX9_copy cX9_copy 2 none) yX9_copy 2 [.ref x0, va_rf x1] h (.inl none) h' :=
  jw_con false (plainFor_of_name (by decide +kernel)) (fun z => nomatch z) (by simp [jw_ent, jw_sl0_nil, jw_sl0_int, jw_sl0_long, jw_sl0_ref, jw_sl0_rf, jw_sl0_scr, List.replicate]) (by simp [jw_sl0_nil, jw_sl0_int, jw_sl0_long, jw_sl0_ref, jw_sl0_rf, jw_sl0_scr]) (l_X9_copy hq)


/-! X7_shrink -/
noncomputable def f_X7_shrink (h : jw_H) (x0 : Nat) (x1 : Int32) : Option (Unit × jw_H) :=
 if x1 < 0 then (some ((), h))
 else ((jw_gI h 7 (some x0) 2).bind fun v2 =>
 if v2 ≤ x1 then (some ((), h))
 else ((jw_pI h 7 (some x0) 2 x1).bind fun h4 =>
 some ((), h4)))

set_option maxRecDepth 100000 in
set_option maxHeartbeats 4000000 in
theorem l_X7_shrink {hi : jw_H} {h : jw_H} {x0 : Nat} {x1 : Int32} {r : Unit} {h' : jw_H} (hq : f_X7_shrink  h x0 x1 = some (r, h')) : jw_E 0 uX7_shrink hi 0 [some (.ref x0), some (.int x1)] [] h (.inl none) h' := by
  unfold f_X7_shrink at hq
  refine jw_iload_n dX7_shrink_0 rfl ?_
  rcases jw_if hq with ⟨c1, hq⟩ | ⟨c1, hq⟩
  · refine jw_if_lt_t (tgt := 17) dX7_shrink_1 (by decide) c1 ?_
    cases hq
    exact jw_vret dX7_shrink_17 rfl
  · refine jw_if_lt_f (tgt := 17) dX7_shrink_1 (by decide) c1 ?_
    refine jw_iload_n dX7_shrink_4 rfl ?_
    refine jw_aload_n dX7_shrink_5 (o := (some x0)) rfl ?_
    obtain ⟨v2, ev2, hq⟩ := Option.bind_eq_some_iff.mp hq
    refine jw_getI (o := (some x0)) dX7_shrink_6 ev2 fl_X7_25 rfl ?_
    rcases jw_if hq with ⟨c3, hq⟩ | ⟨c3, hq⟩
    · refine jw_icmp_ge_t (tgt := 17) dX7_shrink_9 (by decide) c3 ?_
      cases hq
      exact jw_vret dX7_shrink_17 rfl
    · refine jw_icmp_ge_f (tgt := 17) dX7_shrink_9 (by decide) c3 ?_
      refine jw_aload_n dX7_shrink_12 (o := (some x0)) rfl ?_
      refine jw_iload_n dX7_shrink_13 rfl ?_
      obtain ⟨h4, eh4, hq⟩ := Option.bind_eq_some_iff.mp hq
      refine jw_putI (o := (some x0)) dX7_shrink_14 eh4 fl_X7_25 rfl rfl ?_
      cases hq
      exact jw_vret dX7_shrink_17 rfl

theorem c_X7_shrink {h : jw_H} {x0 : Nat} {x1 : Int32} {r : Unit} {h' : jw_H} (hq : f_X7_shrink h x0 x1 = some (r, h')) : jw_Con (Cond.code yX7_shrink cX7_shrink 2 none) yX7_shrink 0 [.ref x0, .int x1] h (.inl none) h' :=
  jw_con false (plainFor_of_name (by decide +kernel)) (fun z => nomatch z) (by simp [jw_ent, jw_sl0_nil, jw_sl0_int, jw_sl0_long, jw_sl0_ref, jw_sl0_rf, jw_sl0_scr, List.replicate]) (by simp [jw_sl0_nil, jw_sl0_int, jw_sl0_long, jw_sl0_ref, jw_sl0_rf, jw_sl0_scr]) (l_X7_shrink hq)


/-! X6_orderAt -/
noncomputable def g_X6_orderAt_b31 (h : jw_H) (t0 : Option Nat) : Option ((Option Nat) × jw_H) :=
 some (t0, h)

noncomputable def g_X6_orderAt_b30 (h : jw_H)  : Option ((Option Nat) × jw_H) :=
 g_X6_orderAt_b31  h none

noncomputable def f_X6_orderAt (h : jw_H) (x0 : Nat) (x1 : Int32) : Option ((Option Nat) × jw_H) :=
 if x1 < 0 then (g_X6_orderAt_b30  h )
 else ((jw_gI h 6 (some x0) 6).bind fun v2 =>
 if v2 ≤ x1 then (g_X6_orderAt_b30  h )
 else ((jw_gR h 6 (some x0) 0).bind fun v4 =>
 (jw_ln h v4).bind fun v5 =>
 if v5 ≤ x1 then (g_X6_orderAt_b30  h )
 else ((jw_gR h 6 (some x0) 0).bind fun v7 =>
 (jw_ar h 35 v7 x1).bind fun v8 =>
 g_X6_orderAt_b31  h v8)))

set_option maxRecDepth 100000 in
set_option maxHeartbeats 4000000 in
theorem l_X6_orderAt_b31 {hi : jw_H} {h : jw_H} {t0 : Option Nat} {r : Option Nat} {h' : jw_H} (hq : g_X6_orderAt_b31  h t0 = some (r, h')) : jw_E 0 uX6_orderAt hi 31 [none, none] [va_rf t0] h (.inl (some (va_rf r))) h' := by
  unfold g_X6_orderAt_b31 at hq
  cases hq
  exact jw_aret (x := t0) dX6_orderAt_31 rfl rfl

set_option maxRecDepth 100000 in
set_option maxHeartbeats 4000000 in
theorem l_X6_orderAt_b30 {hi : jw_H} {h : jw_H}  {r : Option Nat} {h' : jw_H} (hq : g_X6_orderAt_b30  h  = some (r, h')) : jw_E 0 uX6_orderAt hi 30 [none, none] [] h (.inl (some (va_rf r))) h' := by
  unfold g_X6_orderAt_b30 at hq
  refine jw_null dX6_orderAt_30 ?_
  exact l_X6_orderAt_b31  hq

set_option maxRecDepth 100000 in
set_option maxHeartbeats 4000000 in
theorem l_X6_orderAt {hi : jw_H} {h : jw_H} {x0 : Nat} {x1 : Int32} {r : Option Nat} {h' : jw_H} (hq : f_X6_orderAt  h x0 x1 = some (r, h')) : jw_E 0 uX6_orderAt hi 0 [some (.ref x0), some (.int x1)] [] h (.inl (some (va_rf r))) h' := by
  unfold f_X6_orderAt at hq
  refine jw_iload_n dX6_orderAt_0 rfl ?_
  rcases jw_if hq with ⟨c1, hq⟩ | ⟨c1, hq⟩
  · refine jw_if_lt_t (tgt := 30) dX6_orderAt_1 (by decide) c1 ?_
    refine jw_forget [false, false] (L' := [none, none]) rfl ?_
    exact l_X6_orderAt_b30  hq
  · refine jw_if_lt_f (tgt := 30) dX6_orderAt_1 (by decide) c1 ?_
    refine jw_iload_n dX6_orderAt_4 rfl ?_
    refine jw_aload_n dX6_orderAt_5 (o := (some x0)) rfl ?_
    obtain ⟨v2, ev2, hq⟩ := Option.bind_eq_some_iff.mp hq
    refine jw_getI (o := (some x0)) dX6_orderAt_6 ev2 fl_X6_30 rfl ?_
    rcases jw_if hq with ⟨c3, hq⟩ | ⟨c3, hq⟩
    · refine jw_icmp_ge_t (tgt := 30) dX6_orderAt_9 (by decide) c3 ?_
      refine jw_forget [false, false] (L' := [none, none]) rfl ?_
      exact l_X6_orderAt_b30  hq
    · refine jw_icmp_ge_f (tgt := 30) dX6_orderAt_9 (by decide) c3 ?_
      refine jw_iload_n dX6_orderAt_12 rfl ?_
      refine jw_aload_n dX6_orderAt_13 (o := (some x0)) rfl ?_
      obtain ⟨v4, ev4, hq⟩ := Option.bind_eq_some_iff.mp hq
      refine jw_getR (o := (some x0)) dX6_orderAt_14 ev4 fl_X6_11 rfl ?_
      obtain ⟨v5, ev5, hq⟩ := Option.bind_eq_some_iff.mp hq
      refine jw_alen (o := v4) dX6_orderAt_17 ev5 ?_
      rcases jw_if hq with ⟨c6, hq⟩ | ⟨c6, hq⟩
      · refine jw_icmp_ge_t (tgt := 30) dX6_orderAt_18 (by decide) c6 ?_
        refine jw_forget [false, false] (L' := [none, none]) rfl ?_
        exact l_X6_orderAt_b30  hq
      · refine jw_icmp_ge_f (tgt := 30) dX6_orderAt_18 (by decide) c6 ?_
        refine jw_aload_n dX6_orderAt_21 (o := (some x0)) rfl ?_
        obtain ⟨v7, ev7, hq⟩ := Option.bind_eq_some_iff.mp hq
        refine jw_getR (o := (some x0)) dX6_orderAt_22 ev7 fl_X6_11 rfl ?_
        refine jw_iload_n dX6_orderAt_25 rfl ?_
        obtain ⟨v8, ev8, hq⟩ := Option.bind_eq_some_iff.mp hq
        refine jw_aald (t := 35) (Nat.le_of_ble_eq_true rfl) (o := v7) dX6_orderAt_26 ev8 ?_
        refine jw_goto (tgt := 31) dX6_orderAt_27 (by decide) ?_
        refine jw_forget [false, false] (L' := [none, none]) rfl ?_
        exact l_X6_orderAt_b31  hq

theorem c_X6_orderAt {h : jw_H} {x0 : Nat} {x1 : Int32} {r : Option Nat} {h' : jw_H} (hq : f_X6_orderAt h x0 x1 = some (r, h')) : jw_Con (Cond.code yX6_orderAt cX6_orderAt 2 (some (.object "Lineorders$Order"))) yX6_orderAt 0 [.ref x0, .int x1] h (.inl (some (va_rf r))) h' :=
  jw_con false (plainFor_of_name (by decide +kernel)) (fun z => nomatch z) (by simp [jw_ent, jw_sl0_nil, jw_sl0_int, jw_sl0_long, jw_sl0_ref, jw_sl0_rf, jw_sl0_scr, List.replicate]) (by simp [jw_sl0_nil, jw_sl0_int, jw_sl0_long, jw_sl0_ref, jw_sl0_rf, jw_sl0_scr]) (l_X6_orderAt hq)


/-! X1_begin -/
noncomputable def g_X1_begin_b137 (k79 : jw_H → Nat → Int32 → Option (Unit × jw_H)) (h : jw_H) (x0 : Nat) (x1 : Int32) : Option (Unit × jw_H) :=
 k79 h x0 (x1 + (1 : Int32))

noncomputable def g_X1_begin_b127 (k79 : jw_H → Nat → Int32 → Option (Unit × jw_H)) (h : jw_H) (x0 : Nat) (x1 : Int32) (t0 : Option Nat) : Option (Unit × jw_H) :=
 if t0 = none then (g_X1_begin_b137 k79 h x0 x1)
 else ((jw_rc h 7 t0).bind fun a2 =>
 jw_b2 (f_X7_shrink h a2 (0 : Int32)) fun w4 h3 =>
 g_X1_begin_b137 k79 h3 x0 x1)

noncomputable def g_X1_begin_b112 (k79 : jw_H → Nat → Int32 → Option (Unit × jw_H)) (h : jw_H) (x0 : Nat) (x1 : Int32) : Option (Unit × jw_H) :=
 g_X1_begin_b127 k79 h x0 x1 none

noncomputable def g_X1_begin_b79 (k79 : jw_H → Nat → Int32 → Option (Unit × jw_H)) (h : jw_H) (x0 : Nat) (x1 : Int32) : Option (Unit × jw_H) :=
 (jw_gR h 1 (some x0) 0).bind fun v1 =>
 (jw_gI h 6 v1 6).bind fun v2 =>
 if v2 ≤ x1 then (some ((), h))
 else ((jw_gR h 1 (some x0) 0).bind fun v4 =>
 (jw_rc h 6 v4).bind fun a5 =>
 jw_b2 (f_X6_orderAt h a5 x1) fun w7 h6 =>
 if w7 = none then (g_X1_begin_b112 k79 h6 x0 x1)
 else ((jw_gI h6 5 w7 3).bind fun v9 =>
 if v9 = (119 : Int32) then ((jw_gR h6 1 (some x0) 2).bind fun v11 =>
 (jw_gI h6 5 w7 5).bind fun v12 =>
 (jw_rc h6 8 v11).bind fun a13 =>
 jw_b2 (f_X8_file h6 a13 v12) fun w15 h14 =>
 g_X1_begin_b127 k79 h14 x0 x1 w15)
 else (g_X1_begin_b112 k79 h6 x0 x1)))

noncomputable def f_X1_begin_b79 (n : Nat) : jw_H → Nat → Int32 → Option (Unit × jw_H) :=
 Nat.rec (fun _ _ _ => none) (fun _ k79 => g_X1_begin_b79 k79) n

noncomputable def f_X1_begin (h : jw_H) (x0 : Nat) : Option (Unit × jw_H) :=
 (jw_gR h 1 (some x0) 3).bind fun v1 =>
 (jw_gR h 1 (some x0) 2).bind fun v2 =>
 (jw_rc h 8 v1).bind fun a3 =>
 jw_b2 (f_X8_copy h a3 v2) fun w5 h4 =>
 (jw_gR h4 1 (some x0) 6).bind fun v6 =>
 (jw_gR h4 1 (some x0) 1).bind fun v7 =>
 (jw_rc h4 9 v6).bind fun a8 =>
 jw_b2 (f_X9_copy h4 a8 v7) fun w10 h9 =>
 (jw_gR h9 1 (some x0) 6).bind fun v11 =>
 (jw_gR h9 9 v11 0).bind fun v12 =>
 (jw_rc h9 7 v12).bind fun a13 =>
 jw_b2 (f_X7_shrink h9 a13 (0 : Int32)) fun w15 h14 =>
 (jw_gR h14 1 (some x0) 6).bind fun v16 =>
 (jw_gR h14 1 (some x0) 1).bind fun v17 =>
 (jw_gI h14 9 v17 4).bind fun v18 =>
 (jw_pI h14 9 v16 4 v18).bind fun h19 =>
 (jw_pI h19 1 (some x0) 12 (0 : Int32)).bind fun h20 =>
 (jw_pI h20 1 (some x0) 13 (0 : Int32)).bind fun h21 =>
 (jw_pI h21 1 (some x0) 14 (0 : Int32)).bind fun h22 =>
 (jw_pI h22 1 (some x0) 15 (0 : Int32)).bind fun h23 =>
 (jw_pB h23 1 (some x0) 18 (0 : Int32)).bind fun h24 =>
 (jw_pB h24 1 (some x0) 19 (0 : Int32)).bind fun h25 =>
 f_X1_begin_b79  jw_FU h25 x0 (0 : Int32)

set_option maxRecDepth 100000 in
set_option maxHeartbeats 4000000 in
theorem l_X1_begin_b137 {hi : jw_H} {k79 : jw_H → Nat → Int32 → Option (Unit × jw_H)} (hk79 : ∀ (h : jw_H) (x0 : Nat) (x1 : Int32) (r : Unit) (h' : jw_H), k79 h x0 x1 = some (r, h') → jw_E 3 uX1_begin hi 79 [some (.ref x0), some (.int x1), none, none] [] h (.inl none) h') {h : jw_H} {x0 : Nat} {x1 : Int32} {r : Unit} {h' : jw_H} (hq : g_X1_begin_b137 k79 h x0 x1 = some (r, h')) : jw_E 3 uX1_begin hi 137 [some (.ref x0), some (.int x1), none, none] [] h (.inl none) h' := by
  unfold g_X1_begin_b137 at hq
  refine jw_iinc (L' := [some (.ref x0), some (.int (x1 + (1 : Int32))), none, none]) dX1_begin_137 rfl (v := (1 : Int32)) (by decide) (Nat.le_of_ble_eq_true rfl) rfl ?_
  refine jw_goto (tgt := 79) dX1_begin_140 (by decide) ?_
  exact hk79 _ _ _ _ _ hq

set_option maxRecDepth 100000 in
set_option maxHeartbeats 4000000 in
theorem l_X1_begin_b127 {hi : jw_H} {k79 : jw_H → Nat → Int32 → Option (Unit × jw_H)} (hk79 : ∀ (h : jw_H) (x0 : Nat) (x1 : Int32) (r : Unit) (h' : jw_H), k79 h x0 x1 = some (r, h') → jw_E 3 uX1_begin hi 79 [some (.ref x0), some (.int x1), none, none] [] h (.inl none) h') {h : jw_H} {x0 : Nat} {x1 : Int32} {t0 : Option Nat} {r : Unit} {h' : jw_H} (hq : g_X1_begin_b127 k79 h x0 x1 t0 = some (r, h')) : jw_E 3 uX1_begin hi 127 [some (.ref x0), some (.int x1), none, none] [va_rf t0] h (.inl none) h' := by
  unfold g_X1_begin_b127 at hq
  refine jw_astore_n (o := t0) (L' := [some (.ref x0), some (.int x1), none, some (va_rf t0)]) dX1_begin_127 (Nat.le_of_ble_eq_true rfl) rfl ?_
  refine jw_aload_n dX1_begin_128 (o := t0) rfl ?_
  rcases jw_if hq with ⟨c1, hq⟩ | ⟨c1, hq⟩
  · refine jw_ifnull_t (o := t0) (tgt := 137) dX1_begin_129 (by decide) c1 ?_
    refine jw_forget [true, true, true, false] (L' := [some (.ref x0), some (.int x1), none, none]) rfl ?_
    exact l_X1_begin_b137 hk79 hq
  · refine jw_ifnull_f (o := t0) dX1_begin_129 c1 ?_
    refine jw_aload_n dX1_begin_132 (o := t0) rfl ?_
    refine jw_iconst dX1_begin_133 (v := (0 : Int32)) (by decide) ?_
    obtain ⟨a2, ea2, hq⟩ := Option.bind_eq_some_iff.mp hq
    obtain ⟨eoa2, eta2⟩ := jw_rc_spec ea2
    obtain ⟨w4, h3, ew4, hq⟩ := jw_b2_spec hq
    refine jw_callV (As := [.int (0 : Int32)]) (S := []) (a := a2) (v := none) dX1_begin_134 mt_X7_shrink in_X7_shrink se_X7_shrink lk_X1_112 (c_X7_shrink ew4) eta2 (by decide) rfl rfl (by decide) (Nat.le_of_ble_eq_true rfl) (by cases eoa2; rfl) ?_
    refine jw_forget [true, true, true, false] (L' := [some (.ref x0), some (.int x1), none, none]) rfl ?_
    exact l_X1_begin_b137 hk79 hq

set_option maxRecDepth 100000 in
set_option maxHeartbeats 4000000 in
theorem l_X1_begin_b112 {hi : jw_H} {k79 : jw_H → Nat → Int32 → Option (Unit × jw_H)} (hk79 : ∀ (h : jw_H) (x0 : Nat) (x1 : Int32) (r : Unit) (h' : jw_H), k79 h x0 x1 = some (r, h') → jw_E 3 uX1_begin hi 79 [some (.ref x0), some (.int x1), none, none] [] h (.inl none) h') {h : jw_H} {x0 : Nat} {x1 : Int32} {r : Unit} {h' : jw_H} (hq : g_X1_begin_b112 k79 h x0 x1 = some (r, h')) : jw_E 3 uX1_begin hi 112 [some (.ref x0), some (.int x1), none, none] [] h (.inl none) h' := by
  unfold g_X1_begin_b112 at hq
  refine jw_null dX1_begin_112 ?_
  refine jw_goto (tgt := 127) dX1_begin_113 (by decide) ?_
  exact l_X1_begin_b127 hk79 hq

set_option maxRecDepth 100000 in
set_option maxHeartbeats 4000000 in
theorem l_X1_begin_b79g {hi : jw_H} {k79 : jw_H → Nat → Int32 → Option (Unit × jw_H)} (hk79 : ∀ (h : jw_H) (x0 : Nat) (x1 : Int32) (r : Unit) (h' : jw_H), k79 h x0 x1 = some (r, h') → jw_E 3 uX1_begin hi 79 [some (.ref x0), some (.int x1), none, none] [] h (.inl none) h') {h : jw_H} {x0 : Nat} {x1 : Int32} {r : Unit} {h' : jw_H} (hq : g_X1_begin_b79 k79 h x0 x1 = some (r, h')) : jw_E 3 uX1_begin hi 79 [some (.ref x0), some (.int x1), none, none] [] h (.inl none) h' := by
  unfold g_X1_begin_b79 at hq
  refine jw_iload_n dX1_begin_79 rfl ?_
  refine jw_aload_n dX1_begin_80 (o := (some x0)) rfl ?_
  obtain ⟨v1, ev1, hq⟩ := Option.bind_eq_some_iff.mp hq
  refine jw_getR (o := (some x0)) dX1_begin_81 ev1 fl_X1_9 rfl ?_
  obtain ⟨v2, ev2, hq⟩ := Option.bind_eq_some_iff.mp hq
  refine jw_getI (o := v1) dX1_begin_84 ev2 fl_X1_72 rfl ?_
  rcases jw_if hq with ⟨c3, hq⟩ | ⟨c3, hq⟩
  · refine jw_icmp_ge_t (tgt := 143) dX1_begin_87 (by decide) c3 ?_
    cases hq
    exact jw_vret dX1_begin_143 rfl
  · refine jw_icmp_ge_f (tgt := 143) dX1_begin_87 (by decide) c3 ?_
    refine jw_aload_n dX1_begin_90 (o := (some x0)) rfl ?_
    obtain ⟨v4, ev4, hq⟩ := Option.bind_eq_some_iff.mp hq
    refine jw_getR (o := (some x0)) dX1_begin_91 ev4 fl_X1_9 rfl ?_
    refine jw_iload_n dX1_begin_94 rfl ?_
    obtain ⟨a5, ea5, hq⟩ := Option.bind_eq_some_iff.mp hq
    obtain ⟨eoa5, eta5⟩ := jw_rc_spec ea5
    obtain ⟨w7, h6, ew7, hq⟩ := jw_b2_spec hq
    refine jw_callV (As := [.int x1]) (S := []) (a := a5) (v := some (va_rf w7)) dX1_begin_95 mt_X6_orderAt in_X6_orderAt se_X6_orderAt lk_X1_121 (c_X6_orderAt ew7) eta5 (by decide) rfl rfl (by decide) (Nat.le_of_ble_eq_true rfl) (by cases eoa5; rfl) ?_
    refine jw_astore_n (o := w7) (L' := [some (.ref x0), some (.int x1), some (va_rf w7), none]) dX1_begin_98 (Nat.le_of_ble_eq_true rfl) rfl ?_
    refine jw_aload_n dX1_begin_99 (o := w7) rfl ?_
    rcases jw_if hq with ⟨c8, hq⟩ | ⟨c8, hq⟩
    · refine jw_ifnull_t (o := w7) (tgt := 112) dX1_begin_100 (by decide) c8 ?_
      refine jw_forget [true, true, false, true] (L' := [some (.ref x0), some (.int x1), none, none]) rfl ?_
      exact l_X1_begin_b112 hk79 hq
    · refine jw_ifnull_f (o := w7) dX1_begin_100 c8 ?_
      refine jw_aload_n dX1_begin_103 (o := w7) rfl ?_
      obtain ⟨v9, ev9, hq⟩ := Option.bind_eq_some_iff.mp hq
      refine jw_getI (o := w7) dX1_begin_104 ev9 fl_X1_125 rfl ?_
      refine jw_bipush dX1_begin_107 (v := (119 : Int32)) (by decide) ?_
      rcases jw_if hq with ⟨c10, hq⟩ | ⟨c10, hq⟩
      · refine jw_icmp_eq_t (tgt := 116) dX1_begin_109 (by decide) c10 ?_
        refine jw_aload_n dX1_begin_116 (o := (some x0)) rfl ?_
        obtain ⟨v11, ev11, hq⟩ := Option.bind_eq_some_iff.mp hq
        refine jw_getR (o := (some x0)) dX1_begin_117 ev11 fl_X1_19 rfl ?_
        refine jw_aload_n dX1_begin_120 (o := w7) rfl ?_
        obtain ⟨v12, ev12, hq⟩ := Option.bind_eq_some_iff.mp hq
        refine jw_getI (o := w7) dX1_begin_121 ev12 fl_X1_130 rfl ?_
        obtain ⟨a13, ea13, hq⟩ := Option.bind_eq_some_iff.mp hq
        obtain ⟨eoa13, eta13⟩ := jw_rc_spec ea13
        obtain ⟨w15, h14, ew15, hq⟩ := jw_b2_spec hq
        refine jw_callV (As := [.int v12]) (S := []) (a := a13) (v := some (va_rf w15)) dX1_begin_124 mt_X8_file in_X8_file se_X8_file lk_X1_133 (c_X8_file ew15) eta13 (by decide) rfl rfl (by decide) (Nat.le_of_ble_eq_true rfl) (by cases eoa13; rfl) ?_
        refine jw_forget [true, true, false, true] (L' := [some (.ref x0), some (.int x1), none, none]) rfl ?_
        exact l_X1_begin_b127 hk79 hq
      · refine jw_icmp_eq_f (tgt := 116) dX1_begin_109 (by decide) c10 ?_
        refine jw_forget [true, true, false, true] (L' := [some (.ref x0), some (.int x1), none, none]) rfl ?_
        exact l_X1_begin_b112 hk79 hq

theorem l_X1_begin_b79 {hi : jw_H} : ∀ (n : Nat) (h : jw_H) (x0 : Nat) (x1 : Int32) (r : Unit) (h' : jw_H), f_X1_begin_b79  n h x0 x1 = some (r, h') → jw_E 3 uX1_begin hi 79 [some (.ref x0), some (.int x1), none, none] [] h (.inl none) h' := by
  intro n
  induction n with
  | zero => intro h x0 x1 r h' hq; exact nomatch hq
  | succ n ih => intro h x0 x1 r h' hq; exact l_X1_begin_b79g ih hq

set_option maxRecDepth 100000 in
set_option maxHeartbeats 4000000 in
theorem l_X1_begin {hi : jw_H} {h : jw_H} {x0 : Nat} {r : Unit} {h' : jw_H} (hq : f_X1_begin  h x0 = some (r, h')) : jw_E 3 uX1_begin hi 0 [some (.ref x0), none, none, none] [] h (.inl none) h' := by
  unfold f_X1_begin at hq
  refine jw_aload_n dX1_begin_0 (o := (some x0)) rfl ?_
  obtain ⟨v1, ev1, hq⟩ := Option.bind_eq_some_iff.mp hq
  refine jw_getR (o := (some x0)) dX1_begin_1 ev1 fl_X1_23 rfl ?_
  refine jw_aload_n dX1_begin_4 (o := (some x0)) rfl ?_
  obtain ⟨v2, ev2, hq⟩ := Option.bind_eq_some_iff.mp hq
  refine jw_getR (o := (some x0)) dX1_begin_5 ev2 fl_X1_19 rfl ?_
  obtain ⟨a3, ea3, hq⟩ := Option.bind_eq_some_iff.mp hq
  obtain ⟨eoa3, eta3⟩ := jw_rc_spec ea3
  obtain ⟨w5, h4, ew5, hq⟩ := jw_b2_spec hq
  refine jw_callV (As := [va_rf v2]) (S := []) (a := a3) (v := none) dX1_begin_8 mt_X8_copy in_X8_copy se_X8_copy lk_X1_90 (c_X8_copy ew5) eta3 (by decide) rfl rfl (by decide) (Nat.le_of_ble_eq_true rfl) (by cases eoa3; rfl) ?_
  refine jw_aload_n dX1_begin_11 (o := (some x0)) rfl ?_
  obtain ⟨v6, ev6, hq⟩ := Option.bind_eq_some_iff.mp hq
  refine jw_getR (o := (some x0)) dX1_begin_12 ev6 fl_X1_37 rfl ?_
  refine jw_aload_n dX1_begin_15 (o := (some x0)) rfl ?_
  obtain ⟨v7, ev7, hq⟩ := Option.bind_eq_some_iff.mp hq
  refine jw_getR (o := (some x0)) dX1_begin_16 ev7 fl_X1_15 rfl ?_
  obtain ⟨a8, ea8, hq⟩ := Option.bind_eq_some_iff.mp hq
  obtain ⟨eoa8, eta8⟩ := jw_rc_spec ea8
  obtain ⟨w10, h9, ew10, hq⟩ := jw_b2_spec hq
  refine jw_callV (As := [va_rf v7]) (S := []) (a := a8) (v := none) dX1_begin_19 mt_X9_copy in_X9_copy se_X9_copy lk_X1_103 (c_X9_copy ew10) eta8 (by decide) rfl rfl (by decide) (Nat.le_of_ble_eq_true rfl) (by cases eoa8; rfl) ?_
  refine jw_aload_n dX1_begin_22 (o := (some x0)) rfl ?_
  obtain ⟨v11, ev11, hq⟩ := Option.bind_eq_some_iff.mp hq
  refine jw_getR (o := (some x0)) dX1_begin_23 ev11 fl_X1_37 rfl ?_
  obtain ⟨v12, ev12, hq⟩ := Option.bind_eq_some_iff.mp hq
  refine jw_getR (o := v11) dX1_begin_26 ev12 fl_X1_96 rfl ?_
  refine jw_iconst dX1_begin_29 (v := (0 : Int32)) (by decide) ?_
  obtain ⟨a13, ea13, hq⟩ := Option.bind_eq_some_iff.mp hq
  obtain ⟨eoa13, eta13⟩ := jw_rc_spec ea13
  obtain ⟨w15, h14, ew15, hq⟩ := jw_b2_spec hq
  refine jw_callV (As := [.int (0 : Int32)]) (S := []) (a := a13) (v := none) dX1_begin_30 mt_X7_shrink in_X7_shrink se_X7_shrink lk_X1_112 (c_X7_shrink ew15) eta13 (by decide) rfl rfl (by decide) (Nat.le_of_ble_eq_true rfl) (by cases eoa13; rfl) ?_
  refine jw_aload_n dX1_begin_33 (o := (some x0)) rfl ?_
  obtain ⟨v16, ev16, hq⟩ := Option.bind_eq_some_iff.mp hq
  refine jw_getR (o := (some x0)) dX1_begin_34 ev16 fl_X1_37 rfl ?_
  refine jw_aload_n dX1_begin_37 (o := (some x0)) rfl ?_
  obtain ⟨v17, ev17, hq⟩ := Option.bind_eq_some_iff.mp hq
  refine jw_getR (o := (some x0)) dX1_begin_38 ev17 fl_X1_15 rfl ?_
  obtain ⟨v18, ev18, hq⟩ := Option.bind_eq_some_iff.mp hq
  refine jw_getI (o := v17) dX1_begin_41 ev18 fl_X1_106 rfl ?_
  obtain ⟨h19, eh19, hq⟩ := Option.bind_eq_some_iff.mp hq
  refine jw_putI (o := v16) dX1_begin_44 eh19 fl_X1_106 rfl rfl ?_
  refine jw_aload_n dX1_begin_47 (o := (some x0)) rfl ?_
  refine jw_iconst dX1_begin_48 (v := (0 : Int32)) (by decide) ?_
  obtain ⟨h20, eh20, hq⟩ := Option.bind_eq_some_iff.mp hq
  refine jw_putI (o := (some x0)) dX1_begin_49 eh20 fl_X1_115 rfl rfl ?_
  refine jw_aload_n dX1_begin_52 (o := (some x0)) rfl ?_
  refine jw_iconst dX1_begin_53 (v := (0 : Int32)) (by decide) ?_
  obtain ⟨h21, eh21, hq⟩ := Option.bind_eq_some_iff.mp hq
  refine jw_putI (o := (some x0)) dX1_begin_54 eh21 fl_X1_118 rfl rfl ?_
  refine jw_aload_n dX1_begin_57 (o := (some x0)) rfl ?_
  refine jw_iconst dX1_begin_58 (v := (0 : Int32)) (by decide) ?_
  obtain ⟨h22, eh22, hq⟩ := Option.bind_eq_some_iff.mp hq
  refine jw_putI (o := (some x0)) dX1_begin_59 eh22 fl_X1_109 rfl rfl ?_
  refine jw_aload_n dX1_begin_62 (o := (some x0)) rfl ?_
  refine jw_iconst dX1_begin_63 (v := (0 : Int32)) (by decide) ?_
  obtain ⟨h23, eh23, hq⟩ := Option.bind_eq_some_iff.mp hq
  refine jw_putI (o := (some x0)) dX1_begin_64 eh23 fl_X1_65 rfl rfl ?_
  refine jw_aload_n dX1_begin_67 (o := (some x0)) rfl ?_
  refine jw_iconst dX1_begin_68 (v := (0 : Int32)) (by decide) ?_
  obtain ⟨h24, eh24, hq⟩ := Option.bind_eq_some_iff.mp hq
  refine jw_putB (o := (some x0)) dX1_begin_69 eh24 fl_X1_69 rfl rfl ?_
  refine jw_aload_n dX1_begin_72 (o := (some x0)) rfl ?_
  refine jw_iconst dX1_begin_73 (v := (0 : Int32)) (by decide) ?_
  obtain ⟨h25, eh25, hq⟩ := Option.bind_eq_some_iff.mp hq
  refine jw_putB (o := (some x0)) dX1_begin_74 eh25 fl_X1_84 rfl rfl ?_
  refine jw_iconst dX1_begin_77 (v := (0 : Int32)) (by decide) ?_
  refine jw_istore_n (L' := [some (.ref x0), some (.int (0 : Int32)), none, none]) dX1_begin_78 (Nat.le_of_ble_eq_true rfl) rfl ?_
  exact l_X1_begin_b79  jw_FU _ _ _ _ _ hq

theorem c_X1_begin {h : jw_H} {x0 : Nat} {r : Unit} {h' : jw_H} (hq : f_X1_begin h x0 = some (r, h')) : jw_Con (Cond.code yX1_begin cX1_begin 4 none) yX1_begin 3 [.ref x0] h (.inl none) h' :=
  jw_con false (plainFor_of_name (by decide +kernel)) (fun z => nomatch z) (by simp [jw_ent, jw_sl0_nil, jw_sl0_int, jw_sl0_long, jw_sl0_ref, jw_sl0_rf, jw_sl0_scr, List.replicate]) (by simp [jw_sl0_nil, jw_sl0_int, jw_sl0_long, jw_sl0_ref, jw_sl0_rf, jw_sl0_scr]) (l_X1_begin hq)


/-! X9_idOf -/
noncomputable def g_X9_idOf_b37 (h : jw_H) (t0 : Int32) : Option (Int32 × jw_H) :=
 some (t0, h)

noncomputable def g_X9_idOf_b36 (h : jw_H)  : Option (Int32 × jw_H) :=
 g_X9_idOf_b37  h (-1 : Int32)

noncomputable def f_X9_idOf (h : jw_H) (x0 : Nat) (x1 : Int32) : Option (Int32 × jw_H) :=
 if x1 < (1 : Int32) then (g_X9_idOf_b36  h )
 else ((jw_gR h 9 (some x0) 0).bind fun v2 =>
 (jw_gI h 7 v2 2).bind fun v3 =>
 if v3 < x1 then (g_X9_idOf_b36  h )
 else ((jw_gR h 9 (some x0) 1).bind fun v5 =>
 (jw_ln h v5).bind fun v6 =>
 if v6 < x1 then (g_X9_idOf_b36  h )
 else ((jw_gR h 9 (some x0) 1).bind fun v8 =>
 (jw_ai h 20 v8 (x1 - (1 : Int32))).bind fun v9 =>
 g_X9_idOf_b37  h v9)))

set_option maxRecDepth 100000 in
set_option maxHeartbeats 4000000 in
theorem l_X9_idOf_b37 {hi : jw_H} {h : jw_H} {t0 : Int32} {r : Int32} {h' : jw_H} (hq : g_X9_idOf_b37  h t0 = some (r, h')) : jw_E 0 uX9_idOf hi 37 [none, none] [.int t0] h (.inl (some (.int r))) h' := by
  unfold g_X9_idOf_b37 at hq
  cases hq
  exact jw_iret (ty := .int) dX9_idOf_37 rfl rfl

set_option maxRecDepth 100000 in
set_option maxHeartbeats 4000000 in
theorem l_X9_idOf_b36 {hi : jw_H} {h : jw_H}  {r : Int32} {h' : jw_H} (hq : g_X9_idOf_b36  h  = some (r, h')) : jw_E 0 uX9_idOf hi 36 [none, none] [] h (.inl (some (.int r))) h' := by
  unfold g_X9_idOf_b36 at hq
  refine jw_iconst dX9_idOf_36 (v := (-1 : Int32)) (by decide) ?_
  exact l_X9_idOf_b37  hq

set_option maxRecDepth 100000 in
set_option maxHeartbeats 4000000 in
theorem l_X9_idOf {hi : jw_H} {h : jw_H} {x0 : Nat} {x1 : Int32} {r : Int32} {h' : jw_H} (hq : f_X9_idOf  h x0 x1 = some (r, h')) : jw_E 0 uX9_idOf hi 0 [some (.ref x0), some (.int x1)] [] h (.inl (some (.int r))) h' := by
  unfold f_X9_idOf at hq
  refine jw_iload_n dX9_idOf_0 rfl ?_
  refine jw_iconst dX9_idOf_1 (v := (1 : Int32)) (by decide) ?_
  rcases jw_if hq with ⟨c1, hq⟩ | ⟨c1, hq⟩
  · refine jw_icmp_lt_t (tgt := 36) dX9_idOf_2 (by decide) c1 ?_
    refine jw_forget [false, false] (L' := [none, none]) rfl ?_
    exact l_X9_idOf_b36  hq
  · refine jw_icmp_lt_f (tgt := 36) dX9_idOf_2 (by decide) c1 ?_
    refine jw_iload_n dX9_idOf_5 rfl ?_
    refine jw_aload_n dX9_idOf_6 (o := (some x0)) rfl ?_
    obtain ⟨v2, ev2, hq⟩ := Option.bind_eq_some_iff.mp hq
    refine jw_getR (o := (some x0)) dX9_idOf_7 ev2 fl_X9_14 rfl ?_
    obtain ⟨v3, ev3, hq⟩ := Option.bind_eq_some_iff.mp hq
    refine jw_getI (o := v2) dX9_idOf_10 ev3 fl_X9_41 rfl ?_
    rcases jw_if hq with ⟨c4, hq⟩ | ⟨c4, hq⟩
    · refine jw_icmp_gt_t (tgt := 36) dX9_idOf_13 (by decide) c4 ?_
      refine jw_forget [false, false] (L' := [none, none]) rfl ?_
      exact l_X9_idOf_b36  hq
    · refine jw_icmp_gt_f (tgt := 36) dX9_idOf_13 (by decide) c4 ?_
      refine jw_iload_n dX9_idOf_16 rfl ?_
      refine jw_aload_n dX9_idOf_17 (o := (some x0)) rfl ?_
      obtain ⟨v5, ev5, hq⟩ := Option.bind_eq_some_iff.mp hq
      refine jw_getR (o := (some x0)) dX9_idOf_18 ev5 fl_X9_20 rfl ?_
      obtain ⟨v6, ev6, hq⟩ := Option.bind_eq_some_iff.mp hq
      refine jw_alen (o := v5) dX9_idOf_21 ev6 ?_
      rcases jw_if hq with ⟨c7, hq⟩ | ⟨c7, hq⟩
      · refine jw_icmp_gt_t (tgt := 36) dX9_idOf_22 (by decide) c7 ?_
        refine jw_forget [false, false] (L' := [none, none]) rfl ?_
        exact l_X9_idOf_b36  hq
      · refine jw_icmp_gt_f (tgt := 36) dX9_idOf_22 (by decide) c7 ?_
        refine jw_aload_n dX9_idOf_25 (o := (some x0)) rfl ?_
        obtain ⟨v8, ev8, hq⟩ := Option.bind_eq_some_iff.mp hq
        refine jw_getR (o := (some x0)) dX9_idOf_26 ev8 fl_X9_20 rfl ?_
        refine jw_iload_n dX9_idOf_29 rfl ?_
        refine jw_iconst dX9_idOf_30 (v := (1 : Int32)) (by decide) ?_
        refine jw_isub dX9_idOf_31 ?_
        obtain ⟨v9, ev9, hq⟩ := Option.bind_eq_some_iff.mp hq
        refine jw_iald (o := v8) dX9_idOf_32 ev9 ?_
        refine jw_goto (tgt := 37) dX9_idOf_33 (by decide) ?_
        refine jw_forget [false, false] (L' := [none, none]) rfl ?_
        exact l_X9_idOf_b37  hq

theorem c_X9_idOf {h : jw_H} {x0 : Nat} {x1 : Int32} {r : Int32} {h' : jw_H} (hq : f_X9_idOf h x0 x1 = some (r, h')) : jw_Con (Cond.code yX9_idOf cX9_idOf 2 (some .int)) yX9_idOf 0 [.ref x0, .int x1] h (.inl (some (.int r))) h' :=
  jw_con false (plainFor_of_name (by decide +kernel)) (fun z => nomatch z) (by simp [jw_ent, jw_sl0_nil, jw_sl0_int, jw_sl0_long, jw_sl0_ref, jw_sl0_rf, jw_sl0_scr, List.replicate]) (by simp [jw_sl0_nil, jw_sl0_int, jw_sl0_long, jw_sl0_ref, jw_sl0_rf, jw_sl0_scr]) (l_X9_idOf hq)


/-! X7_has -/
noncomputable def g_X7_has_b27 (h : jw_H) (t0 : Int32) : Option (Int32 × jw_H) :=
 (jw_rb t0).bind fun v1 =>
 some (t0, h)

noncomputable def g_X7_has_b26 (h : jw_H)  : Option (Int32 × jw_H) :=
 g_X7_has_b27  h (0 : Int32)

noncomputable def f_X7_has (h : jw_H) (x0 : Nat) (x1 : Int32) : Option (Int32 × jw_H) :=
 if x1 < (1 : Int32) then (g_X7_has_b26  h )
 else ((jw_gI h 7 (some x0) 2).bind fun v2 =>
 if v2 < x1 then (g_X7_has_b26  h )
 else ((jw_gR h 7 (some x0) 0).bind fun v4 =>
 (jw_ln h v4).bind fun v5 =>
 if v5 < x1 then (g_X7_has_b26  h )
 else (g_X7_has_b27  h (1 : Int32))))

set_option maxRecDepth 100000 in
set_option maxHeartbeats 4000000 in
theorem l_X7_has_b27 {hi : jw_H} {h : jw_H} {t0 : Int32} {r : Int32} {h' : jw_H} (hq : g_X7_has_b27  h t0 = some (r, h')) : jw_E 0 uX7_has hi 27 [none, none] [.int t0] h (.inl (some (.int r))) h' := by
  unfold g_X7_has_b27 at hq
  obtain ⟨v1, ev1, hq⟩ := Option.bind_eq_some_iff.mp hq
  cases hq
  exact jw_iret (ty := .boolean) dX7_has_27 rfl (jw_rb_spec ev1)

set_option maxRecDepth 100000 in
set_option maxHeartbeats 4000000 in
theorem l_X7_has_b26 {hi : jw_H} {h : jw_H}  {r : Int32} {h' : jw_H} (hq : g_X7_has_b26  h  = some (r, h')) : jw_E 0 uX7_has hi 26 [none, none] [] h (.inl (some (.int r))) h' := by
  unfold g_X7_has_b26 at hq
  refine jw_iconst dX7_has_26 (v := (0 : Int32)) (by decide) ?_
  exact l_X7_has_b27  hq

set_option maxRecDepth 100000 in
set_option maxHeartbeats 4000000 in
theorem l_X7_has {hi : jw_H} {h : jw_H} {x0 : Nat} {x1 : Int32} {r : Int32} {h' : jw_H} (hq : f_X7_has  h x0 x1 = some (r, h')) : jw_E 0 uX7_has hi 0 [some (.ref x0), some (.int x1)] [] h (.inl (some (.int r))) h' := by
  unfold f_X7_has at hq
  refine jw_iload_n dX7_has_0 rfl ?_
  refine jw_iconst dX7_has_1 (v := (1 : Int32)) (by decide) ?_
  rcases jw_if hq with ⟨c1, hq⟩ | ⟨c1, hq⟩
  · refine jw_icmp_lt_t (tgt := 26) dX7_has_2 (by decide) c1 ?_
    refine jw_forget [false, false] (L' := [none, none]) rfl ?_
    exact l_X7_has_b26  hq
  · refine jw_icmp_lt_f (tgt := 26) dX7_has_2 (by decide) c1 ?_
    refine jw_iload_n dX7_has_5 rfl ?_
    refine jw_aload_n dX7_has_6 (o := (some x0)) rfl ?_
    obtain ⟨v2, ev2, hq⟩ := Option.bind_eq_some_iff.mp hq
    refine jw_getI (o := (some x0)) dX7_has_7 ev2 fl_X7_25 rfl ?_
    rcases jw_if hq with ⟨c3, hq⟩ | ⟨c3, hq⟩
    · refine jw_icmp_gt_t (tgt := 26) dX7_has_10 (by decide) c3 ?_
      refine jw_forget [false, false] (L' := [none, none]) rfl ?_
      exact l_X7_has_b26  hq
    · refine jw_icmp_gt_f (tgt := 26) dX7_has_10 (by decide) c3 ?_
      refine jw_iload_n dX7_has_13 rfl ?_
      refine jw_aload_n dX7_has_14 (o := (some x0)) rfl ?_
      obtain ⟨v4, ev4, hq⟩ := Option.bind_eq_some_iff.mp hq
      refine jw_getR (o := (some x0)) dX7_has_15 ev4 fl_X7_15 rfl ?_
      obtain ⟨v5, ev5, hq⟩ := Option.bind_eq_some_iff.mp hq
      refine jw_alen (o := v4) dX7_has_18 ev5 ?_
      rcases jw_if hq with ⟨c6, hq⟩ | ⟨c6, hq⟩
      · refine jw_icmp_gt_t (tgt := 26) dX7_has_19 (by decide) c6 ?_
        refine jw_forget [false, false] (L' := [none, none]) rfl ?_
        exact l_X7_has_b26  hq
      · refine jw_icmp_gt_f (tgt := 26) dX7_has_19 (by decide) c6 ?_
        refine jw_iconst dX7_has_22 (v := (1 : Int32)) (by decide) ?_
        refine jw_goto (tgt := 27) dX7_has_23 (by decide) ?_
        refine jw_forget [false, false] (L' := [none, none]) rfl ?_
        exact l_X7_has_b27  hq

theorem c_X7_has {h : jw_H} {x0 : Nat} {x1 : Int32} {r : Int32} {h' : jw_H} (hq : f_X7_has h x0 x1 = some (r, h')) : jw_Con (Cond.code yX7_has cX7_has 2 (some .boolean)) yX7_has 0 [.ref x0, .int x1] h (.inl (some (.int r))) h' :=
  jw_con false (plainFor_of_name (by decide +kernel)) (fun z => nomatch z) (by simp [jw_ent, jw_sl0_nil, jw_sl0_int, jw_sl0_long, jw_sl0_ref, jw_sl0_rf, jw_sl0_scr, List.replicate]) (by simp [jw_sl0_nil, jw_sl0_int, jw_sl0_long, jw_sl0_ref, jw_sl0_rf, jw_sl0_scr]) (l_X7_has hq)


/-! X7_lengthOf -/
noncomputable def g_X7_lengthOf_b34 (h : jw_H) (t0 : Int32) : Option (Int32 × jw_H) :=
 some (t0, h)

noncomputable def g_X7_lengthOf_b33 (h : jw_H)  : Option (Int32 × jw_H) :=
 g_X7_lengthOf_b34  h (-1 : Int32)

noncomputable def f_X7_lengthOf (h : jw_H) (x0 : Nat) (x1 : Int32) : Option (Int32 × jw_H) :=
 if x1 < (1 : Int32) then (g_X7_lengthOf_b33  h )
 else ((jw_gI h 7 (some x0) 2).bind fun v2 =>
 if v2 < x1 then (g_X7_lengthOf_b33  h )
 else ((jw_gR h 7 (some x0) 0).bind fun v4 =>
 (jw_ln h v4).bind fun v5 =>
 if v5 < x1 then (g_X7_lengthOf_b33  h )
 else ((jw_gR h 7 (some x0) 0).bind fun v7 =>
 (jw_ai h 20 v7 (x1 - (1 : Int32))).bind fun v8 =>
 g_X7_lengthOf_b34  h v8)))

set_option maxRecDepth 100000 in
set_option maxHeartbeats 4000000 in
theorem l_X7_lengthOf_b34 {hi : jw_H} {h : jw_H} {t0 : Int32} {r : Int32} {h' : jw_H} (hq : g_X7_lengthOf_b34  h t0 = some (r, h')) : jw_E 0 uX7_lengthOf hi 34 [none, none] [.int t0] h (.inl (some (.int r))) h' := by
  unfold g_X7_lengthOf_b34 at hq
  cases hq
  exact jw_iret (ty := .int) dX7_lengthOf_34 rfl rfl

set_option maxRecDepth 100000 in
set_option maxHeartbeats 4000000 in
theorem l_X7_lengthOf_b33 {hi : jw_H} {h : jw_H}  {r : Int32} {h' : jw_H} (hq : g_X7_lengthOf_b33  h  = some (r, h')) : jw_E 0 uX7_lengthOf hi 33 [none, none] [] h (.inl (some (.int r))) h' := by
  unfold g_X7_lengthOf_b33 at hq
  refine jw_iconst dX7_lengthOf_33 (v := (-1 : Int32)) (by decide) ?_
  exact l_X7_lengthOf_b34  hq

set_option maxRecDepth 100000 in
set_option maxHeartbeats 4000000 in
theorem l_X7_lengthOf {hi : jw_H} {h : jw_H} {x0 : Nat} {x1 : Int32} {r : Int32} {h' : jw_H} (hq : f_X7_lengthOf  h x0 x1 = some (r, h')) : jw_E 0 uX7_lengthOf hi 0 [some (.ref x0), some (.int x1)] [] h (.inl (some (.int r))) h' := by
  unfold f_X7_lengthOf at hq
  refine jw_iload_n dX7_lengthOf_0 rfl ?_
  refine jw_iconst dX7_lengthOf_1 (v := (1 : Int32)) (by decide) ?_
  rcases jw_if hq with ⟨c1, hq⟩ | ⟨c1, hq⟩
  · refine jw_icmp_lt_t (tgt := 33) dX7_lengthOf_2 (by decide) c1 ?_
    refine jw_forget [false, false] (L' := [none, none]) rfl ?_
    exact l_X7_lengthOf_b33  hq
  · refine jw_icmp_lt_f (tgt := 33) dX7_lengthOf_2 (by decide) c1 ?_
    refine jw_iload_n dX7_lengthOf_5 rfl ?_
    refine jw_aload_n dX7_lengthOf_6 (o := (some x0)) rfl ?_
    obtain ⟨v2, ev2, hq⟩ := Option.bind_eq_some_iff.mp hq
    refine jw_getI (o := (some x0)) dX7_lengthOf_7 ev2 fl_X7_25 rfl ?_
    rcases jw_if hq with ⟨c3, hq⟩ | ⟨c3, hq⟩
    · refine jw_icmp_gt_t (tgt := 33) dX7_lengthOf_10 (by decide) c3 ?_
      refine jw_forget [false, false] (L' := [none, none]) rfl ?_
      exact l_X7_lengthOf_b33  hq
    · refine jw_icmp_gt_f (tgt := 33) dX7_lengthOf_10 (by decide) c3 ?_
      refine jw_iload_n dX7_lengthOf_13 rfl ?_
      refine jw_aload_n dX7_lengthOf_14 (o := (some x0)) rfl ?_
      obtain ⟨v4, ev4, hq⟩ := Option.bind_eq_some_iff.mp hq
      refine jw_getR (o := (some x0)) dX7_lengthOf_15 ev4 fl_X7_15 rfl ?_
      obtain ⟨v5, ev5, hq⟩ := Option.bind_eq_some_iff.mp hq
      refine jw_alen (o := v4) dX7_lengthOf_18 ev5 ?_
      rcases jw_if hq with ⟨c6, hq⟩ | ⟨c6, hq⟩
      · refine jw_icmp_gt_t (tgt := 33) dX7_lengthOf_19 (by decide) c6 ?_
        refine jw_forget [false, false] (L' := [none, none]) rfl ?_
        exact l_X7_lengthOf_b33  hq
      · refine jw_icmp_gt_f (tgt := 33) dX7_lengthOf_19 (by decide) c6 ?_
        refine jw_aload_n dX7_lengthOf_22 (o := (some x0)) rfl ?_
        obtain ⟨v7, ev7, hq⟩ := Option.bind_eq_some_iff.mp hq
        refine jw_getR (o := (some x0)) dX7_lengthOf_23 ev7 fl_X7_15 rfl ?_
        refine jw_iload_n dX7_lengthOf_26 rfl ?_
        refine jw_iconst dX7_lengthOf_27 (v := (1 : Int32)) (by decide) ?_
        refine jw_isub dX7_lengthOf_28 ?_
        obtain ⟨v8, ev8, hq⟩ := Option.bind_eq_some_iff.mp hq
        refine jw_iald (o := v7) dX7_lengthOf_29 ev8 ?_
        refine jw_goto (tgt := 34) dX7_lengthOf_30 (by decide) ?_
        refine jw_forget [false, false] (L' := [none, none]) rfl ?_
        exact l_X7_lengthOf_b34  hq

theorem c_X7_lengthOf {h : jw_H} {x0 : Nat} {x1 : Int32} {r : Int32} {h' : jw_H} (hq : f_X7_lengthOf h x0 x1 = some (r, h')) : jw_Con (Cond.code yX7_lengthOf cX7_lengthOf 2 (some .int)) yX7_lengthOf 0 [.ref x0, .int x1] h (.inl (some (.int r))) h' :=
  jw_con false (plainFor_of_name (by decide +kernel)) (fun z => nomatch z) (by simp [jw_ent, jw_sl0_nil, jw_sl0_int, jw_sl0_long, jw_sl0_ref, jw_sl0_rf, jw_sl0_scr, List.replicate]) (by simp [jw_sl0_nil, jw_sl0_int, jw_sl0_long, jw_sl0_ref, jw_sl0_rf, jw_sl0_scr]) (l_X7_lengthOf hq)


/-! X7_add -/
noncomputable def f_X7_add (h : jw_H) (x0 : Nat) (x1 : Option Nat) (x2 : Int32) (x3 : Int32) : Option (Int32 × jw_H) :=
 (jw_gI h 7 (some x0) 2).bind fun v1 =>
 if v1 < 0 then (some ((0 : Int32), h))
 else ((jw_gI h 7 (some x0) 2).bind fun v3 =>
 (jw_gR h 7 (some x0) 0).bind fun v4 =>
 (jw_ln h v4).bind fun v5 =>
 if v3 < v5 then (if x3 < 0 then (some ((0 : Int32), h))
 else (if (30 : Int32) < x3 then (some ((0 : Int32), h))
 else (if x2 < 0 then (some ((0 : Int32), h))
 else ((jw_ln h x1).bind fun v10 =>
 if x2 ≤ (v10 - x3) then ((jw_gR h 7 (some x0) 1).bind fun v12 =>
 (jw_gI h 7 (some x0) 2).bind fun v13 =>
 (jw_cp h 21 x1 x2 v12 (v13 * (30 : Int32)) x3).bind fun h14 =>
 (jw_gR h14 7 (some x0) 0).bind fun v15 =>
 (jw_gI h14 7 (some x0) 2).bind fun v16 =>
 (jw_si h14 20 v15 v16 x3).bind fun h17 =>
 (jw_gI h17 7 (some x0) 2).bind fun v18 =>
 (jw_pI h17 7 (some x0) 2 (v18 + (1 : Int32))).bind fun h19 =>
 some ((1 : Int32), h19))
 else (some ((0 : Int32), h))))))
 else (some ((0 : Int32), h)))

set_option maxRecDepth 100000 in
set_option maxHeartbeats 4000000 in
theorem l_X7_add {hi : jw_H} {h : jw_H} {x0 : Nat} {x1 : Option Nat} {x2 : Int32} {x3 : Int32} {r : Int32} {h' : jw_H} (hq : f_X7_add  h x0 x1 x2 x3 = some (r, h')) : jw_E 1 uX7_add hi 0 [some (.ref x0), some (va_rf x1), some (.int x2), some (.int x3)] [] h (.inl (some (.int r))) h' := by
  unfold f_X7_add at hq
  refine jw_aload_n dX7_add_0 (o := (some x0)) rfl ?_
  obtain ⟨v1, ev1, hq⟩ := Option.bind_eq_some_iff.mp hq
  refine jw_getI (o := (some x0)) dX7_add_1 ev1 fl_X7_25 rfl ?_
  rcases jw_if hq with ⟨c2, hq⟩ | ⟨c2, hq⟩
  · refine jw_if_lt_t (tgt := 19) dX7_add_4 (by decide) c2 ?_
    refine jw_iconst dX7_add_19 (v := (0 : Int32)) (by decide) ?_
    cases hq
    exact jw_iret (ty := .boolean) dX7_add_20 rfl rfl
  · refine jw_if_lt_f (tgt := 19) dX7_add_4 (by decide) c2 ?_
    refine jw_aload_n dX7_add_7 (o := (some x0)) rfl ?_
    obtain ⟨v3, ev3, hq⟩ := Option.bind_eq_some_iff.mp hq
    refine jw_getI (o := (some x0)) dX7_add_8 ev3 fl_X7_25 rfl ?_
    refine jw_aload_n dX7_add_11 (o := (some x0)) rfl ?_
    obtain ⟨v4, ev4, hq⟩ := Option.bind_eq_some_iff.mp hq
    refine jw_getR (o := (some x0)) dX7_add_12 ev4 fl_X7_15 rfl ?_
    obtain ⟨v5, ev5, hq⟩ := Option.bind_eq_some_iff.mp hq
    refine jw_alen (o := v4) dX7_add_15 ev5 ?_
    rcases jw_if hq with ⟨c6, hq⟩ | ⟨c6, hq⟩
    · refine jw_icmp_lt_t (tgt := 21) dX7_add_16 (by decide) c6 ?_
      refine jw_iload_n dX7_add_21 rfl ?_
      rcases jw_if hq with ⟨c7, hq⟩ | ⟨c7, hq⟩
      · refine jw_if_lt_t (tgt := 43) dX7_add_22 (by decide) c7 ?_
        refine jw_iconst dX7_add_43 (v := (0 : Int32)) (by decide) ?_
        cases hq
        exact jw_iret (ty := .boolean) dX7_add_44 rfl rfl
      · refine jw_if_lt_f (tgt := 43) dX7_add_22 (by decide) c7 ?_
        refine jw_iload_n dX7_add_25 rfl ?_
        refine jw_bipush dX7_add_26 (v := (30 : Int32)) (by decide) ?_
        rcases jw_if hq with ⟨c8, hq⟩ | ⟨c8, hq⟩
        · refine jw_icmp_gt_t (tgt := 43) dX7_add_28 (by decide) c8 ?_
          refine jw_iconst dX7_add_43 (v := (0 : Int32)) (by decide) ?_
          cases hq
          exact jw_iret (ty := .boolean) dX7_add_44 rfl rfl
        · refine jw_icmp_gt_f (tgt := 43) dX7_add_28 (by decide) c8 ?_
          refine jw_iload_n dX7_add_31 rfl ?_
          rcases jw_if hq with ⟨c9, hq⟩ | ⟨c9, hq⟩
          · refine jw_if_lt_t (tgt := 43) dX7_add_32 (by decide) c9 ?_
            refine jw_iconst dX7_add_43 (v := (0 : Int32)) (by decide) ?_
            cases hq
            exact jw_iret (ty := .boolean) dX7_add_44 rfl rfl
          · refine jw_if_lt_f (tgt := 43) dX7_add_32 (by decide) c9 ?_
            refine jw_iload_n dX7_add_35 rfl ?_
            refine jw_aload_n dX7_add_36 (o := x1) rfl ?_
            obtain ⟨v10, ev10, hq⟩ := Option.bind_eq_some_iff.mp hq
            refine jw_alen (o := x1) dX7_add_37 ev10 ?_
            refine jw_iload_n dX7_add_38 rfl ?_
            refine jw_isub dX7_add_39 ?_
            rcases jw_if hq with ⟨c11, hq⟩ | ⟨c11, hq⟩
            · refine jw_icmp_le_t (tgt := 45) dX7_add_40 (by decide) c11 ?_
              refine jw_aload_n dX7_add_45 (o := x1) rfl ?_
              refine jw_iload_n dX7_add_46 rfl ?_
              refine jw_aload_n dX7_add_47 (o := (some x0)) rfl ?_
              obtain ⟨v12, ev12, hq⟩ := Option.bind_eq_some_iff.mp hq
              refine jw_getR (o := (some x0)) dX7_add_48 ev12 fl_X7_21 rfl ?_
              refine jw_aload_n dX7_add_51 (o := (some x0)) rfl ?_
              obtain ⟨v13, ev13, hq⟩ := Option.bind_eq_some_iff.mp hq
              refine jw_getI (o := (some x0)) dX7_add_52 ev13 fl_X7_25 rfl ?_
              refine jw_bipush dX7_add_55 (v := (30 : Int32)) (by decide) ?_
              refine jw_imul dX7_add_57 ?_
              refine jw_iload_n dX7_add_58 rfl ?_
              obtain ⟨h14, eh14, hq⟩ := Option.bind_eq_some_iff.mp hq
              refine jw_acp (o1 := x1) (o2 := v12) (t := 21) dX7_add_59 (by decide) al_X7_32 an_0 as_0 ai_0 (by decide) (Nat.le_of_ble_eq_true rfl) eh14 ?_
              refine jw_aload_n dX7_add_62 (o := (some x0)) rfl ?_
              obtain ⟨v15, ev15, hq⟩ := Option.bind_eq_some_iff.mp hq
              refine jw_getR (o := (some x0)) dX7_add_63 ev15 fl_X7_15 rfl ?_
              refine jw_aload_n dX7_add_66 (o := (some x0)) rfl ?_
              obtain ⟨v16, ev16, hq⟩ := Option.bind_eq_some_iff.mp hq
              refine jw_getI (o := (some x0)) dX7_add_67 ev16 fl_X7_25 rfl ?_
              refine jw_iload_n dX7_add_70 rfl ?_
              obtain ⟨h17, eh17, hq⟩ := Option.bind_eq_some_iff.mp hq
              refine jw_iast (o := v15) dX7_add_71 eh17 ?_
              refine jw_aload_n dX7_add_72 (o := (some x0)) rfl ?_
              refine jw_dup dX7_add_73 rfl ?_
              obtain ⟨v18, ev18, hq⟩ := Option.bind_eq_some_iff.mp hq
              refine jw_getI (o := (some x0)) dX7_add_74 ev18 fl_X7_25 rfl ?_
              refine jw_iconst dX7_add_77 (v := (1 : Int32)) (by decide) ?_
              refine jw_iadd dX7_add_78 ?_
              obtain ⟨h19, eh19, hq⟩ := Option.bind_eq_some_iff.mp hq
              refine jw_putI (o := (some x0)) dX7_add_79 eh19 fl_X7_25 rfl rfl ?_
              refine jw_iconst dX7_add_82 (v := (1 : Int32)) (by decide) ?_
              cases hq
              exact jw_iret (ty := .boolean) dX7_add_83 rfl rfl
            · refine jw_icmp_le_f (tgt := 45) dX7_add_40 (by decide) c11 ?_
              refine jw_iconst dX7_add_43 (v := (0 : Int32)) (by decide) ?_
              cases hq
              exact jw_iret (ty := .boolean) dX7_add_44 rfl rfl
    · refine jw_icmp_lt_f (tgt := 21) dX7_add_16 (by decide) c6 ?_
      refine jw_iconst dX7_add_19 (v := (0 : Int32)) (by decide) ?_
      cases hq
      exact jw_iret (ty := .boolean) dX7_add_20 rfl rfl

theorem c_X7_add {h : jw_H} {x0 : Nat} {x1 : Option Nat} {x2 : Int32} {x3 : Int32} {r : Int32} {h' : jw_H} (hq : f_X7_add h x0 x1 x2 x3 = some (r, h')) : jw_Con (Cond.code yX7_add cX7_add 4 (some .boolean)) yX7_add 1 [.ref x0, va_rf x1, .int x2, .int x3] h (.inl (some (.int r))) h' :=
  jw_con false (plainFor_of_name (by decide +kernel)) (fun z => nomatch z) (by simp [jw_ent, jw_sl0_nil, jw_sl0_int, jw_sl0_long, jw_sl0_ref, jw_sl0_rf, jw_sl0_scr, List.replicate]) (by simp [jw_sl0_nil, jw_sl0_int, jw_sl0_long, jw_sl0_ref, jw_sl0_rf, jw_sl0_scr]) (l_X7_add hq)


/-! X7_addRow -/
noncomputable def g_X7_addRow_b35 (h : jw_H) (t0 : Int32) : Option (Int32 × jw_H) :=
 (jw_rb t0).bind fun v1 =>
 some (t0, h)

noncomputable def g_X7_addRow_b34 (h : jw_H)  : Option (Int32 × jw_H) :=
 g_X7_addRow_b35  h (0 : Int32)

noncomputable def f_X7_addRow (h : jw_H) (x0 : Nat) (x1 : Option Nat) (x2 : Int32) : Option (Int32 × jw_H) :=
 (jw_rc h 7 x1).bind fun a1 =>
 jw_b2 (f_X7_has h a1 x2) fun w3 h2 =>
 if w3 = 0 then (g_X7_addRow_b34  h2 )
 else ((jw_gR h2 7 x1 1).bind fun v5 =>
 (jw_rc h2 7 x1).bind fun a6 =>
 jw_b2 (f_X7_lengthOf h2 a6 x2) fun w8 h7 =>
 (jw_rc h7 7 (some x0)).bind fun a9 =>
 jw_b2 (f_X7_add h7 a9 v5 ((x2 - (1 : Int32)) * (30 : Int32)) w8) fun w11 h10 =>
 if w11 = 0 then (g_X7_addRow_b34  h10 )
 else (g_X7_addRow_b35  h10 (1 : Int32)))

set_option maxRecDepth 100000 in
set_option maxHeartbeats 4000000 in
theorem l_X7_addRow_b35 {hi : jw_H} {h : jw_H} {t0 : Int32} {r : Int32} {h' : jw_H} (hq : g_X7_addRow_b35  h t0 = some (r, h')) : jw_E 2 uX7_addRow hi 35 [none, none, none] [.int t0] h (.inl (some (.int r))) h' := by
  unfold g_X7_addRow_b35 at hq
  obtain ⟨v1, ev1, hq⟩ := Option.bind_eq_some_iff.mp hq
  cases hq
  exact jw_iret (ty := .boolean) dX7_addRow_35 rfl (jw_rb_spec ev1)

set_option maxRecDepth 100000 in
set_option maxHeartbeats 4000000 in
theorem l_X7_addRow_b34 {hi : jw_H} {h : jw_H}  {r : Int32} {h' : jw_H} (hq : g_X7_addRow_b34  h  = some (r, h')) : jw_E 2 uX7_addRow hi 34 [none, none, none] [] h (.inl (some (.int r))) h' := by
  unfold g_X7_addRow_b34 at hq
  refine jw_iconst dX7_addRow_34 (v := (0 : Int32)) (by decide) ?_
  exact l_X7_addRow_b35  hq

set_option maxRecDepth 100000 in
set_option maxHeartbeats 4000000 in
theorem l_X7_addRow {hi : jw_H} {h : jw_H} {x0 : Nat} {x1 : Option Nat} {x2 : Int32} {r : Int32} {h' : jw_H} (hq : f_X7_addRow  h x0 x1 x2 = some (r, h')) : jw_E 2 uX7_addRow hi 0 [some (.ref x0), some (va_rf x1), some (.int x2)] [] h (.inl (some (.int r))) h' := by
  unfold f_X7_addRow at hq
  refine jw_aload_n dX7_addRow_0 (o := x1) rfl ?_
  refine jw_iload_n dX7_addRow_1 rfl ?_
  obtain ⟨a1, ea1, hq⟩ := Option.bind_eq_some_iff.mp hq
  obtain ⟨eoa1, eta1⟩ := jw_rc_spec ea1
  obtain ⟨w3, h2, ew3, hq⟩ := jw_b2_spec hq
  refine jw_callV (As := [.int x2]) (S := []) (a := a1) (v := some (.int w3)) dX7_addRow_2 mt_X7_has in_X7_has se_X7_has lk_X7_38 (c_X7_has ew3) eta1 (by decide) rfl rfl (by decide) (Nat.le_of_ble_eq_true rfl) (by cases eoa1; rfl) ?_
  rcases jw_if hq with ⟨c4, hq⟩ | ⟨c4, hq⟩
  · refine jw_if_eq_t (tgt := 34) dX7_addRow_5 (by decide) c4 ?_
    refine jw_forget [false, false, false] (L' := [none, none, none]) rfl ?_
    exact l_X7_addRow_b34  hq
  · refine jw_if_eq_f (tgt := 34) dX7_addRow_5 (by decide) c4 ?_
    refine jw_aload_n dX7_addRow_8 (o := (some x0)) rfl ?_
    refine jw_aload_n dX7_addRow_9 (o := x1) rfl ?_
    obtain ⟨v5, ev5, hq⟩ := Option.bind_eq_some_iff.mp hq
    refine jw_getR (o := x1) dX7_addRow_10 ev5 fl_X7_21 rfl ?_
    refine jw_iload_n dX7_addRow_13 rfl ?_
    refine jw_iconst dX7_addRow_14 (v := (1 : Int32)) (by decide) ?_
    refine jw_isub dX7_addRow_15 ?_
    refine jw_bipush dX7_addRow_16 (v := (30 : Int32)) (by decide) ?_
    refine jw_imul dX7_addRow_18 ?_
    refine jw_aload_n dX7_addRow_19 (o := x1) rfl ?_
    refine jw_iload_n dX7_addRow_20 rfl ?_
    obtain ⟨a6, ea6, hq⟩ := Option.bind_eq_some_iff.mp hq
    obtain ⟨eoa6, eta6⟩ := jw_rc_spec ea6
    obtain ⟨w8, h7, ew8, hq⟩ := jw_b2_spec hq
    refine jw_callV (As := [.int x2]) (S := [.int ((x2 - (1 : Int32)) * (30 : Int32)), va_rf v5, .ref x0]) (a := a6) (v := some (.int w8)) dX7_addRow_21 mt_X7_lengthOf in_X7_lengthOf se_X7_lengthOf lk_X7_42 (c_X7_lengthOf ew8) eta6 (by decide) rfl rfl (by decide) (by simp only [List.map_cons, List.map_nil, List.sum_cons, List.sum_nil, jw_cat_rf, jw_cat_i, jw_cat_l, jw_cat_a, jw_cat_s] <;> decide) (by cases eoa6; rfl) ?_
    obtain ⟨a9, ea9, hq⟩ := Option.bind_eq_some_iff.mp hq
    obtain ⟨eoa9, eta9⟩ := jw_rc_spec ea9
    obtain ⟨w11, h10, ew11, hq⟩ := jw_b2_spec hq
    refine jw_callV (As := [va_rf v5, .int ((x2 - (1 : Int32)) * (30 : Int32)), .int w8]) (S := []) (a := a9) (v := some (.int w11)) dX7_addRow_24 mt_X7_add in_X7_add se_X7_add lk_X7_46 (c_X7_add ew11) eta9 (by decide) rfl rfl (by decide) (Nat.le_of_ble_eq_true rfl) (by cases eoa9; rfl) ?_
    rcases jw_if hq with ⟨c12, hq⟩ | ⟨c12, hq⟩
    · refine jw_if_eq_t (tgt := 34) dX7_addRow_27 (by decide) c12 ?_
      refine jw_forget [false, false, false] (L' := [none, none, none]) rfl ?_
      exact l_X7_addRow_b34  hq
    · refine jw_if_eq_f (tgt := 34) dX7_addRow_27 (by decide) c12 ?_
      refine jw_iconst dX7_addRow_30 (v := (1 : Int32)) (by decide) ?_
      refine jw_goto (tgt := 35) dX7_addRow_31 (by decide) ?_
      refine jw_forget [false, false, false] (L' := [none, none, none]) rfl ?_
      exact l_X7_addRow_b35  hq

theorem c_X7_addRow {h : jw_H} {x0 : Nat} {x1 : Option Nat} {x2 : Int32} {r : Int32} {h' : jw_H} (hq : f_X7_addRow h x0 x1 x2 = some (r, h')) : jw_Con (Cond.code yX7_addRow cX7_addRow 3 (some .boolean)) yX7_addRow 2 [.ref x0, va_rf x1, .int x2] h (.inl (some (.int r))) h' :=
  jw_con false (plainFor_of_name (by decide +kernel)) (fun z => nomatch z) (by simp [jw_ent, jw_sl0_nil, jw_sl0_int, jw_sl0_long, jw_sl0_ref, jw_sl0_rf, jw_sl0_scr, List.replicate]) (by simp [jw_sl0_nil, jw_sl0_int, jw_sl0_long, jw_sl0_ref, jw_sl0_rf, jw_sl0_scr]) (l_X7_addRow hq)


/-! X1_takeNext -/
noncomputable def g_X1_takeNext_b23 (h : jw_H) (x0 : Nat) (t0 : Nat) (t1 : Int32) : Option (Unit × jw_H) :=
 (jw_pB h 1 (some t0) 17 t1).bind fun h1 =>
 (jw_gI h1 1 (some x0) 17).bind fun v2 =>
 if v2 = 0 then (some ((), h1))
 else ((jw_gI h1 1 (some x0) 12).bind fun v4 =>
 (jw_pI h1 1 (some x0) 12 (v4 + (1 : Int32))).bind fun h5 =>
 (jw_gI h5 1 (some x0) 13).bind fun v6 =>
 (jw_pI h5 1 (some x0) 13 (v6 + (1 : Int32))).bind fun h7 =>
 (jw_gI h7 1 (some x0) 12).bind fun v8 =>
 (jw_pI h7 1 (some x0) 11 v8).bind fun h9 =>
 (jw_gR h9 1 (some x0) 1).bind fun v10 =>
 (jw_gI h9 1 (some x0) 12).bind fun v11 =>
 (jw_rc h9 9 v10).bind fun a12 =>
 jw_b2 (f_X9_idOf h9 a12 v11) fun w14 h13 =>
 (jw_pI h13 1 (some x0) 10 w14).bind fun h15 =>
 (jw_gR h15 1 (some x0) 7).bind fun v16 =>
 (jw_rc h15 7 v16).bind fun a17 =>
 jw_b2 (f_X7_shrink h15 a17 (0 : Int32)) fun w19 h18 =>
 (jw_gR h18 1 (some x0) 7).bind fun v20 =>
 (jw_gR h18 1 (some x0) 1).bind fun v21 =>
 (jw_gR h18 9 v21 0).bind fun v22 =>
 (jw_gI h18 1 (some x0) 12).bind fun v23 =>
 (jw_rc h18 7 v20).bind fun a24 =>
 jw_b2 (f_X7_addRow h18 a24 v22 v23) fun w26 h25 =>
 (jw_gR h25 1 (some x0) 8).bind fun v27 =>
 (jw_rc h25 7 v27).bind fun a28 =>
 jw_b2 (f_X7_shrink h25 a28 (0 : Int32)) fun w30 h29 =>
 (jw_pB h29 1 (some x0) 16 (0 : Int32)).bind fun h31 =>
 (jw_gR h31 1 (some x0) 5).bind fun v32 =>
 (jw_pB h31 2 v32 5 (0 : Int32)).bind fun h33 =>
 some ((), h33))

noncomputable def f_X1_takeNext (h : jw_H) (x0 : Nat) : Option (Unit × jw_H) :=
 (jw_gI h 1 (some x0) 12).bind fun v1 =>
 (jw_gR h 1 (some x0) 1).bind fun v2 =>
 (jw_gR h 9 v2 0).bind fun v3 =>
 (jw_gI h 7 v3 2).bind fun v4 =>
 if v4 ≤ v1 then (g_X1_takeNext_b23  h x0 x0 (0 : Int32))
 else (g_X1_takeNext_b23  h x0 x0 (1 : Int32))

set_option maxRecDepth 100000 in
set_option maxHeartbeats 4000000 in
theorem l_X1_takeNext_b23 {hi : jw_H} {h : jw_H} {x0 : Nat} {t0 : Nat} {t1 : Int32} {r : Unit} {h' : jw_H} (hq : g_X1_takeNext_b23  h x0 t0 t1 = some (r, h')) : jw_E 3 uX1_takeNext hi 23 [some (.ref x0)] [.int t1, .ref t0] h (.inl none) h' := by
  unfold g_X1_takeNext_b23 at hq
  obtain ⟨h1, eh1, hq⟩ := Option.bind_eq_some_iff.mp hq
  refine jw_putB (o := (some t0)) dX1_takeNext_23 eh1 fl_X1_61 rfl rfl ?_
  refine jw_aload_n dX1_takeNext_26 (o := (some x0)) rfl ?_
  obtain ⟨v2, ev2, hq⟩ := Option.bind_eq_some_iff.mp hq
  refine jw_getI (o := (some x0)) dX1_takeNext_27 ev2 fl_X1_61 rfl ?_
  rcases jw_if hq with ⟨c3, hq⟩ | ⟨c3, hq⟩
  · refine jw_if_ne_f (tgt := 34) dX1_takeNext_30 (by decide) c3 ?_
    cases hq
    exact jw_vret dX1_takeNext_33 rfl
  · refine jw_if_ne_t (tgt := 34) dX1_takeNext_30 (by decide) c3 ?_
    refine jw_aload_n dX1_takeNext_34 (o := (some x0)) rfl ?_
    refine jw_dup dX1_takeNext_35 rfl ?_
    obtain ⟨v4, ev4, hq⟩ := Option.bind_eq_some_iff.mp hq
    refine jw_getI (o := (some x0)) dX1_takeNext_36 ev4 fl_X1_115 rfl ?_
    refine jw_iconst dX1_takeNext_39 (v := (1 : Int32)) (by decide) ?_
    refine jw_iadd dX1_takeNext_40 ?_
    obtain ⟨h5, eh5, hq⟩ := Option.bind_eq_some_iff.mp hq
    refine jw_putI (o := (some x0)) dX1_takeNext_41 eh5 fl_X1_115 rfl rfl ?_
    refine jw_aload_n dX1_takeNext_44 (o := (some x0)) rfl ?_
    refine jw_dup dX1_takeNext_45 rfl ?_
    obtain ⟨v6, ev6, hq⟩ := Option.bind_eq_some_iff.mp hq
    refine jw_getI (o := (some x0)) dX1_takeNext_46 ev6 fl_X1_118 rfl ?_
    refine jw_iconst dX1_takeNext_49 (v := (1 : Int32)) (by decide) ?_
    refine jw_iadd dX1_takeNext_50 ?_
    obtain ⟨h7, eh7, hq⟩ := Option.bind_eq_some_iff.mp hq
    refine jw_putI (o := (some x0)) dX1_takeNext_51 eh7 fl_X1_118 rfl rfl ?_
    refine jw_aload_n dX1_takeNext_54 (o := (some x0)) rfl ?_
    refine jw_aload_n dX1_takeNext_55 (o := (some x0)) rfl ?_
    obtain ⟨v8, ev8, hq⟩ := Option.bind_eq_some_iff.mp hq
    refine jw_getI (o := (some x0)) dX1_takeNext_56 ev8 fl_X1_115 rfl ?_
    obtain ⟨h9, eh9, hq⟩ := Option.bind_eq_some_iff.mp hq
    refine jw_putI (o := (some x0)) dX1_takeNext_59 eh9 fl_X1_137 rfl rfl ?_
    refine jw_aload_n dX1_takeNext_62 (o := (some x0)) rfl ?_
    refine jw_aload_n dX1_takeNext_63 (o := (some x0)) rfl ?_
    obtain ⟨v10, ev10, hq⟩ := Option.bind_eq_some_iff.mp hq
    refine jw_getR (o := (some x0)) dX1_takeNext_64 ev10 fl_X1_15 rfl ?_
    refine jw_aload_n dX1_takeNext_67 (o := (some x0)) rfl ?_
    obtain ⟨v11, ev11, hq⟩ := Option.bind_eq_some_iff.mp hq
    refine jw_getI (o := (some x0)) dX1_takeNext_68 ev11 fl_X1_115 rfl ?_
    obtain ⟨a12, ea12, hq⟩ := Option.bind_eq_some_iff.mp hq
    obtain ⟨eoa12, eta12⟩ := jw_rc_spec ea12
    obtain ⟨w14, h13, ew14, hq⟩ := jw_b2_spec hq
    refine jw_callV (As := [.int v11]) (S := [.ref x0]) (a := a12) (v := some (.int w14)) dX1_takeNext_71 mt_X9_idOf in_X9_idOf se_X9_idOf lk_X1_138 (c_X9_idOf ew14) eta12 (by decide) rfl rfl (by decide) (Nat.le_of_ble_eq_true rfl) (by cases eoa12; rfl) ?_
    obtain ⟨h15, eh15, hq⟩ := Option.bind_eq_some_iff.mp hq
    refine jw_putI (o := (some x0)) dX1_takeNext_74 eh15 fl_X1_141 rfl rfl ?_
    refine jw_aload_n dX1_takeNext_77 (o := (some x0)) rfl ?_
    obtain ⟨v16, ev16, hq⟩ := Option.bind_eq_some_iff.mp hq
    refine jw_getR (o := (some x0)) dX1_takeNext_78 ev16 fl_X1_45 rfl ?_
    refine jw_iconst dX1_takeNext_81 (v := (0 : Int32)) (by decide) ?_
    obtain ⟨a17, ea17, hq⟩ := Option.bind_eq_some_iff.mp hq
    obtain ⟨eoa17, eta17⟩ := jw_rc_spec ea17
    obtain ⟨w19, h18, ew19, hq⟩ := jw_b2_spec hq
    refine jw_callV (As := [.int (0 : Int32)]) (S := []) (a := a17) (v := none) dX1_takeNext_82 mt_X7_shrink in_X7_shrink se_X7_shrink lk_X1_112 (c_X7_shrink ew19) eta17 (by decide) rfl rfl (by decide) (Nat.le_of_ble_eq_true rfl) (by cases eoa17; rfl) ?_
    refine jw_aload_n dX1_takeNext_85 (o := (some x0)) rfl ?_
    obtain ⟨v20, ev20, hq⟩ := Option.bind_eq_some_iff.mp hq
    refine jw_getR (o := (some x0)) dX1_takeNext_86 ev20 fl_X1_45 rfl ?_
    refine jw_aload_n dX1_takeNext_89 (o := (some x0)) rfl ?_
    obtain ⟨v21, ev21, hq⟩ := Option.bind_eq_some_iff.mp hq
    refine jw_getR (o := (some x0)) dX1_takeNext_90 ev21 fl_X1_15 rfl ?_
    obtain ⟨v22, ev22, hq⟩ := Option.bind_eq_some_iff.mp hq
    refine jw_getR (o := v21) dX1_takeNext_93 ev22 fl_X1_96 rfl ?_
    refine jw_aload_n dX1_takeNext_96 (o := (some x0)) rfl ?_
    obtain ⟨v23, ev23, hq⟩ := Option.bind_eq_some_iff.mp hq
    refine jw_getI (o := (some x0)) dX1_takeNext_97 ev23 fl_X1_115 rfl ?_
    obtain ⟨a24, ea24, hq⟩ := Option.bind_eq_some_iff.mp hq
    obtain ⟨eoa24, eta24⟩ := jw_rc_spec ea24
    obtain ⟨w26, h25, ew26, hq⟩ := jw_b2_spec hq
    refine jw_callV (As := [va_rf v22, .int v23]) (S := []) (a := a24) (v := some (.int w26)) dX1_takeNext_100 mt_X7_addRow in_X7_addRow se_X7_addRow lk_X1_144 (c_X7_addRow ew26) eta24 (by decide) rfl rfl (by decide) (Nat.le_of_ble_eq_true rfl) (by cases eoa24; rfl) ?_
    refine jw_pop dX1_takeNext_103 rfl ?_
    refine jw_aload_n dX1_takeNext_104 (o := (some x0)) rfl ?_
    obtain ⟨v27, ev27, hq⟩ := Option.bind_eq_some_iff.mp hq
    refine jw_getR (o := (some x0)) dX1_takeNext_105 ev27 fl_X1_49 rfl ?_
    refine jw_iconst dX1_takeNext_108 (v := (0 : Int32)) (by decide) ?_
    obtain ⟨a28, ea28, hq⟩ := Option.bind_eq_some_iff.mp hq
    obtain ⟨eoa28, eta28⟩ := jw_rc_spec ea28
    obtain ⟨w30, h29, ew30, hq⟩ := jw_b2_spec hq
    refine jw_callV (As := [.int (0 : Int32)]) (S := []) (a := a28) (v := none) dX1_takeNext_109 mt_X7_shrink in_X7_shrink se_X7_shrink lk_X1_112 (c_X7_shrink ew30) eta28 (by decide) rfl rfl (by decide) (Nat.le_of_ble_eq_true rfl) (by cases eoa28; rfl) ?_
    refine jw_aload_n dX1_takeNext_112 (o := (some x0)) rfl ?_
    refine jw_iconst dX1_takeNext_113 (v := (0 : Int32)) (by decide) ?_
    obtain ⟨h31, eh31, hq⟩ := Option.bind_eq_some_iff.mp hq
    refine jw_putB (o := (some x0)) dX1_takeNext_114 eh31 fl_X1_148 rfl rfl ?_
    refine jw_aload_n dX1_takeNext_117 (o := (some x0)) rfl ?_
    obtain ⟨v32, ev32, hq⟩ := Option.bind_eq_some_iff.mp hq
    refine jw_getR (o := (some x0)) dX1_takeNext_118 ev32 fl_X1_30 rfl ?_
    refine jw_iconst dX1_takeNext_121 (v := (0 : Int32)) (by decide) ?_
    obtain ⟨h33, eh33, hq⟩ := Option.bind_eq_some_iff.mp hq
    refine jw_putB (o := v32) dX1_takeNext_122 eh33 fl_X1_151 rfl rfl ?_
    cases hq
    exact jw_vret dX1_takeNext_125 rfl

set_option maxRecDepth 100000 in
set_option maxHeartbeats 4000000 in
theorem l_X1_takeNext {hi : jw_H} {h : jw_H} {x0 : Nat} {r : Unit} {h' : jw_H} (hq : f_X1_takeNext  h x0 = some (r, h')) : jw_E 3 uX1_takeNext hi 0 [some (.ref x0)] [] h (.inl none) h' := by
  unfold f_X1_takeNext at hq
  refine jw_aload_n dX1_takeNext_0 (o := (some x0)) rfl ?_
  refine jw_aload_n dX1_takeNext_1 (o := (some x0)) rfl ?_
  obtain ⟨v1, ev1, hq⟩ := Option.bind_eq_some_iff.mp hq
  refine jw_getI (o := (some x0)) dX1_takeNext_2 ev1 fl_X1_115 rfl ?_
  refine jw_aload_n dX1_takeNext_5 (o := (some x0)) rfl ?_
  obtain ⟨v2, ev2, hq⟩ := Option.bind_eq_some_iff.mp hq
  refine jw_getR (o := (some x0)) dX1_takeNext_6 ev2 fl_X1_15 rfl ?_
  obtain ⟨v3, ev3, hq⟩ := Option.bind_eq_some_iff.mp hq
  refine jw_getR (o := v2) dX1_takeNext_9 ev3 fl_X1_96 rfl ?_
  obtain ⟨v4, ev4, hq⟩ := Option.bind_eq_some_iff.mp hq
  refine jw_getI (o := v3) dX1_takeNext_12 ev4 fl_X1_99 rfl ?_
  rcases jw_if hq with ⟨c5, hq⟩ | ⟨c5, hq⟩
  · refine jw_icmp_ge_t (tgt := 22) dX1_takeNext_15 (by decide) c5 ?_
    refine jw_iconst dX1_takeNext_22 (v := (0 : Int32)) (by decide) ?_
    exact l_X1_takeNext_b23  hq
  · refine jw_icmp_ge_f (tgt := 22) dX1_takeNext_15 (by decide) c5 ?_
    refine jw_iconst dX1_takeNext_18 (v := (1 : Int32)) (by decide) ?_
    refine jw_goto (tgt := 23) dX1_takeNext_19 (by decide) ?_
    exact l_X1_takeNext_b23  hq

theorem c_X1_takeNext {h : jw_H} {x0 : Nat} {r : Unit} {h' : jw_H} (hq : f_X1_takeNext h x0 = some (r, h')) : jw_Con (Cond.code yX1_takeNext cX1_takeNext 1 none) yX1_takeNext 3 [.ref x0] h (.inl none) h' :=
  jw_con false (plainFor_of_name (by decide +kernel)) (fun z => nomatch z) (by simp [jw_ent, jw_sl0_nil, jw_sl0_int, jw_sl0_long, jw_sl0_ref, jw_sl0_rf, jw_sl0_scr, List.replicate]) (by simp [jw_sl0_nil, jw_sl0_int, jw_sl0_long, jw_sl0_ref, jw_sl0_rf, jw_sl0_scr]) (l_X1_takeNext hq)


/-! X5_isNotByLine -/
noncomputable def g_X5_isNotByLine_b88 (h : jw_H) (t0 : Int32) : Option (Int32 × jw_H) :=
 (jw_rb t0).bind fun v1 =>
 some (t0, h)

noncomputable def g_X5_isNotByLine_b83 (h : jw_H)  : Option (Int32 × jw_H) :=
 g_X5_isNotByLine_b88  h (1 : Int32)

noncomputable def g_X5_isNotByLine_b87 (h : jw_H)  : Option (Int32 × jw_H) :=
 g_X5_isNotByLine_b88  h (0 : Int32)

noncomputable def g_X5_isNotByLine_b65 (h : jw_H) (x0 : Nat) : Option (Int32 × jw_H) :=
 (jw_gI h 5 (some x0) 4).bind fun v1 =>
 if v1 = (3 : Int32) then ((jw_gR h 5 (some x0) 1).bind fun v3 =>
 (jw_rc h 0 v3).bind fun a4 =>
 jw_b2 (f_X0_isNotByLine h a4) fun w6 h5 =>
 if w6 = 0 then (g_X5_isNotByLine_b87  h5 )
 else (g_X5_isNotByLine_b83  h5 ))
 else (g_X5_isNotByLine_b87  h )

noncomputable def f_X5_isNotByLine (h : jw_H) (x0 : Nat) : Option (Int32 × jw_H) :=
 (jw_gI h 5 (some x0) 3).bind fun v1 =>
 if v1 = (108 : Int32) then (some ((1 : Int32), h))
 else ((jw_gI h 5 (some x0) 3).bind fun v3 =>
 if v3 = (111 : Int32) then (some ((1 : Int32), h))
 else ((jw_gI h 5 (some x0) 3).bind fun v5 =>
 if v5 = (79 : Int32) then (some ((1 : Int32), h))
 else ((jw_gI h 5 (some x0) 3).bind fun v7 =>
 if v7 = (109 : Int32) then (some ((1 : Int32), h))
 else ((jw_gI h 5 (some x0) 3).bind fun v9 =>
 if v9 = (116 : Int32) then (some ((1 : Int32), h))
 else ((jw_gI h 5 (some x0) 4).bind fun v11 =>
 if v11 < (2 : Int32) then (g_X5_isNotByLine_b65  h x0)
 else ((jw_gR h 5 (some x0) 0).bind fun v13 =>
 (jw_rc h 0 v13).bind fun a14 =>
 jw_b2 (f_X0_isNotByLine h a14) fun w16 h15 =>
 if w16 = 0 then (g_X5_isNotByLine_b65  h15 x0)
 else (g_X5_isNotByLine_b83  h15 )))))))

set_option maxRecDepth 100000 in
set_option maxHeartbeats 4000000 in
theorem l_X5_isNotByLine_b88 {hi : jw_H} {h : jw_H} {t0 : Int32} {r : Int32} {h' : jw_H} (hq : g_X5_isNotByLine_b88  h t0 = some (r, h')) : jw_E 1 uX5_isNotByLine hi 88 [none] [.int t0] h (.inl (some (.int r))) h' := by
  unfold g_X5_isNotByLine_b88 at hq
  obtain ⟨v1, ev1, hq⟩ := Option.bind_eq_some_iff.mp hq
  cases hq
  exact jw_iret (ty := .boolean) dX5_isNotByLine_88 rfl (jw_rb_spec ev1)

set_option maxRecDepth 100000 in
set_option maxHeartbeats 4000000 in
theorem l_X5_isNotByLine_b83 {hi : jw_H} {h : jw_H}  {r : Int32} {h' : jw_H} (hq : g_X5_isNotByLine_b83  h  = some (r, h')) : jw_E 1 uX5_isNotByLine hi 83 [none] [] h (.inl (some (.int r))) h' := by
  unfold g_X5_isNotByLine_b83 at hq
  refine jw_iconst dX5_isNotByLine_83 (v := (1 : Int32)) (by decide) ?_
  refine jw_goto (tgt := 88) dX5_isNotByLine_84 (by decide) ?_
  exact l_X5_isNotByLine_b88  hq

set_option maxRecDepth 100000 in
set_option maxHeartbeats 4000000 in
theorem l_X5_isNotByLine_b87 {hi : jw_H} {h : jw_H}  {r : Int32} {h' : jw_H} (hq : g_X5_isNotByLine_b87  h  = some (r, h')) : jw_E 1 uX5_isNotByLine hi 87 [none] [] h (.inl (some (.int r))) h' := by
  unfold g_X5_isNotByLine_b87 at hq
  refine jw_iconst dX5_isNotByLine_87 (v := (0 : Int32)) (by decide) ?_
  exact l_X5_isNotByLine_b88  hq

set_option maxRecDepth 100000 in
set_option maxHeartbeats 4000000 in
theorem l_X5_isNotByLine_b65 {hi : jw_H} {h : jw_H} {x0 : Nat} {r : Int32} {h' : jw_H} (hq : g_X5_isNotByLine_b65  h x0 = some (r, h')) : jw_E 1 uX5_isNotByLine hi 65 [some (.ref x0)] [] h (.inl (some (.int r))) h' := by
  unfold g_X5_isNotByLine_b65 at hq
  refine jw_aload_n dX5_isNotByLine_65 (o := (some x0)) rfl ?_
  obtain ⟨v1, ev1, hq⟩ := Option.bind_eq_some_iff.mp hq
  refine jw_getI (o := (some x0)) dX5_isNotByLine_66 ev1 fl_X5_31 rfl ?_
  refine jw_iconst dX5_isNotByLine_69 (v := (3 : Int32)) (by decide) ?_
  rcases jw_if hq with ⟨c2, hq⟩ | ⟨c2, hq⟩
  · refine jw_icmp_ne_f (tgt := 87) dX5_isNotByLine_70 (by decide) c2 ?_
    refine jw_aload_n dX5_isNotByLine_73 (o := (some x0)) rfl ?_
    obtain ⟨v3, ev3, hq⟩ := Option.bind_eq_some_iff.mp hq
    refine jw_getR (o := (some x0)) dX5_isNotByLine_74 ev3 fl_X5_18 rfl ?_
    obtain ⟨a4, ea4, hq⟩ := Option.bind_eq_some_iff.mp hq
    obtain ⟨eoa4, eta4⟩ := jw_rc_spec ea4
    obtain ⟨w6, h5, ew6, hq⟩ := jw_b2_spec hq
    refine jw_callV (As := []) (S := []) (a := a4) (v := some (.int w6)) dX5_isNotByLine_77 mt_X0_isNotByLine in_X0_isNotByLine se_X0_isNotByLine lk_X5_62 (c_X0_isNotByLine ew6) eta4 (by decide) rfl rfl (by decide) (Nat.le_of_ble_eq_true rfl) (by cases eoa4; rfl) ?_
    rcases jw_if hq with ⟨c7, hq⟩ | ⟨c7, hq⟩
    · refine jw_if_eq_t (tgt := 87) dX5_isNotByLine_80 (by decide) c7 ?_
      refine jw_forget [false] (L' := [none]) rfl ?_
      exact l_X5_isNotByLine_b87  hq
    · refine jw_if_eq_f (tgt := 87) dX5_isNotByLine_80 (by decide) c7 ?_
      refine jw_forget [false] (L' := [none]) rfl ?_
      exact l_X5_isNotByLine_b83  hq
  · refine jw_icmp_ne_t (tgt := 87) dX5_isNotByLine_70 (by decide) c2 ?_
    refine jw_forget [false] (L' := [none]) rfl ?_
    exact l_X5_isNotByLine_b87  hq

set_option maxRecDepth 100000 in
set_option maxHeartbeats 4000000 in
theorem l_X5_isNotByLine {hi : jw_H} {h : jw_H} {x0 : Nat} {r : Int32} {h' : jw_H} (hq : f_X5_isNotByLine  h x0 = some (r, h')) : jw_E 1 uX5_isNotByLine hi 0 [some (.ref x0)] [] h (.inl (some (.int r))) h' := by
  unfold f_X5_isNotByLine at hq
  refine jw_aload_n dX5_isNotByLine_0 (o := (some x0)) rfl ?_
  obtain ⟨v1, ev1, hq⟩ := Option.bind_eq_some_iff.mp hq
  refine jw_getI (o := (some x0)) dX5_isNotByLine_1 ev1 fl_X5_27 rfl ?_
  refine jw_bipush dX5_isNotByLine_4 (v := (108 : Int32)) (by decide) ?_
  rcases jw_if hq with ⟨c2, hq⟩ | ⟨c2, hq⟩
  · refine jw_icmp_eq_t (tgt := 45) dX5_isNotByLine_6 (by decide) c2 ?_
    refine jw_iconst dX5_isNotByLine_45 (v := (1 : Int32)) (by decide) ?_
    cases hq
    exact jw_iret (ty := .boolean) dX5_isNotByLine_46 rfl rfl
  · refine jw_icmp_eq_f (tgt := 45) dX5_isNotByLine_6 (by decide) c2 ?_
    refine jw_aload_n dX5_isNotByLine_9 (o := (some x0)) rfl ?_
    obtain ⟨v3, ev3, hq⟩ := Option.bind_eq_some_iff.mp hq
    refine jw_getI (o := (some x0)) dX5_isNotByLine_10 ev3 fl_X5_27 rfl ?_
    refine jw_bipush dX5_isNotByLine_13 (v := (111 : Int32)) (by decide) ?_
    rcases jw_if hq with ⟨c4, hq⟩ | ⟨c4, hq⟩
    · refine jw_icmp_eq_t (tgt := 45) dX5_isNotByLine_15 (by decide) c4 ?_
      refine jw_iconst dX5_isNotByLine_45 (v := (1 : Int32)) (by decide) ?_
      cases hq
      exact jw_iret (ty := .boolean) dX5_isNotByLine_46 rfl rfl
    · refine jw_icmp_eq_f (tgt := 45) dX5_isNotByLine_15 (by decide) c4 ?_
      refine jw_aload_n dX5_isNotByLine_18 (o := (some x0)) rfl ?_
      obtain ⟨v5, ev5, hq⟩ := Option.bind_eq_some_iff.mp hq
      refine jw_getI (o := (some x0)) dX5_isNotByLine_19 ev5 fl_X5_27 rfl ?_
      refine jw_bipush dX5_isNotByLine_22 (v := (79 : Int32)) (by decide) ?_
      rcases jw_if hq with ⟨c6, hq⟩ | ⟨c6, hq⟩
      · refine jw_icmp_eq_t (tgt := 45) dX5_isNotByLine_24 (by decide) c6 ?_
        refine jw_iconst dX5_isNotByLine_45 (v := (1 : Int32)) (by decide) ?_
        cases hq
        exact jw_iret (ty := .boolean) dX5_isNotByLine_46 rfl rfl
      · refine jw_icmp_eq_f (tgt := 45) dX5_isNotByLine_24 (by decide) c6 ?_
        refine jw_aload_n dX5_isNotByLine_27 (o := (some x0)) rfl ?_
        obtain ⟨v7, ev7, hq⟩ := Option.bind_eq_some_iff.mp hq
        refine jw_getI (o := (some x0)) dX5_isNotByLine_28 ev7 fl_X5_27 rfl ?_
        refine jw_bipush dX5_isNotByLine_31 (v := (109 : Int32)) (by decide) ?_
        rcases jw_if hq with ⟨c8, hq⟩ | ⟨c8, hq⟩
        · refine jw_icmp_eq_t (tgt := 45) dX5_isNotByLine_33 (by decide) c8 ?_
          refine jw_iconst dX5_isNotByLine_45 (v := (1 : Int32)) (by decide) ?_
          cases hq
          exact jw_iret (ty := .boolean) dX5_isNotByLine_46 rfl rfl
        · refine jw_icmp_eq_f (tgt := 45) dX5_isNotByLine_33 (by decide) c8 ?_
          refine jw_aload_n dX5_isNotByLine_36 (o := (some x0)) rfl ?_
          obtain ⟨v9, ev9, hq⟩ := Option.bind_eq_some_iff.mp hq
          refine jw_getI (o := (some x0)) dX5_isNotByLine_37 ev9 fl_X5_27 rfl ?_
          refine jw_bipush dX5_isNotByLine_40 (v := (116 : Int32)) (by decide) ?_
          rcases jw_if hq with ⟨c10, hq⟩ | ⟨c10, hq⟩
          · refine jw_icmp_ne_f (tgt := 47) dX5_isNotByLine_42 (by decide) c10 ?_
            refine jw_iconst dX5_isNotByLine_45 (v := (1 : Int32)) (by decide) ?_
            cases hq
            exact jw_iret (ty := .boolean) dX5_isNotByLine_46 rfl rfl
          · refine jw_icmp_ne_t (tgt := 47) dX5_isNotByLine_42 (by decide) c10 ?_
            refine jw_aload_n dX5_isNotByLine_47 (o := (some x0)) rfl ?_
            obtain ⟨v11, ev11, hq⟩ := Option.bind_eq_some_iff.mp hq
            refine jw_getI (o := (some x0)) dX5_isNotByLine_48 ev11 fl_X5_31 rfl ?_
            refine jw_iconst dX5_isNotByLine_51 (v := (2 : Int32)) (by decide) ?_
            rcases jw_if hq with ⟨c12, hq⟩ | ⟨c12, hq⟩
            · refine jw_icmp_lt_t (tgt := 65) dX5_isNotByLine_52 (by decide) c12 ?_
              exact l_X5_isNotByLine_b65  hq
            · refine jw_icmp_lt_f (tgt := 65) dX5_isNotByLine_52 (by decide) c12 ?_
              refine jw_aload_n dX5_isNotByLine_55 (o := (some x0)) rfl ?_
              obtain ⟨v13, ev13, hq⟩ := Option.bind_eq_some_iff.mp hq
              refine jw_getR (o := (some x0)) dX5_isNotByLine_56 ev13 fl_X5_12 rfl ?_
              obtain ⟨a14, ea14, hq⟩ := Option.bind_eq_some_iff.mp hq
              obtain ⟨eoa14, eta14⟩ := jw_rc_spec ea14
              obtain ⟨w16, h15, ew16, hq⟩ := jw_b2_spec hq
              refine jw_callV (As := []) (S := []) (a := a14) (v := some (.int w16)) dX5_isNotByLine_59 mt_X0_isNotByLine in_X0_isNotByLine se_X0_isNotByLine lk_X5_62 (c_X0_isNotByLine ew16) eta14 (by decide) rfl rfl (by decide) (Nat.le_of_ble_eq_true rfl) (by cases eoa14; rfl) ?_
              rcases jw_if hq with ⟨c17, hq⟩ | ⟨c17, hq⟩
              · refine jw_if_ne_f (tgt := 83) dX5_isNotByLine_62 (by decide) c17 ?_
                exact l_X5_isNotByLine_b65  hq
              · refine jw_if_ne_t (tgt := 83) dX5_isNotByLine_62 (by decide) c17 ?_
                refine jw_forget [false] (L' := [none]) rfl ?_
                exact l_X5_isNotByLine_b83  hq

theorem c_X5_isNotByLine {h : jw_H} {x0 : Nat} {r : Int32} {h' : jw_H} (hq : f_X5_isNotByLine h x0 = some (r, h')) : jw_Con (Cond.code yX5_isNotByLine cX5_isNotByLine 1 (some .boolean)) yX5_isNotByLine 1 [.ref x0] h (.inl (some (.int r))) h' :=
  jw_con false (plainFor_of_name (by decide +kernel)) (fun z => nomatch z) (by simp [jw_ent, jw_sl0_nil, jw_sl0_int, jw_sl0_long, jw_sl0_ref, jw_sl0_rf, jw_sl0_scr, List.replicate]) (by simp [jw_sl0_nil, jw_sl0_int, jw_sl0_long, jw_sl0_ref, jw_sl0_rf, jw_sl0_scr]) (l_X5_isNotByLine hq)


/-! X1_numberOf -/
noncomputable def g_X1_numberOf_b26 (h : jw_H) (x1 : Option Nat) (t0 : Int32) : Option (Int32 × jw_H) :=
 (jw_gI h 0 x1 2).bind fun v1 =>
 some ((t0 + v1), h)

noncomputable def f_X1_numberOf (h : jw_H) (x0 : Nat) (x1 : Option Nat) : Option (Int32 × jw_H) :=
 (jw_gI h 0 x1 0).bind fun v1 =>
 if v1 = (36 : Int32) then ((jw_gR h 1 (some x0) 1).bind fun v4 =>
 (jw_gR h 9 v4 0).bind fun v5 =>
 (jw_gI h 7 v5 2).bind fun v6 =>
 g_X1_numberOf_b26  h x1 v6)
 else ((jw_gI h 0 x1 1).bind fun v3 =>
 g_X1_numberOf_b26  h x1 v3)

set_option maxRecDepth 100000 in
set_option maxHeartbeats 4000000 in
theorem l_X1_numberOf_b26 {hi : jw_H} {h : jw_H} {x1 : Option Nat} {t0 : Int32} {r : Int32} {h' : jw_H} (hq : g_X1_numberOf_b26  h x1 t0 = some (r, h')) : jw_E 0 uX1_numberOf hi 26 [none, some (va_rf x1)] [.int t0] h (.inl (some (.int r))) h' := by
  unfold g_X1_numberOf_b26 at hq
  refine jw_aload_n dX1_numberOf_26 (o := x1) rfl ?_
  obtain ⟨v1, ev1, hq⟩ := Option.bind_eq_some_iff.mp hq
  refine jw_getI (o := x1) dX1_numberOf_27 ev1 fl_X1_237 rfl ?_
  refine jw_iadd dX1_numberOf_30 ?_
  cases hq
  exact jw_iret (ty := .int) dX1_numberOf_31 rfl rfl

set_option maxRecDepth 100000 in
set_option maxHeartbeats 4000000 in
theorem l_X1_numberOf {hi : jw_H} {h : jw_H} {x0 : Nat} {x1 : Option Nat} {r : Int32} {h' : jw_H} (hq : f_X1_numberOf  h x0 x1 = some (r, h')) : jw_E 0 uX1_numberOf hi 0 [some (.ref x0), some (va_rf x1)] [] h (.inl (some (.int r))) h' := by
  unfold f_X1_numberOf at hq
  refine jw_aload_n dX1_numberOf_0 (o := x1) rfl ?_
  obtain ⟨v1, ev1, hq⟩ := Option.bind_eq_some_iff.mp hq
  refine jw_getI (o := x1) dX1_numberOf_1 ev1 fl_X1_231 rfl ?_
  refine jw_bipush dX1_numberOf_4 (v := (36 : Int32)) (by decide) ?_
  rcases jw_if hq with ⟨c2, hq⟩ | ⟨c2, hq⟩
  · refine jw_icmp_ne_f (tgt := 22) dX1_numberOf_6 (by decide) c2 ?_
    refine jw_aload_n dX1_numberOf_9 (o := (some x0)) rfl ?_
    obtain ⟨v4, ev4, hq⟩ := Option.bind_eq_some_iff.mp hq
    refine jw_getR (o := (some x0)) dX1_numberOf_10 ev4 fl_X1_15 rfl ?_
    obtain ⟨v5, ev5, hq⟩ := Option.bind_eq_some_iff.mp hq
    refine jw_getR (o := v4) dX1_numberOf_13 ev5 fl_X1_96 rfl ?_
    obtain ⟨v6, ev6, hq⟩ := Option.bind_eq_some_iff.mp hq
    refine jw_getI (o := v5) dX1_numberOf_16 ev6 fl_X1_99 rfl ?_
    refine jw_goto (tgt := 26) dX1_numberOf_19 (by decide) ?_
    refine jw_forget [false, true] (L' := [none, some (va_rf x1)]) rfl ?_
    exact l_X1_numberOf_b26  hq
  · refine jw_icmp_ne_t (tgt := 22) dX1_numberOf_6 (by decide) c2 ?_
    refine jw_aload_n dX1_numberOf_22 (o := x1) rfl ?_
    obtain ⟨v3, ev3, hq⟩ := Option.bind_eq_some_iff.mp hq
    refine jw_getI (o := x1) dX1_numberOf_23 ev3 fl_X1_234 rfl ?_
    refine jw_forget [false, true] (L' := [none, some (va_rf x1)]) rfl ?_
    exact l_X1_numberOf_b26  hq

theorem c_X1_numberOf {h : jw_H} {x0 : Nat} {x1 : Option Nat} {r : Int32} {h' : jw_H} (hq : f_X1_numberOf h x0 x1 = some (r, h')) : jw_Con (Cond.code yX1_numberOf cX1_numberOf 2 (some .int)) yX1_numberOf 0 [.ref x0, va_rf x1] h (.inl (some (.int r))) h' :=
  jw_con false (plainFor_of_name (by decide +kernel)) (fun z => nomatch z) (by simp [jw_ent, jw_sl0_nil, jw_sl0_int, jw_sl0_long, jw_sl0_ref, jw_sl0_rf, jw_sl0_scr, List.replicate]) (by simp [jw_sl0_nil, jw_sl0_int, jw_sl0_long, jw_sl0_ref, jw_sl0_rf, jw_sl0_scr]) (l_X1_numberOf hq)


/-! X9_markedId -/
noncomputable def g_X9_markedId_b23 (h : jw_H) (t0 : Int32) : Option (Int32 × jw_H) :=
 some (t0, h)

noncomputable def g_X9_markedId_b22 (h : jw_H)  : Option (Int32 × jw_H) :=
 g_X9_markedId_b23  h (-1 : Int32)

noncomputable def f_X9_markedId (h : jw_H) (x0 : Nat) (x1 : Int32) : Option (Int32 × jw_H) :=
 if x1 < 0 then (g_X9_markedId_b22  h )
 else ((jw_gR h 9 (some x0) 2).bind fun v2 =>
 (jw_ln h v2).bind fun v3 =>
 if v3 ≤ x1 then (g_X9_markedId_b22  h )
 else ((jw_gR h 9 (some x0) 2).bind fun v5 =>
 (jw_ai h 20 v5 x1).bind fun v6 =>
 g_X9_markedId_b23  h v6))

set_option maxRecDepth 100000 in
set_option maxHeartbeats 4000000 in
theorem l_X9_markedId_b23 {hi : jw_H} {h : jw_H} {t0 : Int32} {r : Int32} {h' : jw_H} (hq : g_X9_markedId_b23  h t0 = some (r, h')) : jw_E 0 uX9_markedId hi 23 [none, none] [.int t0] h (.inl (some (.int r))) h' := by
  unfold g_X9_markedId_b23 at hq
  cases hq
  exact jw_iret (ty := .int) dX9_markedId_23 rfl rfl

set_option maxRecDepth 100000 in
set_option maxHeartbeats 4000000 in
theorem l_X9_markedId_b22 {hi : jw_H} {h : jw_H}  {r : Int32} {h' : jw_H} (hq : g_X9_markedId_b22  h  = some (r, h')) : jw_E 0 uX9_markedId hi 22 [none, none] [] h (.inl (some (.int r))) h' := by
  unfold g_X9_markedId_b22 at hq
  refine jw_iconst dX9_markedId_22 (v := (-1 : Int32)) (by decide) ?_
  exact l_X9_markedId_b23  hq

set_option maxRecDepth 100000 in
set_option maxHeartbeats 4000000 in
theorem l_X9_markedId {hi : jw_H} {h : jw_H} {x0 : Nat} {x1 : Int32} {r : Int32} {h' : jw_H} (hq : f_X9_markedId  h x0 x1 = some (r, h')) : jw_E 0 uX9_markedId hi 0 [some (.ref x0), some (.int x1)] [] h (.inl (some (.int r))) h' := by
  unfold f_X9_markedId at hq
  refine jw_iload_n dX9_markedId_0 rfl ?_
  rcases jw_if hq with ⟨c1, hq⟩ | ⟨c1, hq⟩
  · refine jw_if_lt_t (tgt := 22) dX9_markedId_1 (by decide) c1 ?_
    refine jw_forget [false, false] (L' := [none, none]) rfl ?_
    exact l_X9_markedId_b22  hq
  · refine jw_if_lt_f (tgt := 22) dX9_markedId_1 (by decide) c1 ?_
    refine jw_iload_n dX9_markedId_4 rfl ?_
    refine jw_aload_n dX9_markedId_5 (o := (some x0)) rfl ?_
    obtain ⟨v2, ev2, hq⟩ := Option.bind_eq_some_iff.mp hq
    refine jw_getR (o := (some x0)) dX9_markedId_6 ev2 fl_X9_24 rfl ?_
    obtain ⟨v3, ev3, hq⟩ := Option.bind_eq_some_iff.mp hq
    refine jw_alen (o := v2) dX9_markedId_9 ev3 ?_
    rcases jw_if hq with ⟨c4, hq⟩ | ⟨c4, hq⟩
    · refine jw_icmp_ge_t (tgt := 22) dX9_markedId_10 (by decide) c4 ?_
      refine jw_forget [false, false] (L' := [none, none]) rfl ?_
      exact l_X9_markedId_b22  hq
    · refine jw_icmp_ge_f (tgt := 22) dX9_markedId_10 (by decide) c4 ?_
      refine jw_aload_n dX9_markedId_13 (o := (some x0)) rfl ?_
      obtain ⟨v5, ev5, hq⟩ := Option.bind_eq_some_iff.mp hq
      refine jw_getR (o := (some x0)) dX9_markedId_14 ev5 fl_X9_24 rfl ?_
      refine jw_iload_n dX9_markedId_17 rfl ?_
      obtain ⟨v6, ev6, hq⟩ := Option.bind_eq_some_iff.mp hq
      refine jw_iald (o := v5) dX9_markedId_18 ev6 ?_
      refine jw_goto (tgt := 23) dX9_markedId_19 (by decide) ?_
      refine jw_forget [false, false] (L' := [none, none]) rfl ?_
      exact l_X9_markedId_b23  hq

theorem c_X9_markedId {h : jw_H} {x0 : Nat} {x1 : Int32} {r : Int32} {h' : jw_H} (hq : f_X9_markedId h x0 x1 = some (r, h')) : jw_Con (Cond.code yX9_markedId cX9_markedId 2 (some .int)) yX9_markedId 0 [.ref x0, .int x1] h (.inl (some (.int r))) h' :=
  jw_con false (plainFor_of_name (by decide +kernel)) (fun z => nomatch z) (by simp [jw_ent, jw_sl0_nil, jw_sl0_int, jw_sl0_long, jw_sl0_ref, jw_sl0_rf, jw_sl0_scr, List.replicate]) (by simp [jw_sl0_nil, jw_sl0_int, jw_sl0_long, jw_sl0_ref, jw_sl0_rf, jw_sl0_scr]) (l_X9_markedId hq)


/-! X7_signAt -/
noncomputable def f_X7_signAt (h : jw_H) (x0 : Nat) (x1 : Int32) (x2 : Int32) : Option (Int32 × jw_H) :=
 if x1 < (1 : Int32) then (some ((-1 : Int32), h))
 else ((jw_gI h 7 (some x0) 2).bind fun v2 =>
 if v2 < x1 then (some ((-1 : Int32), h))
 else ((jw_gR h 7 (some x0) 0).bind fun v4 =>
 (jw_ln h v4).bind fun v5 =>
 if x1 ≤ v5 then (if x2 < 0 then (some ((-1 : Int32), h))
 else ((jw_gR h 7 (some x0) 0).bind fun v8 =>
 (jw_ai h 20 v8 (x1 - (1 : Int32))).bind fun v9 =>
 if v9 ≤ x2 then (some ((-1 : Int32), h))
 else (if x2 < (30 : Int32) then ((jw_gR h 7 (some x0) 1).bind fun v12 =>
 (jw_ai h 21 v12 (((x1 - (1 : Int32)) * (30 : Int32)) + x2)).bind fun v13 =>
 some (v13, h))
 else (some ((-1 : Int32), h)))))
 else (some ((-1 : Int32), h))))

set_option maxRecDepth 100000 in
set_option maxHeartbeats 4000000 in
theorem l_X7_signAt {hi : jw_H} {h : jw_H} {x0 : Nat} {x1 : Int32} {x2 : Int32} {r : Int32} {h' : jw_H} (hq : f_X7_signAt  h x0 x1 x2 = some (r, h')) : jw_E 0 uX7_signAt hi 0 [some (.ref x0), some (.int x1), some (.int x2)] [] h (.inl (some (.int r))) h' := by
  unfold f_X7_signAt at hq
  refine jw_iload_n dX7_signAt_0 rfl ?_
  refine jw_iconst dX7_signAt_1 (v := (1 : Int32)) (by decide) ?_
  rcases jw_if hq with ⟨c1, hq⟩ | ⟨c1, hq⟩
  · refine jw_icmp_lt_t (tgt := 22) dX7_signAt_2 (by decide) c1 ?_
    refine jw_iconst dX7_signAt_22 (v := (-1 : Int32)) (by decide) ?_
    cases hq
    exact jw_iret (ty := .int) dX7_signAt_23 rfl rfl
  · refine jw_icmp_lt_f (tgt := 22) dX7_signAt_2 (by decide) c1 ?_
    refine jw_iload_n dX7_signAt_5 rfl ?_
    refine jw_aload_n dX7_signAt_6 (o := (some x0)) rfl ?_
    obtain ⟨v2, ev2, hq⟩ := Option.bind_eq_some_iff.mp hq
    refine jw_getI (o := (some x0)) dX7_signAt_7 ev2 fl_X7_25 rfl ?_
    rcases jw_if hq with ⟨c3, hq⟩ | ⟨c3, hq⟩
    · refine jw_icmp_gt_t (tgt := 22) dX7_signAt_10 (by decide) c3 ?_
      refine jw_iconst dX7_signAt_22 (v := (-1 : Int32)) (by decide) ?_
      cases hq
      exact jw_iret (ty := .int) dX7_signAt_23 rfl rfl
    · refine jw_icmp_gt_f (tgt := 22) dX7_signAt_10 (by decide) c3 ?_
      refine jw_iload_n dX7_signAt_13 rfl ?_
      refine jw_aload_n dX7_signAt_14 (o := (some x0)) rfl ?_
      obtain ⟨v4, ev4, hq⟩ := Option.bind_eq_some_iff.mp hq
      refine jw_getR (o := (some x0)) dX7_signAt_15 ev4 fl_X7_15 rfl ?_
      obtain ⟨v5, ev5, hq⟩ := Option.bind_eq_some_iff.mp hq
      refine jw_alen (o := v4) dX7_signAt_18 ev5 ?_
      rcases jw_if hq with ⟨c6, hq⟩ | ⟨c6, hq⟩
      · refine jw_icmp_le_t (tgt := 24) dX7_signAt_19 (by decide) c6 ?_
        refine jw_iload_n dX7_signAt_24 rfl ?_
        rcases jw_if hq with ⟨c7, hq⟩ | ⟨c7, hq⟩
        · refine jw_if_lt_t (tgt := 46) dX7_signAt_25 (by decide) c7 ?_
          refine jw_iconst dX7_signAt_46 (v := (-1 : Int32)) (by decide) ?_
          cases hq
          exact jw_iret (ty := .int) dX7_signAt_47 rfl rfl
        · refine jw_if_lt_f (tgt := 46) dX7_signAt_25 (by decide) c7 ?_
          refine jw_iload_n dX7_signAt_28 rfl ?_
          refine jw_aload_n dX7_signAt_29 (o := (some x0)) rfl ?_
          obtain ⟨v8, ev8, hq⟩ := Option.bind_eq_some_iff.mp hq
          refine jw_getR (o := (some x0)) dX7_signAt_30 ev8 fl_X7_15 rfl ?_
          refine jw_iload_n dX7_signAt_33 rfl ?_
          refine jw_iconst dX7_signAt_34 (v := (1 : Int32)) (by decide) ?_
          refine jw_isub dX7_signAt_35 ?_
          obtain ⟨v9, ev9, hq⟩ := Option.bind_eq_some_iff.mp hq
          refine jw_iald (o := v8) dX7_signAt_36 ev9 ?_
          rcases jw_if hq with ⟨c10, hq⟩ | ⟨c10, hq⟩
          · refine jw_icmp_ge_t (tgt := 46) dX7_signAt_37 (by decide) c10 ?_
            refine jw_iconst dX7_signAt_46 (v := (-1 : Int32)) (by decide) ?_
            cases hq
            exact jw_iret (ty := .int) dX7_signAt_47 rfl rfl
          · refine jw_icmp_ge_f (tgt := 46) dX7_signAt_37 (by decide) c10 ?_
            refine jw_iload_n dX7_signAt_40 rfl ?_
            refine jw_bipush dX7_signAt_41 (v := (30 : Int32)) (by decide) ?_
            rcases jw_if hq with ⟨c11, hq⟩ | ⟨c11, hq⟩
            · refine jw_icmp_lt_t (tgt := 48) dX7_signAt_43 (by decide) c11 ?_
              refine jw_aload_n dX7_signAt_48 (o := (some x0)) rfl ?_
              obtain ⟨v12, ev12, hq⟩ := Option.bind_eq_some_iff.mp hq
              refine jw_getR (o := (some x0)) dX7_signAt_49 ev12 fl_X7_21 rfl ?_
              refine jw_iload_n dX7_signAt_52 rfl ?_
              refine jw_iconst dX7_signAt_53 (v := (1 : Int32)) (by decide) ?_
              refine jw_isub dX7_signAt_54 ?_
              refine jw_bipush dX7_signAt_55 (v := (30 : Int32)) (by decide) ?_
              refine jw_imul dX7_signAt_57 ?_
              refine jw_iload_n dX7_signAt_58 rfl ?_
              refine jw_iadd dX7_signAt_59 ?_
              obtain ⟨v13, ev13, hq⟩ := Option.bind_eq_some_iff.mp hq
              refine jw_bald (o := v12) dX7_signAt_60 ev13 ?_
              cases hq
              exact jw_iret (ty := .int) dX7_signAt_61 rfl rfl
            · refine jw_icmp_lt_f (tgt := 48) dX7_signAt_43 (by decide) c11 ?_
              refine jw_iconst dX7_signAt_46 (v := (-1 : Int32)) (by decide) ?_
              cases hq
              exact jw_iret (ty := .int) dX7_signAt_47 rfl rfl
      · refine jw_icmp_le_f (tgt := 24) dX7_signAt_19 (by decide) c6 ?_
        refine jw_iconst dX7_signAt_22 (v := (-1 : Int32)) (by decide) ?_
        cases hq
        exact jw_iret (ty := .int) dX7_signAt_23 rfl rfl

theorem c_X7_signAt {h : jw_H} {x0 : Nat} {x1 : Int32} {x2 : Int32} {r : Int32} {h' : jw_H} (hq : f_X7_signAt h x0 x1 x2 = some (r, h')) : jw_Con (Cond.code yX7_signAt cX7_signAt 3 (some .int)) yX7_signAt 0 [.ref x0, .int x1, .int x2] h (.inl (some (.int r))) h' :=
  jw_con false (plainFor_of_name (by decide +kernel)) (fun z => nomatch z) (by simp [jw_ent, jw_sl0_nil, jw_sl0_int, jw_sl0_long, jw_sl0_ref, jw_sl0_rf, jw_sl0_scr, List.replicate]) (by simp [jw_sl0_nil, jw_sl0_int, jw_sl0_long, jw_sl0_ref, jw_sl0_rf, jw_sl0_scr]) (l_X7_signAt hq)


/-! X11_bitOf -/
noncomputable def g_X11_bitOf_b54 (h : jw_H) (t0 : Int64) : Option (Int64 × jw_H) :=
 some (t0, h)

noncomputable def g_X11_bitOf_b41 (h : jw_H) (x0 : Int32) : Option (Int64 × jw_H) :=
 if x0 = (32 : Int32) then (g_X11_bitOf_b54  h (68719476736 : Int64))
 else (g_X11_bitOf_b54  h (0 : Int64))

noncomputable def g_X11_bitOf_b19 (h : jw_H) (x0 : Int32) : Option (Int64 × jw_H) :=
 if x0 < (48 : Int32) then (g_X11_bitOf_b41  h x0)
 else (if (57 : Int32) < x0 then (g_X11_bitOf_b41  h x0)
 else (some (((1 : Int64) <<< (((x0 - (48 : Int32)) + (26 : Int32)).toInt64 &&& 63)), h)))

noncomputable def f_X11_bitOf (h : jw_H) (x0 : Int32) : Option (Int64 × jw_H) :=
 if x0 < (97 : Int32) then (g_X11_bitOf_b19  h x0)
 else (if (122 : Int32) < x0 then (g_X11_bitOf_b19  h x0)
 else (some (((1 : Int64) <<< ((x0 - (97 : Int32)).toInt64 &&& 63)), h)))

set_option maxRecDepth 100000 in
set_option maxHeartbeats 4000000 in
theorem l_X11_bitOf_b54 {hi : jw_H} {h : jw_H} {t0 : Int64} {r : Int64} {h' : jw_H} (hq : g_X11_bitOf_b54  h t0 = some (r, h')) : jw_E 0 uX11_bitOf hi 54 [none] [.long t0] h (.inl (some (.long r))) h' := by
  unfold g_X11_bitOf_b54 at hq
  cases hq
  exact jw_lret dX11_bitOf_54 rfl

set_option maxRecDepth 100000 in
set_option maxHeartbeats 4000000 in
theorem l_X11_bitOf_b41 {hi : jw_H} {h : jw_H} {x0 : Int32} {r : Int64} {h' : jw_H} (hq : g_X11_bitOf_b41  h x0 = some (r, h')) : jw_E 0 uX11_bitOf hi 41 [some (.int x0)] [] h (.inl (some (.long r))) h' := by
  unfold g_X11_bitOf_b41 at hq
  refine jw_iload_n dX11_bitOf_41 rfl ?_
  refine jw_bipush dX11_bitOf_42 (v := (32 : Int32)) (by decide) ?_
  rcases jw_if hq with ⟨c1, hq⟩ | ⟨c1, hq⟩
  · refine jw_icmp_ne_f (tgt := 53) dX11_bitOf_44 (by decide) c1 ?_
    refine jw_ldc2 dX11_bitOf_47 cw_X11_272 ?_
    refine jw_goto (tgt := 54) dX11_bitOf_50 (by decide) ?_
    refine jw_forget [false] (L' := [none]) rfl ?_
    exact l_X11_bitOf_b54  hq
  · refine jw_icmp_ne_t (tgt := 53) dX11_bitOf_44 (by decide) c1 ?_
    refine jw_lconst dX11_bitOf_53 (v := (0 : Int64)) (by decide) ?_
    refine jw_forget [false] (L' := [none]) rfl ?_
    exact l_X11_bitOf_b54  hq

set_option maxRecDepth 100000 in
set_option maxHeartbeats 4000000 in
theorem l_X11_bitOf_b19 {hi : jw_H} {h : jw_H} {x0 : Int32} {r : Int64} {h' : jw_H} (hq : g_X11_bitOf_b19  h x0 = some (r, h')) : jw_E 0 uX11_bitOf hi 19 [some (.int x0)] [] h (.inl (some (.long r))) h' := by
  unfold g_X11_bitOf_b19 at hq
  refine jw_iload_n dX11_bitOf_19 rfl ?_
  refine jw_bipush dX11_bitOf_20 (v := (48 : Int32)) (by decide) ?_
  rcases jw_if hq with ⟨c1, hq⟩ | ⟨c1, hq⟩
  · refine jw_icmp_lt_t (tgt := 41) dX11_bitOf_22 (by decide) c1 ?_
    exact l_X11_bitOf_b41  hq
  · refine jw_icmp_lt_f (tgt := 41) dX11_bitOf_22 (by decide) c1 ?_
    refine jw_iload_n dX11_bitOf_25 rfl ?_
    refine jw_bipush dX11_bitOf_26 (v := (57 : Int32)) (by decide) ?_
    rcases jw_if hq with ⟨c2, hq⟩ | ⟨c2, hq⟩
    · refine jw_icmp_gt_t (tgt := 41) dX11_bitOf_28 (by decide) c2 ?_
      exact l_X11_bitOf_b41  hq
    · refine jw_icmp_gt_f (tgt := 41) dX11_bitOf_28 (by decide) c2 ?_
      refine jw_lconst dX11_bitOf_31 (v := (1 : Int64)) (by decide) ?_
      refine jw_iload_n dX11_bitOf_32 rfl ?_
      refine jw_bipush dX11_bitOf_33 (v := (48 : Int32)) (by decide) ?_
      refine jw_isub dX11_bitOf_35 ?_
      refine jw_bipush dX11_bitOf_36 (v := (26 : Int32)) (by decide) ?_
      refine jw_iadd dX11_bitOf_38 ?_
      refine jw_lshl dX11_bitOf_39 ?_
      cases hq
      exact jw_lret dX11_bitOf_40 rfl

set_option maxRecDepth 100000 in
set_option maxHeartbeats 4000000 in
theorem l_X11_bitOf {hi : jw_H} {h : jw_H} {x0 : Int32} {r : Int64} {h' : jw_H} (hq : f_X11_bitOf  h x0 = some (r, h')) : jw_E 0 uX11_bitOf hi 0 [some (.int x0)] [] h (.inl (some (.long r))) h' := by
  unfold f_X11_bitOf at hq
  refine jw_iload_n dX11_bitOf_0 rfl ?_
  refine jw_bipush dX11_bitOf_1 (v := (97 : Int32)) (by decide) ?_
  rcases jw_if hq with ⟨c1, hq⟩ | ⟨c1, hq⟩
  · refine jw_icmp_lt_t (tgt := 19) dX11_bitOf_3 (by decide) c1 ?_
    exact l_X11_bitOf_b19  hq
  · refine jw_icmp_lt_f (tgt := 19) dX11_bitOf_3 (by decide) c1 ?_
    refine jw_iload_n dX11_bitOf_6 rfl ?_
    refine jw_bipush dX11_bitOf_7 (v := (122 : Int32)) (by decide) ?_
    rcases jw_if hq with ⟨c2, hq⟩ | ⟨c2, hq⟩
    · refine jw_icmp_gt_t (tgt := 19) dX11_bitOf_9 (by decide) c2 ?_
      exact l_X11_bitOf_b19  hq
    · refine jw_icmp_gt_f (tgt := 19) dX11_bitOf_9 (by decide) c2 ?_
      refine jw_lconst dX11_bitOf_12 (v := (1 : Int64)) (by decide) ?_
      refine jw_iload_n dX11_bitOf_13 rfl ?_
      refine jw_bipush dX11_bitOf_14 (v := (97 : Int32)) (by decide) ?_
      refine jw_isub dX11_bitOf_16 ?_
      refine jw_lshl dX11_bitOf_17 ?_
      cases hq
      exact jw_lret dX11_bitOf_18 rfl

theorem c_X11_bitOf {h : jw_H} {x0 : Int32} {r : Int64} {h' : jw_H} (hq : f_X11_bitOf h x0 = some (r, h')) : jw_Con (Cond.code yX11_bitOf cX11_bitOf 1 (some .long)) yX11_bitOf 0 [.int x0] h (.inl (some (.long r))) h' :=
  jw_con false (plainFor_of_name (by decide +kernel)) (fun z => nomatch z) (by simp [jw_ent, jw_sl0_nil, jw_sl0_int, jw_sl0_long, jw_sl0_ref, jw_sl0_rf, jw_sl0_scr, List.replicate]) (by simp [jw_sl0_nil, jw_sl0_int, jw_sl0_long, jw_sl0_ref, jw_sl0_rf, jw_sl0_scr]) (l_X11_bitOf hq)


/-! X4_load -/
noncomputable def g_X4_load_b19 (k19 : jw_H → Nat → Option Nat → Int32 → Int32 → Int32 → Option (Unit × jw_H)) (h : jw_H) (x0 : Nat) (x1 : Option Nat) (x2 : Int32) (x3 : Int32) (x4 : Int32) : Option (Unit × jw_H) :=
 if x3 ≤ x4 then (some ((), h))
 else ((jw_gR h 4 (some x0) 1).bind fun v2 =>
 (jw_ln h v2).bind fun v3 =>
 if v3 ≤ x4 then (some ((), h))
 else ((jw_gR h 4 (some x0) 2).bind fun v5 =>
 (jw_ln h v5).bind fun v6 =>
 if v6 ≤ x4 then (some ((), h))
 else ((jw_rc h 7 x1).bind fun a8 =>
 jw_b2 (f_X7_signAt h a8 x2 x4) fun w10 h9 =>
 (jw_gR h9 4 (some x0) 1).bind fun v11 =>
 (jw_si h9 21 v11 x4 (vp_nar .byte w10.toInt8.toInt32)).bind fun h12 =>
 (jw_gR h12 4 (some x0) 2).bind fun v13 =>
 jw_b2 (f_X11_bitOf h12 w10) fun w15 h14 =>
 (jw_sl h14 v13 x4 w15).bind fun h16 =>
 (jw_pI h16 4 (some x0) 5 (x4 + (1 : Int32))).bind fun h17 =>
 k19 h17 x0 x1 x2 x3 (x4 + (1 : Int32)))))

noncomputable def f_X4_load_b19 (n : Nat) : jw_H → Nat → Option Nat → Int32 → Int32 → Int32 → Option (Unit × jw_H) :=
 Nat.rec (fun _ _ _ _ _ _ => none) (fun _ k19 => g_X4_load_b19 k19) n

noncomputable def f_X4_load (h : jw_H) (x0 : Nat) (x1 : Option Nat) (x2 : Int32) : Option (Unit × jw_H) :=
 (jw_pI h 4 (some x0) 5 (0 : Int32)).bind fun h1 =>
 (jw_rc h1 7 x1).bind fun a2 =>
 jw_b2 (f_X7_lengthOf h1 a2 x2) fun w4 h3 =>
 jw_b2 (f_J9_min_7cf53 h3 w4 (30 : Int32)) fun w6 h5 =>
 f_X4_load_b19  jw_FU h5 x0 x1 x2 w6 (0 : Int32)

set_option maxRecDepth 100000 in
set_option maxHeartbeats 4000000 in
theorem l_X4_load_b19g {hi : jw_H} {k19 : jw_H → Nat → Option Nat → Int32 → Int32 → Int32 → Option (Unit × jw_H)} (hk19 : ∀ (h : jw_H) (x0 : Nat) (x1 : Option Nat) (x2 : Int32) (x3 : Int32) (x4 : Int32) (r : Unit) (h' : jw_H), k19 h x0 x1 x2 x3 x4 = some (r, h') → jw_E 1 uX4_load hi 19 [some (.ref x0), some (va_rf x1), some (.int x2), some (.int x3), some (.int x4), none] [] h (.inl none) h') {h : jw_H} {x0 : Nat} {x1 : Option Nat} {x2 : Int32} {x3 : Int32} {x4 : Int32} {r : Unit} {h' : jw_H} (hq : g_X4_load_b19 k19 h x0 x1 x2 x3 x4 = some (r, h')) : jw_E 1 uX4_load hi 19 [some (.ref x0), some (va_rf x1), some (.int x2), some (.int x3), some (.int x4), none] [] h (.inl none) h' := by
  unfold g_X4_load_b19 at hq
  refine jw_iload dX4_load_19 rfl ?_
  refine jw_iload_n dX4_load_21 rfl ?_
  rcases jw_if hq with ⟨c1, hq⟩ | ⟨c1, hq⟩
  · refine jw_icmp_ge_t (tgt := 90) dX4_load_22 (by decide) c1 ?_
    cases hq
    exact jw_vret dX4_load_90 rfl
  · refine jw_icmp_ge_f (tgt := 90) dX4_load_22 (by decide) c1 ?_
    refine jw_iload dX4_load_25 rfl ?_
    refine jw_aload_n dX4_load_27 (o := (some x0)) rfl ?_
    obtain ⟨v2, ev2, hq⟩ := Option.bind_eq_some_iff.mp hq
    refine jw_getR (o := (some x0)) dX4_load_28 ev2 fl_X4_15 rfl ?_
    obtain ⟨v3, ev3, hq⟩ := Option.bind_eq_some_iff.mp hq
    refine jw_alen (o := v2) dX4_load_31 ev3 ?_
    rcases jw_if hq with ⟨c4, hq⟩ | ⟨c4, hq⟩
    · refine jw_icmp_ge_t (tgt := 90) dX4_load_32 (by decide) c4 ?_
      cases hq
      exact jw_vret dX4_load_90 rfl
    · refine jw_icmp_ge_f (tgt := 90) dX4_load_32 (by decide) c4 ?_
      refine jw_iload dX4_load_35 rfl ?_
      refine jw_aload_n dX4_load_37 (o := (some x0)) rfl ?_
      obtain ⟨v5, ev5, hq⟩ := Option.bind_eq_some_iff.mp hq
      refine jw_getR (o := (some x0)) dX4_load_38 ev5 fl_X4_19 rfl ?_
      obtain ⟨v6, ev6, hq⟩ := Option.bind_eq_some_iff.mp hq
      refine jw_alen (o := v5) dX4_load_41 ev6 ?_
      rcases jw_if hq with ⟨c7, hq⟩ | ⟨c7, hq⟩
      · refine jw_icmp_ge_t (tgt := 90) dX4_load_42 (by decide) c7 ?_
        cases hq
        exact jw_vret dX4_load_90 rfl
      · refine jw_icmp_ge_f (tgt := 90) dX4_load_42 (by decide) c7 ?_
        refine jw_aload_n dX4_load_45 (o := x1) rfl ?_
        refine jw_iload_n dX4_load_46 rfl ?_
        refine jw_iload dX4_load_47 rfl ?_
        obtain ⟨a8, ea8, hq⟩ := Option.bind_eq_some_iff.mp hq
        obtain ⟨eoa8, eta8⟩ := jw_rc_spec ea8
        obtain ⟨w10, h9, ew10, hq⟩ := jw_b2_spec hq
        refine jw_callV (As := [.int x2, .int x4]) (S := []) (a := a8) (v := some (.int w10)) dX4_load_49 mt_X7_signAt in_X7_signAt se_X7_signAt lk_X4_46 (c_X7_signAt ew10) eta8 (by decide) rfl rfl (by decide) (Nat.le_of_ble_eq_true rfl) (by cases eoa8; rfl) ?_
        refine jw_istore (L' := [some (.ref x0), some (va_rf x1), some (.int x2), some (.int x3), some (.int x4), some (.int w10)]) dX4_load_52 (Nat.le_of_ble_eq_true rfl) rfl ?_
        refine jw_aload_n dX4_load_54 (o := (some x0)) rfl ?_
        obtain ⟨v11, ev11, hq⟩ := Option.bind_eq_some_iff.mp hq
        refine jw_getR (o := (some x0)) dX4_load_55 ev11 fl_X4_15 rfl ?_
        refine jw_iload dX4_load_58 rfl ?_
        refine jw_iload dX4_load_60 rfl ?_
        refine jw_i2b dX4_load_62 ?_
        obtain ⟨h12, eh12, hq⟩ := Option.bind_eq_some_iff.mp hq
        refine jw_bast (o := v11) rfl dX4_load_63 eh12 ?_
        refine jw_aload_n dX4_load_64 (o := (some x0)) rfl ?_
        obtain ⟨v13, ev13, hq⟩ := Option.bind_eq_some_iff.mp hq
        refine jw_getR (o := (some x0)) dX4_load_65 ev13 fl_X4_19 rfl ?_
        refine jw_iload dX4_load_68 rfl ?_
        refine jw_iload dX4_load_70 rfl ?_
        obtain ⟨w15, h14, ew15, hq⟩ := jw_b2_spec hq
        refine jw_callS (As := [.int w10]) (S := [.int x4, va_rf v13]) (v := some (.long w15)) dX4_load_72 mt_X11_bitOf st_X11_bitOf lk_X4_49 (c_X11_bitOf ew15) rfl (by decide) (by simp only [List.map_cons, List.map_nil, List.sum_cons, List.sum_nil, jw_cat_rf, jw_cat_i, jw_cat_l, jw_cat_a, jw_cat_s] <;> decide) rfl ?_
        obtain ⟨h16, eh16, hq⟩ := Option.bind_eq_some_iff.mp hq
        refine jw_last (o := v13) dX4_load_75 eh16 ?_
        refine jw_aload_n dX4_load_76 (o := (some x0)) rfl ?_
        refine jw_iload dX4_load_77 rfl ?_
        refine jw_iconst dX4_load_79 (v := (1 : Int32)) (by decide) ?_
        refine jw_iadd dX4_load_80 ?_
        obtain ⟨h17, eh17, hq⟩ := Option.bind_eq_some_iff.mp hq
        refine jw_putI (o := (some x0)) dX4_load_81 eh17 fl_X4_30 rfl rfl ?_
        refine jw_iinc (L' := [some (.ref x0), some (va_rf x1), some (.int x2), some (.int x3), some (.int (x4 + (1 : Int32))), some (.int w10)]) dX4_load_84 rfl (v := (1 : Int32)) (by decide) (Nat.le_of_ble_eq_true rfl) rfl ?_
        refine jw_goto (tgt := 19) dX4_load_87 (by decide) ?_
        refine jw_forget [true, true, true, true, true, false] (L' := [some (.ref x0), some (va_rf x1), some (.int x2), some (.int x3), some (.int (x4 + (1 : Int32))), none]) rfl ?_
        exact hk19 _ _ _ _ _ _ _ _ hq

theorem l_X4_load_b19 {hi : jw_H} : ∀ (n : Nat) (h : jw_H) (x0 : Nat) (x1 : Option Nat) (x2 : Int32) (x3 : Int32) (x4 : Int32) (r : Unit) (h' : jw_H), f_X4_load_b19  n h x0 x1 x2 x3 x4 = some (r, h') → jw_E 1 uX4_load hi 19 [some (.ref x0), some (va_rf x1), some (.int x2), some (.int x3), some (.int x4), none] [] h (.inl none) h' := by
  intro n
  induction n with
  | zero => intro h x0 x1 x2 x3 x4 r h' hq; exact nomatch hq
  | succ n ih => intro h x0 x1 x2 x3 x4 r h' hq; exact l_X4_load_b19g ih hq

set_option maxRecDepth 100000 in
set_option maxHeartbeats 4000000 in
theorem l_X4_load {hi : jw_H} {h : jw_H} {x0 : Nat} {x1 : Option Nat} {x2 : Int32} {r : Unit} {h' : jw_H} (hq : f_X4_load  h x0 x1 x2 = some (r, h')) : jw_E 1 uX4_load hi 0 [some (.ref x0), some (va_rf x1), some (.int x2), none, none, none] [] h (.inl none) h' := by
  unfold f_X4_load at hq
  refine jw_aload_n dX4_load_0 (o := (some x0)) rfl ?_
  refine jw_iconst dX4_load_1 (v := (0 : Int32)) (by decide) ?_
  obtain ⟨h1, eh1, hq⟩ := Option.bind_eq_some_iff.mp hq
  refine jw_putI (o := (some x0)) dX4_load_2 eh1 fl_X4_30 rfl rfl ?_
  refine jw_aload_n dX4_load_5 (o := x1) rfl ?_
  refine jw_iload_n dX4_load_6 rfl ?_
  obtain ⟨a2, ea2, hq⟩ := Option.bind_eq_some_iff.mp hq
  obtain ⟨eoa2, eta2⟩ := jw_rc_spec ea2
  obtain ⟨w4, h3, ew4, hq⟩ := jw_b2_spec hq
  refine jw_callV (As := [.int x2]) (S := []) (a := a2) (v := some (.int w4)) dX4_load_7 mt_X7_lengthOf in_X7_lengthOf se_X7_lengthOf lk_X4_34 (c_X7_lengthOf ew4) eta2 (by decide) rfl rfl (by decide) (Nat.le_of_ble_eq_true rfl) (by cases eoa2; rfl) ?_
  refine jw_bipush dX4_load_10 (v := (30 : Int32)) (by decide) ?_
  obtain ⟨w6, h5, ew6, hq⟩ := jw_b2_spec hq
  refine jw_callS (As := [.int w4, .int (30 : Int32)]) (S := []) (v := some (.int w6)) dX4_load_12 mt_J9_min_7cf53 st_J9_min_7cf53 lk_X4_40 (c_J9_min_7cf53 ew6) rfl (by decide) (Nat.le_of_ble_eq_true rfl) rfl ?_
  refine jw_istore_n (L' := [some (.ref x0), some (va_rf x1), some (.int x2), some (.int w6), none, none]) dX4_load_15 (Nat.le_of_ble_eq_true rfl) rfl ?_
  refine jw_iconst dX4_load_16 (v := (0 : Int32)) (by decide) ?_
  refine jw_istore (L' := [some (.ref x0), some (va_rf x1), some (.int x2), some (.int w6), some (.int (0 : Int32)), none]) dX4_load_17 (Nat.le_of_ble_eq_true rfl) rfl ?_
  exact l_X4_load_b19  jw_FU _ _ _ _ _ _ _ _ hq

theorem c_X4_load {h : jw_H} {x0 : Nat} {x1 : Option Nat} {x2 : Int32} {r : Unit} {h' : jw_H} (hq : f_X4_load h x0 x1 x2 = some (r, h')) : jw_Con (Cond.code yX4_load cX4_load 6 none) yX4_load 1 [.ref x0, va_rf x1, .int x2] h (.inl none) h' :=
  jw_con false (plainFor_of_name (by decide +kernel)) (fun z => nomatch z) (by simp [jw_ent, jw_sl0_nil, jw_sl0_int, jw_sl0_long, jw_sl0_ref, jw_sl0_rf, jw_sl0_scr, List.replicate]) (by simp [jw_sl0_nil, jw_sl0_int, jw_sl0_long, jw_sl0_ref, jw_sl0_rf, jw_sl0_scr]) (l_X4_load hq)


/-! X4_fits -/
noncomputable def g_X4_fits_b369 (ks : jw_H → Nat → Int32 → Int32 → Int32 → Option (Int32 × jw_H)) (k77 : jw_H → Nat → Int32 → Int32 → Int32 → Int32 → Option (Int32 × jw_H)) (h : jw_H) (x0 : Nat) (x3 : Int32) (x4 : Int32) (x5 : Int32) (x6 : Int32) : Option (Int32 × jw_H) :=
 k77 h x0 x3 x4 x5 (x6 + (1 : Int32))

noncomputable def g_X4_fits_b210 (ks : jw_H → Nat → Int32 → Int32 → Int32 → Option (Int32 × jw_H)) (k210 : jw_H → Nat → Int32 → Int32 → Int32 → Int32 → Option (Int32 × jw_H)) (h : jw_H) (x0 : Nat) (x3 : Int32) (x4 : Int32) (x6 : Int32) (x10 : Int32) : Option (Int32 × jw_H) :=
 if x10 < x4 then (some ((-1 : Int32), h))
 else ((jw_rc h 4 (some x0)).bind fun a2 =>
 jw_b2 (ks h a2 (x6 + (1 : Int32)) x10 (x3 + (1 : Int32))) fun w4 h3 =>
 if w4 = (-1 : Int32) then (k210 h3 x0 x3 x4 x6 (x10 + (-1 : Int32)))
 else (some (w4, h3)))

noncomputable def f_X4_fits_b210 (ks : jw_H → Nat → Int32 → Int32 → Int32 → Option (Int32 × jw_H)) (n : Nat) : jw_H → Nat → Int32 → Int32 → Int32 → Int32 → Option (Int32 × jw_H) :=
 Nat.rec (fun _ _ _ _ _ _ => none) (fun _ k210 => g_X4_fits_b210 ks k210) n

noncomputable def g_X4_fits_b282 (ks : jw_H → Nat → Int32 → Int32 → Int32 → Option (Int32 × jw_H)) (k77 : jw_H → Nat → Int32 → Int32 → Int32 → Int32 → Option (Int32 × jw_H)) (k282 : jw_H → Nat → Int32 → Int32 → Int32 → Int32 → Int32 → Int32 → Option (Int32 × jw_H)) (h : jw_H) (x0 : Nat) (x3 : Int32) (x4 : Int32) (x5 : Int32) (x6 : Int32) (x9 : Int32) (x10 : Int32) : Option (Int32 × jw_H) :=
 (jw_gR h 4 (some x0) 4).bind fun v1 =>
 (jw_ai h 20 v1 x9).bind fun v2 =>
 if v2 ≤ x10 then (g_X4_fits_b369 ks k77 h x0 x3 x4 x5 x6)
 else ((jw_gI h 4 (some x0) 5).bind fun v4 =>
 if v4 ≤ x4 then (some ((-1 : Int32), h))
 else (if x10 < 0 then (some ((-1 : Int32), h))
 else ((jw_gI h 4 (some x0) 5).bind fun v7 =>
 if v7 ≤ x10 then (some ((-1 : Int32), h))
 else ((jw_gR h 4 (some x0) 1).bind fun v9 =>
 (jw_ai h 21 v9 x10).bind fun v10 =>
 (jw_gR h 4 (some x0) 1).bind fun v11 =>
 (jw_ai h 21 v11 x4).bind fun v12 =>
 if v10 = v12 then (k282 h x0 x3 (x4 + (1 : Int32)) x5 x6 x9 (x10 + (1 : Int32)))
 else (some ((-1 : Int32), h))))))

noncomputable def f_X4_fits_b282 (ks : jw_H → Nat → Int32 → Int32 → Int32 → Option (Int32 × jw_H)) (k77 : jw_H → Nat → Int32 → Int32 → Int32 → Int32 → Option (Int32 × jw_H)) (n : Nat) : jw_H → Nat → Int32 → Int32 → Int32 → Int32 → Int32 → Int32 → Option (Int32 × jw_H) :=
 Nat.rec (fun _ _ _ _ _ _ _ _ => none) (fun _ k282 => g_X4_fits_b282 ks k77 k282) n

noncomputable def g_X4_fits_b119 (ks : jw_H → Nat → Int32 → Int32 → Int32 → Option (Int32 × jw_H)) (k77 : jw_H → Nat → Int32 → Int32 → Int32 → Int32 → Option (Int32 × jw_H)) (h : jw_H) (x0 : Nat) (x3 : Int32) (x4 : Int32) (x5 : Int32) (x6 : Int32) (x7 : Int64) (t0 : Int32) : Option (Int32 × jw_H) :=
 (jw_gR h 4 (some x0) 0).bind fun v1 =>
 (jw_gR h 6 v1 1).bind fun v2 =>
 (jw_ai h 20 v2 x6).bind fun v3 =>
 if v3 = (0 : Int32) then ((jw_gI h 4 (some x0) 5).bind fun v5 =>
 if v5 ≤ x4 then (some ((-1 : Int32), h))
 else ((jw_gR h 4 (some x0) 2).bind fun v7 =>
 (jw_al h v7 x4).bind fun v8 =>
 if (lg_cmp (v8 &&& x7) (0 : Int64)) = 0 then (some ((-1 : Int32), h))
 else (g_X4_fits_b369 ks k77 h x0 x3 (x4 + (1 : Int32)) x5 x6)))
 else (if v3 = (1 : Int32) then ((jw_gI h 4 (some x0) 5).bind fun v11 =>
 f_X4_fits_b210 ks jw_FU h x0 x3 x4 x6 v11)
 else (if v3 = (2 : Int32) then ((jw_gR h 4 (some x0) 3).bind fun v13 =>
 (jw_si h 20 v13 t0 x4).bind fun h14 =>
 g_X4_fits_b369 ks k77 h14 x0 x3 x4 x5 x6)
 else (if v3 = (3 : Int32) then ((jw_gR h 4 (some x0) 4).bind fun v16 =>
 (jw_si h 20 v16 t0 x4).bind fun h17 =>
 g_X4_fits_b369 ks k77 h17 x0 x3 x4 x5 x6)
 else (if v3 = (4 : Int32) then ((jw_gR h 4 (some x0) 3).bind fun v19 =>
 (jw_ai h 20 v19 t0).bind fun v20 =>
 f_X4_fits_b282 ks k77 jw_FU h x0 x3 x4 x5 x6 t0 v20)
 else (if v3 = (5 : Int32) then (if x4 = 0 then (g_X4_fits_b369 ks k77 h x0 x3 x4 x5 x6)
 else (some ((-1 : Int32), h)))
 else (if v3 = (6 : Int32) then ((jw_gI h 4 (some x0) 5).bind fun v24 =>
 if x4 = v24 then (g_X4_fits_b369 ks k77 h x0 x3 x4 x5 x6)
 else (some ((-1 : Int32), h)))
 else (some (x4, h))))))))

noncomputable def g_X4_fits_b118 (ks : jw_H → Nat → Int32 → Int32 → Int32 → Option (Int32 × jw_H)) (k77 : jw_H → Nat → Int32 → Int32 → Int32 → Int32 → Option (Int32 × jw_H)) (h : jw_H) (x0 : Nat) (x3 : Int32) (x4 : Int32) (x5 : Int32) (x6 : Int32) (x7 : Int64) : Option (Int32 × jw_H) :=
 g_X4_fits_b119 ks k77 h x0 x3 x4 x5 x6 x7 (0 : Int32)

noncomputable def g_X4_fits_b77 (ks : jw_H → Nat → Int32 → Int32 → Int32 → Option (Int32 × jw_H)) (k77 : jw_H → Nat → Int32 → Int32 → Int32 → Int32 → Option (Int32 × jw_H)) (h : jw_H) (x0 : Nat) (x3 : Int32) (x4 : Int32) (x5 : Int32) (x6 : Int32) : Option (Int32 × jw_H) :=
 if x5 ≤ x6 then (some ((-1 : Int32), h))
 else ((jw_gR h 4 (some x0) 0).bind fun v2 =>
 (jw_gR h 6 v2 2).bind fun v3 =>
 (jw_al h v3 x6).bind fun v4 =>
 if (lg_cmp v4 (1 : Int64)) < 0 then (g_X4_fits_b118 ks k77 h x0 x3 x4 x5 x6 v4)
 else (if 0 < (lg_cmp v4 (2 : Int64)) then (g_X4_fits_b118 ks k77 h x0 x3 x4 x5 x6 v4)
 else (g_X4_fits_b119 ks k77 h x0 x3 x4 x5 x6 v4 v4.toInt32)))

noncomputable def f_X4_fits_b77 (ks : jw_H → Nat → Int32 → Int32 → Int32 → Option (Int32 × jw_H)) (n : Nat) : jw_H → Nat → Int32 → Int32 → Int32 → Int32 → Option (Int32 × jw_H) :=
 Nat.rec (fun _ _ _ _ _ _ => none) (fun _ k77 => g_X4_fits_b77 ks k77) n

noncomputable def g_X4_fits (ks : jw_H → Nat → Int32 → Int32 → Int32 → Option (Int32 × jw_H)) (h : jw_H) (x0 : Nat) (x1 : Int32) (x2 : Int32) (x3 : Int32) : Option (Int32 × jw_H) :=
 if (2 : Int32) < x3 then (some ((-1 : Int32), h))
 else (if x1 < 0 then (some ((-1 : Int32), h))
 else (if x2 < 0 then (some ((-1 : Int32), h))
 else ((jw_gI h 4 (some x0) 5).bind fun v4 =>
 (jw_gR h 4 (some x0) 1).bind fun v5 =>
 (jw_ln h v5).bind fun v6 =>
 if v6 < v4 then (some ((-1 : Int32), h))
 else ((jw_gI h 4 (some x0) 5).bind fun v8 =>
 (jw_gR h 4 (some x0) 2).bind fun v9 =>
 (jw_ln h v9).bind fun v10 =>
 if v8 ≤ v10 then ((jw_gR h 4 (some x0) 0).bind fun v12 =>
 (jw_gI h 6 v12 7).bind fun v13 =>
 (jw_gR h 4 (some x0) 0).bind fun v14 =>
 (jw_gR h 6 v14 1).bind fun v15 =>
 (jw_ln h v15).bind fun v16 =>
 (jw_gR h 4 (some x0) 0).bind fun v17 =>
 (jw_gR h 6 v17 2).bind fun v18 =>
 (jw_ln h v18).bind fun v19 =>
 jw_b2 (f_J9_min_7cf53 h v16 v19) fun w21 h20 =>
 jw_b2 (f_J9_min_7cf53 h20 v13 w21) fun w23 h22 =>
 f_X4_fits_b77 ks jw_FU h22 x0 x3 x2 w23 x1)
 else (some ((-1 : Int32), h))))))

noncomputable def f_X4_fits (n : Nat) : jw_H → Nat → Int32 → Int32 → Int32 → Option (Int32 × jw_H) :=
 Nat.rec (fun _ _ _ _ _ => none) (fun _ ks => g_X4_fits ks) n

set_option maxRecDepth 100000 in
set_option maxHeartbeats 4000000 in
theorem l_X4_fits_b369 {d : Nat} {ks : jw_H → Nat → Int32 → Int32 → Int32 → Option (Int32 × jw_H)} (hks : ∀ {h x0 x1 x2 x3 r h'}, ks h x0 x1 x2 x3 = some (r, h') → jw_Con (Cond.code yX4_fits cX4_fits 12 (some .int)) yX4_fits d [.ref x0, .int x1, .int x2, .int x3] h (.inl (some (.int r))) h') {hi : jw_H} {k77 : jw_H → Nat → Int32 → Int32 → Int32 → Int32 → Option (Int32 × jw_H)} (hk77 : ∀ (h : jw_H) (x0 : Nat) (x3 : Int32) (x4 : Int32) (x5 : Int32) (x6 : Int32) (r : Int32) (h' : jw_H), k77 h x0 x3 x4 x5 x6 = some (r, h') → jw_E (d + 1) uX4_fits hi 77 [some (.ref x0), none, none, some (.int x3), some (.int x4), some (.int x5), some (.int x6), none, none, none, none, none] [] h (.inl (some (.int r))) h') {h : jw_H} {x0 : Nat} {x3 : Int32} {x4 : Int32} {x5 : Int32} {x6 : Int32} {r : Int32} {h' : jw_H} (hq : g_X4_fits_b369 ks k77 h x0 x3 x4 x5 x6 = some (r, h')) : jw_E (d + 1) uX4_fits hi 369 [some (.ref x0), none, none, some (.int x3), some (.int x4), some (.int x5), some (.int x6), none, none, none, none, none] [] h (.inl (some (.int r))) h' := by
  unfold g_X4_fits_b369 at hq
  refine jw_iinc (L' := [some (.ref x0), none, none, some (.int x3), some (.int x4), some (.int x5), some (.int (x6 + (1 : Int32))), none, none, none, none, none]) dX4_fits_369 rfl (v := (1 : Int32)) (by decide) (Nat.le_of_ble_eq_true rfl) rfl ?_
  refine jw_goto (tgt := 77) dX4_fits_372 (by decide) ?_
  exact hk77 _ _ _ _ _ _ _ _ hq

set_option maxRecDepth 100000 in
set_option maxHeartbeats 4000000 in
theorem l_X4_fits_b210g {d : Nat} {ks : jw_H → Nat → Int32 → Int32 → Int32 → Option (Int32 × jw_H)} (hks : ∀ {h x0 x1 x2 x3 r h'}, ks h x0 x1 x2 x3 = some (r, h') → jw_Con (Cond.code yX4_fits cX4_fits 12 (some .int)) yX4_fits d [.ref x0, .int x1, .int x2, .int x3] h (.inl (some (.int r))) h') {hi : jw_H} {k210 : jw_H → Nat → Int32 → Int32 → Int32 → Int32 → Option (Int32 × jw_H)} (hk210 : ∀ (h : jw_H) (x0 : Nat) (x3 : Int32) (x4 : Int32) (x6 : Int32) (x10 : Int32) (r : Int32) (h' : jw_H), k210 h x0 x3 x4 x6 x10 = some (r, h') → jw_E (d + 1) uX4_fits hi 210 [some (.ref x0), none, none, some (.int x3), some (.int x4), none, some (.int x6), none, none, none, some (.int x10), none] [] h (.inl (some (.int r))) h') {h : jw_H} {x0 : Nat} {x3 : Int32} {x4 : Int32} {x6 : Int32} {x10 : Int32} {r : Int32} {h' : jw_H} (hq : g_X4_fits_b210 ks k210 h x0 x3 x4 x6 x10 = some (r, h')) : jw_E (d + 1) uX4_fits hi 210 [some (.ref x0), none, none, some (.int x3), some (.int x4), none, some (.int x6), none, none, none, some (.int x10), none] [] h (.inl (some (.int r))) h' := by
  unfold g_X4_fits_b210 at hq
  refine jw_iload dX4_fits_210 rfl ?_
  refine jw_iload dX4_fits_212 rfl ?_
  rcases jw_if hq with ⟨c1, hq⟩ | ⟨c1, hq⟩
  · refine jw_icmp_lt_t (tgt := 247) dX4_fits_214 (by decide) c1 ?_
    refine jw_iconst dX4_fits_247 (v := (-1 : Int32)) (by decide) ?_
    cases hq
    exact jw_iret (ty := .int) dX4_fits_248 rfl rfl
  · refine jw_icmp_lt_f (tgt := 247) dX4_fits_214 (by decide) c1 ?_
    refine jw_aload_n dX4_fits_217 (o := (some x0)) rfl ?_
    refine jw_iload dX4_fits_218 rfl ?_
    refine jw_iconst dX4_fits_220 (v := (1 : Int32)) (by decide) ?_
    refine jw_iadd dX4_fits_221 ?_
    refine jw_iload dX4_fits_222 rfl ?_
    refine jw_iload_n dX4_fits_224 rfl ?_
    refine jw_iconst dX4_fits_225 (v := (1 : Int32)) (by decide) ?_
    refine jw_iadd dX4_fits_226 ?_
    obtain ⟨a2, ea2, hq⟩ := Option.bind_eq_some_iff.mp hq
    obtain ⟨eoa2, eta2⟩ := jw_rc_spec ea2
    obtain ⟨w4, h3, ew4, hq⟩ := jw_b2_spec hq
    refine jw_callV (As := [.int (x6 + (1 : Int32)), .int x10, .int (x3 + (1 : Int32))]) (S := []) (a := a2) (v := some (.int w4)) dX4_fits_227 mt_X4_fits in_X4_fits se_X4_fits lk_X4_61 (hks ew4) eta2 (by decide) rfl rfl (by omega) (Nat.le_of_ble_eq_true rfl) (by cases eoa2; rfl) ?_
    refine jw_istore (L' := [some (.ref x0), none, none, some (.int x3), some (.int x4), none, some (.int x6), none, none, none, some (.int x10), some (.int w4)]) dX4_fits_230 (Nat.le_of_ble_eq_true rfl) rfl ?_
    refine jw_iload dX4_fits_232 rfl ?_
    refine jw_iconst dX4_fits_234 (v := (-1 : Int32)) (by decide) ?_
    rcases jw_if hq with ⟨c5, hq⟩ | ⟨c5, hq⟩
    · refine jw_icmp_eq_t (tgt := 241) dX4_fits_235 (by decide) c5 ?_
      refine jw_iinc (L' := [some (.ref x0), none, none, some (.int x3), some (.int x4), none, some (.int x6), none, none, none, some (.int (x10 + (-1 : Int32))), some (.int w4)]) dX4_fits_241 rfl (v := (-1 : Int32)) (by decide) (Nat.le_of_ble_eq_true rfl) rfl ?_
      refine jw_goto (tgt := 210) dX4_fits_244 (by decide) ?_
      refine jw_forget [true, true, true, true, true, true, true, true, true, true, true, false] (L' := [some (.ref x0), none, none, some (.int x3), some (.int x4), none, some (.int x6), none, none, none, some (.int (x10 + (-1 : Int32))), none]) rfl ?_
      exact hk210 _ _ _ _ _ _ _ _ hq
    · refine jw_icmp_eq_f (tgt := 241) dX4_fits_235 (by decide) c5 ?_
      refine jw_iload dX4_fits_238 rfl ?_
      cases hq
      exact jw_iret (ty := .int) dX4_fits_240 rfl rfl

theorem l_X4_fits_b210 {d : Nat} {ks : jw_H → Nat → Int32 → Int32 → Int32 → Option (Int32 × jw_H)} (hks : ∀ {h x0 x1 x2 x3 r h'}, ks h x0 x1 x2 x3 = some (r, h') → jw_Con (Cond.code yX4_fits cX4_fits 12 (some .int)) yX4_fits d [.ref x0, .int x1, .int x2, .int x3] h (.inl (some (.int r))) h') {hi : jw_H} : ∀ (n : Nat) (h : jw_H) (x0 : Nat) (x3 : Int32) (x4 : Int32) (x6 : Int32) (x10 : Int32) (r : Int32) (h' : jw_H), f_X4_fits_b210 ks n h x0 x3 x4 x6 x10 = some (r, h') → jw_E (d + 1) uX4_fits hi 210 [some (.ref x0), none, none, some (.int x3), some (.int x4), none, some (.int x6), none, none, none, some (.int x10), none] [] h (.inl (some (.int r))) h' := by
  intro n
  induction n with
  | zero => intro h x0 x3 x4 x6 x10 r h' hq; exact nomatch hq
  | succ n ih => intro h x0 x3 x4 x6 x10 r h' hq; exact l_X4_fits_b210g hks ih hq

set_option maxRecDepth 100000 in
set_option maxHeartbeats 4000000 in
theorem l_X4_fits_b282g {d : Nat} {ks : jw_H → Nat → Int32 → Int32 → Int32 → Option (Int32 × jw_H)} (hks : ∀ {h x0 x1 x2 x3 r h'}, ks h x0 x1 x2 x3 = some (r, h') → jw_Con (Cond.code yX4_fits cX4_fits 12 (some .int)) yX4_fits d [.ref x0, .int x1, .int x2, .int x3] h (.inl (some (.int r))) h') {hi : jw_H} {k77 : jw_H → Nat → Int32 → Int32 → Int32 → Int32 → Option (Int32 × jw_H)} (hk77 : ∀ (h : jw_H) (x0 : Nat) (x3 : Int32) (x4 : Int32) (x5 : Int32) (x6 : Int32) (r : Int32) (h' : jw_H), k77 h x0 x3 x4 x5 x6 = some (r, h') → jw_E (d + 1) uX4_fits hi 77 [some (.ref x0), none, none, some (.int x3), some (.int x4), some (.int x5), some (.int x6), none, none, none, none, none] [] h (.inl (some (.int r))) h') {k282 : jw_H → Nat → Int32 → Int32 → Int32 → Int32 → Int32 → Int32 → Option (Int32 × jw_H)} (hk282 : ∀ (h : jw_H) (x0 : Nat) (x3 : Int32) (x4 : Int32) (x5 : Int32) (x6 : Int32) (x9 : Int32) (x10 : Int32) (r : Int32) (h' : jw_H), k282 h x0 x3 x4 x5 x6 x9 x10 = some (r, h') → jw_E (d + 1) uX4_fits hi 282 [some (.ref x0), none, none, some (.int x3), some (.int x4), some (.int x5), some (.int x6), none, none, some (.int x9), some (.int x10), none] [] h (.inl (some (.int r))) h') {h : jw_H} {x0 : Nat} {x3 : Int32} {x4 : Int32} {x5 : Int32} {x6 : Int32} {x9 : Int32} {x10 : Int32} {r : Int32} {h' : jw_H} (hq : g_X4_fits_b282 ks k77 k282 h x0 x3 x4 x5 x6 x9 x10 = some (r, h')) : jw_E (d + 1) uX4_fits hi 282 [some (.ref x0), none, none, some (.int x3), some (.int x4), some (.int x5), some (.int x6), none, none, some (.int x9), some (.int x10), none] [] h (.inl (some (.int r))) h' := by
  unfold g_X4_fits_b282 at hq
  refine jw_iload dX4_fits_282 rfl ?_
  refine jw_aload_n dX4_fits_284 (o := (some x0)) rfl ?_
  obtain ⟨v1, ev1, hq⟩ := Option.bind_eq_some_iff.mp hq
  refine jw_getR (o := (some x0)) dX4_fits_285 ev1 fl_X4_27 rfl ?_
  refine jw_iload dX4_fits_288 rfl ?_
  obtain ⟨v2, ev2, hq⟩ := Option.bind_eq_some_iff.mp hq
  refine jw_iald (o := v1) dX4_fits_290 ev2 ?_
  rcases jw_if hq with ⟨c3, hq⟩ | ⟨c3, hq⟩
  · refine jw_icmp_ge_t (tgt := 345) dX4_fits_291 (by decide) c3 ?_
    refine jw_goto (tgt := 369) dX4_fits_345 (by decide) ?_
    refine jw_forget [true, true, true, true, true, true, true, true, true, false, false, true] (L' := [some (.ref x0), none, none, some (.int x3), some (.int x4), some (.int x5), some (.int x6), none, none, none, none, none]) rfl ?_
    exact l_X4_fits_b369 hks hk77 hq
  · refine jw_icmp_ge_f (tgt := 345) dX4_fits_291 (by decide) c3 ?_
    refine jw_iload dX4_fits_294 rfl ?_
    refine jw_aload_n dX4_fits_296 (o := (some x0)) rfl ?_
    obtain ⟨v4, ev4, hq⟩ := Option.bind_eq_some_iff.mp hq
    refine jw_getI (o := (some x0)) dX4_fits_297 ev4 fl_X4_30 rfl ?_
    rcases jw_if hq with ⟨c5, hq⟩ | ⟨c5, hq⟩
    · refine jw_icmp_ge_t (tgt := 334) dX4_fits_300 (by decide) c5 ?_
      refine jw_iconst dX4_fits_334 (v := (-1 : Int32)) (by decide) ?_
      cases hq
      exact jw_iret (ty := .int) dX4_fits_335 rfl rfl
    · refine jw_icmp_ge_f (tgt := 334) dX4_fits_300 (by decide) c5 ?_
      refine jw_iload dX4_fits_303 rfl ?_
      rcases jw_if hq with ⟨c6, hq⟩ | ⟨c6, hq⟩
      · refine jw_if_lt_t (tgt := 334) dX4_fits_305 (by decide) c6 ?_
        refine jw_iconst dX4_fits_334 (v := (-1 : Int32)) (by decide) ?_
        cases hq
        exact jw_iret (ty := .int) dX4_fits_335 rfl rfl
      · refine jw_if_lt_f (tgt := 334) dX4_fits_305 (by decide) c6 ?_
        refine jw_iload dX4_fits_308 rfl ?_
        refine jw_aload_n dX4_fits_310 (o := (some x0)) rfl ?_
        obtain ⟨v7, ev7, hq⟩ := Option.bind_eq_some_iff.mp hq
        refine jw_getI (o := (some x0)) dX4_fits_311 ev7 fl_X4_30 rfl ?_
        rcases jw_if hq with ⟨c8, hq⟩ | ⟨c8, hq⟩
        · refine jw_icmp_ge_t (tgt := 334) dX4_fits_314 (by decide) c8 ?_
          refine jw_iconst dX4_fits_334 (v := (-1 : Int32)) (by decide) ?_
          cases hq
          exact jw_iret (ty := .int) dX4_fits_335 rfl rfl
        · refine jw_icmp_ge_f (tgt := 334) dX4_fits_314 (by decide) c8 ?_
          refine jw_aload_n dX4_fits_317 (o := (some x0)) rfl ?_
          obtain ⟨v9, ev9, hq⟩ := Option.bind_eq_some_iff.mp hq
          refine jw_getR (o := (some x0)) dX4_fits_318 ev9 fl_X4_15 rfl ?_
          refine jw_iload dX4_fits_321 rfl ?_
          obtain ⟨v10, ev10, hq⟩ := Option.bind_eq_some_iff.mp hq
          refine jw_bald (o := v9) dX4_fits_323 ev10 ?_
          refine jw_aload_n dX4_fits_324 (o := (some x0)) rfl ?_
          obtain ⟨v11, ev11, hq⟩ := Option.bind_eq_some_iff.mp hq
          refine jw_getR (o := (some x0)) dX4_fits_325 ev11 fl_X4_15 rfl ?_
          refine jw_iload dX4_fits_328 rfl ?_
          obtain ⟨v12, ev12, hq⟩ := Option.bind_eq_some_iff.mp hq
          refine jw_bald (o := v11) dX4_fits_330 ev12 ?_
          rcases jw_if hq with ⟨c13, hq⟩ | ⟨c13, hq⟩
          · refine jw_icmp_eq_t (tgt := 336) dX4_fits_331 (by decide) c13 ?_
            refine jw_iinc (L' := [some (.ref x0), none, none, some (.int x3), some (.int (x4 + (1 : Int32))), some (.int x5), some (.int x6), none, none, some (.int x9), some (.int x10), none]) dX4_fits_336 rfl (v := (1 : Int32)) (by decide) (Nat.le_of_ble_eq_true rfl) rfl ?_
            refine jw_iinc (L' := [some (.ref x0), none, none, some (.int x3), some (.int (x4 + (1 : Int32))), some (.int x5), some (.int x6), none, none, some (.int x9), some (.int (x10 + (1 : Int32))), none]) dX4_fits_339 rfl (v := (1 : Int32)) (by decide) (Nat.le_of_ble_eq_true rfl) rfl ?_
            refine jw_goto (tgt := 282) dX4_fits_342 (by decide) ?_
            exact hk282 _ _ _ _ _ _ _ _ _ _ hq
          · refine jw_icmp_eq_f (tgt := 336) dX4_fits_331 (by decide) c13 ?_
            refine jw_iconst dX4_fits_334 (v := (-1 : Int32)) (by decide) ?_
            cases hq
            exact jw_iret (ty := .int) dX4_fits_335 rfl rfl

theorem l_X4_fits_b282 {d : Nat} {ks : jw_H → Nat → Int32 → Int32 → Int32 → Option (Int32 × jw_H)} (hks : ∀ {h x0 x1 x2 x3 r h'}, ks h x0 x1 x2 x3 = some (r, h') → jw_Con (Cond.code yX4_fits cX4_fits 12 (some .int)) yX4_fits d [.ref x0, .int x1, .int x2, .int x3] h (.inl (some (.int r))) h') {hi : jw_H} {k77 : jw_H → Nat → Int32 → Int32 → Int32 → Int32 → Option (Int32 × jw_H)} (hk77 : ∀ (h : jw_H) (x0 : Nat) (x3 : Int32) (x4 : Int32) (x5 : Int32) (x6 : Int32) (r : Int32) (h' : jw_H), k77 h x0 x3 x4 x5 x6 = some (r, h') → jw_E (d + 1) uX4_fits hi 77 [some (.ref x0), none, none, some (.int x3), some (.int x4), some (.int x5), some (.int x6), none, none, none, none, none] [] h (.inl (some (.int r))) h') : ∀ (n : Nat) (h : jw_H) (x0 : Nat) (x3 : Int32) (x4 : Int32) (x5 : Int32) (x6 : Int32) (x9 : Int32) (x10 : Int32) (r : Int32) (h' : jw_H), f_X4_fits_b282 ks k77 n h x0 x3 x4 x5 x6 x9 x10 = some (r, h') → jw_E (d + 1) uX4_fits hi 282 [some (.ref x0), none, none, some (.int x3), some (.int x4), some (.int x5), some (.int x6), none, none, some (.int x9), some (.int x10), none] [] h (.inl (some (.int r))) h' := by
  intro n
  induction n with
  | zero => intro h x0 x3 x4 x5 x6 x9 x10 r h' hq; exact nomatch hq
  | succ n ih => intro h x0 x3 x4 x5 x6 x9 x10 r h' hq; exact l_X4_fits_b282g hks hk77 ih hq

set_option maxRecDepth 100000 in
set_option maxHeartbeats 4000000 in
theorem l_X4_fits_b119 {d : Nat} {ks : jw_H → Nat → Int32 → Int32 → Int32 → Option (Int32 × jw_H)} (hks : ∀ {h x0 x1 x2 x3 r h'}, ks h x0 x1 x2 x3 = some (r, h') → jw_Con (Cond.code yX4_fits cX4_fits 12 (some .int)) yX4_fits d [.ref x0, .int x1, .int x2, .int x3] h (.inl (some (.int r))) h') {hi : jw_H} {k77 : jw_H → Nat → Int32 → Int32 → Int32 → Int32 → Option (Int32 × jw_H)} (hk77 : ∀ (h : jw_H) (x0 : Nat) (x3 : Int32) (x4 : Int32) (x5 : Int32) (x6 : Int32) (r : Int32) (h' : jw_H), k77 h x0 x3 x4 x5 x6 = some (r, h') → jw_E (d + 1) uX4_fits hi 77 [some (.ref x0), none, none, some (.int x3), some (.int x4), some (.int x5), some (.int x6), none, none, none, none, none] [] h (.inl (some (.int r))) h') {h : jw_H} {x0 : Nat} {x3 : Int32} {x4 : Int32} {x5 : Int32} {x6 : Int32} {x7 : Int64} {t0 : Int32} {r : Int32} {h' : jw_H} (hq : g_X4_fits_b119 ks k77 h x0 x3 x4 x5 x6 x7 t0 = some (r, h')) : jw_E (d + 1) uX4_fits hi 119 [some (.ref x0), none, none, some (.int x3), some (.int x4), some (.int x5), some (.int x6), some (.long x7), none, none, none, none] [.int t0] h (.inl (some (.int r))) h' := by
  unfold g_X4_fits_b119 at hq
  refine jw_istore (L' := [some (.ref x0), none, none, some (.int x3), some (.int x4), some (.int x5), some (.int x6), some (.long x7), none, some (.int t0), none, none]) dX4_fits_119 (Nat.le_of_ble_eq_true rfl) rfl ?_
  refine jw_aload_n dX4_fits_121 (o := (some x0)) rfl ?_
  obtain ⟨v1, ev1, hq⟩ := Option.bind_eq_some_iff.mp hq
  refine jw_getR (o := (some x0)) dX4_fits_122 ev1 fl_X4_9 rfl ?_
  obtain ⟨v2, ev2, hq⟩ := Option.bind_eq_some_iff.mp hq
  refine jw_getR (o := v1) dX4_fits_125 ev2 fl_X4_76 rfl ?_
  refine jw_iload dX4_fits_128 rfl ?_
  obtain ⟨v3, ev3, hq⟩ := Option.bind_eq_some_iff.mp hq
  refine jw_iald (o := v2) dX4_fits_130 ev3 ?_
  rcases jw_if hq with ⟨c4, hq⟩ | ⟨c4, hq⟩
  · refine jw_tableIn (tgt := 172) (off := 41) dX4_fits_131 (by rw [c4]; decide) (by rw [c4]; decide) (by rw [c4]; rfl) (by decide) ?_
    refine jw_iload dX4_fits_172 rfl ?_
    refine jw_aload_n dX4_fits_174 (o := (some x0)) rfl ?_
    obtain ⟨v5, ev5, hq⟩ := Option.bind_eq_some_iff.mp hq
    refine jw_getI (o := (some x0)) dX4_fits_175 ev5 fl_X4_30 rfl ?_
    rcases jw_if hq with ⟨c6, hq⟩ | ⟨c6, hq⟩
    · refine jw_icmp_ge_t (tgt := 196) dX4_fits_178 (by decide) c6 ?_
      refine jw_iconst dX4_fits_196 (v := (-1 : Int32)) (by decide) ?_
      cases hq
      exact jw_iret (ty := .int) dX4_fits_197 rfl rfl
    · refine jw_icmp_ge_f (tgt := 196) dX4_fits_178 (by decide) c6 ?_
      refine jw_aload_n dX4_fits_181 (o := (some x0)) rfl ?_
      obtain ⟨v7, ev7, hq⟩ := Option.bind_eq_some_iff.mp hq
      refine jw_getR (o := (some x0)) dX4_fits_182 ev7 fl_X4_19 rfl ?_
      refine jw_iload dX4_fits_185 rfl ?_
      obtain ⟨v8, ev8, hq⟩ := Option.bind_eq_some_iff.mp hq
      refine jw_lald (o := v7) dX4_fits_187 ev8 ?_
      refine jw_lload dX4_fits_188 rfl ?_
      refine jw_land dX4_fits_190 ?_
      refine jw_lconst dX4_fits_191 (v := (0 : Int64)) (by decide) ?_
      refine jw_lcmp dX4_fits_192 ?_
      rcases jw_if hq with ⟨c9, hq⟩ | ⟨c9, hq⟩
      · refine jw_if_ne_f (tgt := 198) dX4_fits_193 (by decide) c9 ?_
        refine jw_iconst dX4_fits_196 (v := (-1 : Int32)) (by decide) ?_
        cases hq
        exact jw_iret (ty := .int) dX4_fits_197 rfl rfl
      · refine jw_if_ne_t (tgt := 198) dX4_fits_193 (by decide) c9 ?_
        refine jw_iinc (L' := [some (.ref x0), none, none, some (.int x3), some (.int (x4 + (1 : Int32))), some (.int x5), some (.int x6), some (.long x7), none, some (.int t0), none, none]) dX4_fits_198 rfl (v := (1 : Int32)) (by decide) (Nat.le_of_ble_eq_true rfl) rfl ?_
        refine jw_goto (tgt := 369) dX4_fits_201 (by decide) ?_
        refine jw_forget [true, true, true, true, true, true, true, false, true, false, true, true] (L' := [some (.ref x0), none, none, some (.int x3), some (.int (x4 + (1 : Int32))), some (.int x5), some (.int x6), none, none, none, none, none]) rfl ?_
        exact l_X4_fits_b369 hks hk77 hq
  · rcases jw_if hq with ⟨c10, hq⟩ | ⟨c10, hq⟩
    · refine jw_tableIn (tgt := 204) (off := 73) dX4_fits_131 (by rw [c10]; decide) (by rw [c10]; decide) (by rw [c10]; rfl) (by decide) ?_
      refine jw_aload_n dX4_fits_204 (o := (some x0)) rfl ?_
      obtain ⟨v11, ev11, hq⟩ := Option.bind_eq_some_iff.mp hq
      refine jw_getI (o := (some x0)) dX4_fits_205 ev11 fl_X4_30 rfl ?_
      refine jw_istore (L' := [some (.ref x0), none, none, some (.int x3), some (.int x4), some (.int x5), some (.int x6), some (.long x7), none, some (.int t0), some (.int v11), none]) dX4_fits_208 (Nat.le_of_ble_eq_true rfl) rfl ?_
      refine jw_forget [true, true, true, true, true, false, true, false, true, false, true, true] (L' := [some (.ref x0), none, none, some (.int x3), some (.int x4), none, some (.int x6), none, none, none, some (.int v11), none]) rfl ?_
      exact l_X4_fits_b210 hks jw_FU _ _ _ _ _ _ _ _ hq
    · rcases jw_if hq with ⟨c12, hq⟩ | ⟨c12, hq⟩
      · refine jw_tableIn (tgt := 249) (off := 118) dX4_fits_131 (by rw [c12]; decide) (by rw [c12]; decide) (by rw [c12]; rfl) (by decide) ?_
        refine jw_aload_n dX4_fits_249 (o := (some x0)) rfl ?_
        obtain ⟨v13, ev13, hq⟩ := Option.bind_eq_some_iff.mp hq
        refine jw_getR (o := (some x0)) dX4_fits_250 ev13 fl_X4_23 rfl ?_
        refine jw_iload dX4_fits_253 rfl ?_
        refine jw_iload dX4_fits_255 rfl ?_
        obtain ⟨h14, eh14, hq⟩ := Option.bind_eq_some_iff.mp hq
        refine jw_iast (o := v13) dX4_fits_257 eh14 ?_
        refine jw_goto (tgt := 369) dX4_fits_258 (by decide) ?_
        refine jw_forget [true, true, true, true, true, true, true, false, true, false, true, true] (L' := [some (.ref x0), none, none, some (.int x3), some (.int x4), some (.int x5), some (.int x6), none, none, none, none, none]) rfl ?_
        exact l_X4_fits_b369 hks hk77 hq
      · rcases jw_if hq with ⟨c15, hq⟩ | ⟨c15, hq⟩
        · refine jw_tableIn (tgt := 261) (off := 130) dX4_fits_131 (by rw [c15]; decide) (by rw [c15]; decide) (by rw [c15]; rfl) (by decide) ?_
          refine jw_aload_n dX4_fits_261 (o := (some x0)) rfl ?_
          obtain ⟨v16, ev16, hq⟩ := Option.bind_eq_some_iff.mp hq
          refine jw_getR (o := (some x0)) dX4_fits_262 ev16 fl_X4_27 rfl ?_
          refine jw_iload dX4_fits_265 rfl ?_
          refine jw_iload dX4_fits_267 rfl ?_
          obtain ⟨h17, eh17, hq⟩ := Option.bind_eq_some_iff.mp hq
          refine jw_iast (o := v16) dX4_fits_269 eh17 ?_
          refine jw_goto (tgt := 369) dX4_fits_270 (by decide) ?_
          refine jw_forget [true, true, true, true, true, true, true, false, true, false, true, true] (L' := [some (.ref x0), none, none, some (.int x3), some (.int x4), some (.int x5), some (.int x6), none, none, none, none, none]) rfl ?_
          exact l_X4_fits_b369 hks hk77 hq
        · rcases jw_if hq with ⟨c18, hq⟩ | ⟨c18, hq⟩
          · refine jw_tableIn (tgt := 273) (off := 142) dX4_fits_131 (by rw [c18]; decide) (by rw [c18]; decide) (by rw [c18]; rfl) (by decide) ?_
            refine jw_aload_n dX4_fits_273 (o := (some x0)) rfl ?_
            obtain ⟨v19, ev19, hq⟩ := Option.bind_eq_some_iff.mp hq
            refine jw_getR (o := (some x0)) dX4_fits_274 ev19 fl_X4_23 rfl ?_
            refine jw_iload dX4_fits_277 rfl ?_
            obtain ⟨v20, ev20, hq⟩ := Option.bind_eq_some_iff.mp hq
            refine jw_iald (o := v19) dX4_fits_279 ev20 ?_
            refine jw_istore (L' := [some (.ref x0), none, none, some (.int x3), some (.int x4), some (.int x5), some (.int x6), some (.long x7), none, some (.int t0), some (.int v20), none]) dX4_fits_280 (Nat.le_of_ble_eq_true rfl) rfl ?_
            refine jw_forget [true, true, true, true, true, true, true, false, true, true, true, true] (L' := [some (.ref x0), none, none, some (.int x3), some (.int x4), some (.int x5), some (.int x6), none, none, some (.int t0), some (.int v20), none]) rfl ?_
            exact l_X4_fits_b282 hks hk77 jw_FU _ _ _ _ _ _ _ _ _ _ hq
          · rcases jw_if hq with ⟨c21, hq⟩ | ⟨c21, hq⟩
            · refine jw_tableIn (tgt := 348) (off := 217) dX4_fits_131 (by rw [c21]; decide) (by rw [c21]; decide) (by rw [c21]; rfl) (by decide) ?_
              refine jw_iload dX4_fits_348 rfl ?_
              rcases jw_if hq with ⟨c22, hq⟩ | ⟨c22, hq⟩
              · refine jw_if_eq_t (tgt := 369) dX4_fits_350 (by decide) c22 ?_
                refine jw_forget [true, true, true, true, true, true, true, false, true, false, true, true] (L' := [some (.ref x0), none, none, some (.int x3), some (.int x4), some (.int x5), some (.int x6), none, none, none, none, none]) rfl ?_
                exact l_X4_fits_b369 hks hk77 hq
              · refine jw_if_eq_f (tgt := 369) dX4_fits_350 (by decide) c22 ?_
                refine jw_iconst dX4_fits_353 (v := (-1 : Int32)) (by decide) ?_
                cases hq
                exact jw_iret (ty := .int) dX4_fits_354 rfl rfl
            · rcases jw_if hq with ⟨c23, hq⟩ | ⟨c23, hq⟩
              · refine jw_tableIn (tgt := 355) (off := 224) dX4_fits_131 (by rw [c23]; decide) (by rw [c23]; decide) (by rw [c23]; rfl) (by decide) ?_
                refine jw_iload dX4_fits_355 rfl ?_
                refine jw_aload_n dX4_fits_357 (o := (some x0)) rfl ?_
                obtain ⟨v24, ev24, hq⟩ := Option.bind_eq_some_iff.mp hq
                refine jw_getI (o := (some x0)) dX4_fits_358 ev24 fl_X4_30 rfl ?_
                rcases jw_if hq with ⟨c25, hq⟩ | ⟨c25, hq⟩
                · refine jw_icmp_eq_t (tgt := 369) dX4_fits_361 (by decide) c25 ?_
                  refine jw_forget [true, true, true, true, true, true, true, false, true, false, true, true] (L' := [some (.ref x0), none, none, some (.int x3), some (.int x4), some (.int x5), some (.int x6), none, none, none, none, none]) rfl ?_
                  exact l_X4_fits_b369 hks hk77 hq
                · refine jw_icmp_eq_f (tgt := 369) dX4_fits_361 (by decide) c25 ?_
                  refine jw_iconst dX4_fits_364 (v := (-1 : Int32)) (by decide) ?_
                  cases hq
                  exact jw_iret (ty := .int) dX4_fits_365 rfl rfl
              · refine jw_tableOut (tgt := 366) dX4_fits_131 (by have z0 : ¬ (v3).toInt = 0 := lv_neT c4 rfl; have z1 : ¬ (v3).toInt = 1 := lv_neT c10 rfl; have z2 : ¬ (v3).toInt = 2 := lv_neT c12 rfl; have z3 : ¬ (v3).toInt = 3 := lv_neT c15 rfl; have z4 : ¬ (v3).toInt = 4 := lv_neT c18 rfl; have z5 : ¬ (v3).toInt = 5 := lv_neT c21 rfl; have z6 : ¬ (v3).toInt = 6 := lv_neT c23 rfl; omega) (by decide) ?_
                refine jw_iload dX4_fits_366 rfl ?_
                cases hq
                exact jw_iret (ty := .int) dX4_fits_368 rfl rfl

set_option maxRecDepth 100000 in
set_option maxHeartbeats 4000000 in
theorem l_X4_fits_b118 {d : Nat} {ks : jw_H → Nat → Int32 → Int32 → Int32 → Option (Int32 × jw_H)} (hks : ∀ {h x0 x1 x2 x3 r h'}, ks h x0 x1 x2 x3 = some (r, h') → jw_Con (Cond.code yX4_fits cX4_fits 12 (some .int)) yX4_fits d [.ref x0, .int x1, .int x2, .int x3] h (.inl (some (.int r))) h') {hi : jw_H} {k77 : jw_H → Nat → Int32 → Int32 → Int32 → Int32 → Option (Int32 × jw_H)} (hk77 : ∀ (h : jw_H) (x0 : Nat) (x3 : Int32) (x4 : Int32) (x5 : Int32) (x6 : Int32) (r : Int32) (h' : jw_H), k77 h x0 x3 x4 x5 x6 = some (r, h') → jw_E (d + 1) uX4_fits hi 77 [some (.ref x0), none, none, some (.int x3), some (.int x4), some (.int x5), some (.int x6), none, none, none, none, none] [] h (.inl (some (.int r))) h') {h : jw_H} {x0 : Nat} {x3 : Int32} {x4 : Int32} {x5 : Int32} {x6 : Int32} {x7 : Int64} {r : Int32} {h' : jw_H} (hq : g_X4_fits_b118 ks k77 h x0 x3 x4 x5 x6 x7 = some (r, h')) : jw_E (d + 1) uX4_fits hi 118 [some (.ref x0), none, none, some (.int x3), some (.int x4), some (.int x5), some (.int x6), some (.long x7), none, none, none, none] [] h (.inl (some (.int r))) h' := by
  unfold g_X4_fits_b118 at hq
  refine jw_iconst dX4_fits_118 (v := (0 : Int32)) (by decide) ?_
  exact l_X4_fits_b119 hks hk77 hq

set_option maxRecDepth 100000 in
set_option maxHeartbeats 4000000 in
theorem l_X4_fits_b77g {d : Nat} {ks : jw_H → Nat → Int32 → Int32 → Int32 → Option (Int32 × jw_H)} (hks : ∀ {h x0 x1 x2 x3 r h'}, ks h x0 x1 x2 x3 = some (r, h') → jw_Con (Cond.code yX4_fits cX4_fits 12 (some .int)) yX4_fits d [.ref x0, .int x1, .int x2, .int x3] h (.inl (some (.int r))) h') {hi : jw_H} {k77 : jw_H → Nat → Int32 → Int32 → Int32 → Int32 → Option (Int32 × jw_H)} (hk77 : ∀ (h : jw_H) (x0 : Nat) (x3 : Int32) (x4 : Int32) (x5 : Int32) (x6 : Int32) (r : Int32) (h' : jw_H), k77 h x0 x3 x4 x5 x6 = some (r, h') → jw_E (d + 1) uX4_fits hi 77 [some (.ref x0), none, none, some (.int x3), some (.int x4), some (.int x5), some (.int x6), none, none, none, none, none] [] h (.inl (some (.int r))) h') {h : jw_H} {x0 : Nat} {x3 : Int32} {x4 : Int32} {x5 : Int32} {x6 : Int32} {r : Int32} {h' : jw_H} (hq : g_X4_fits_b77 ks k77 h x0 x3 x4 x5 x6 = some (r, h')) : jw_E (d + 1) uX4_fits hi 77 [some (.ref x0), none, none, some (.int x3), some (.int x4), some (.int x5), some (.int x6), none, none, none, none, none] [] h (.inl (some (.int r))) h' := by
  unfold g_X4_fits_b77 at hq
  refine jw_iload dX4_fits_77 rfl ?_
  refine jw_iload dX4_fits_79 rfl ?_
  rcases jw_if hq with ⟨c1, hq⟩ | ⟨c1, hq⟩
  · refine jw_icmp_ge_t (tgt := 375) dX4_fits_81 (by decide) c1 ?_
    refine jw_iconst dX4_fits_375 (v := (-1 : Int32)) (by decide) ?_
    cases hq
    exact jw_iret (ty := .int) dX4_fits_376 rfl rfl
  · refine jw_icmp_ge_f (tgt := 375) dX4_fits_81 (by decide) c1 ?_
    refine jw_aload_n dX4_fits_84 (o := (some x0)) rfl ?_
    obtain ⟨v2, ev2, hq⟩ := Option.bind_eq_some_iff.mp hq
    refine jw_getR (o := (some x0)) dX4_fits_85 ev2 fl_X4_9 rfl ?_
    obtain ⟨v3, ev3, hq⟩ := Option.bind_eq_some_iff.mp hq
    refine jw_getR (o := v2) dX4_fits_88 ev3 fl_X4_79 rfl ?_
    refine jw_iload dX4_fits_91 rfl ?_
    obtain ⟨v4, ev4, hq⟩ := Option.bind_eq_some_iff.mp hq
    refine jw_lald (o := v3) dX4_fits_93 ev4 ?_
    refine jw_lstore (L' := [some (.ref x0), none, none, some (.int x3), some (.int x4), some (.int x5), some (.int x6), some (.long v4), none, none, none, none]) dX4_fits_94 (Nat.le_of_ble_eq_true rfl) rfl ?_
    refine jw_lload dX4_fits_96 rfl ?_
    refine jw_lconst dX4_fits_98 (v := (1 : Int64)) (by decide) ?_
    refine jw_lcmp dX4_fits_99 ?_
    rcases jw_if hq with ⟨c5, hq⟩ | ⟨c5, hq⟩
    · refine jw_if_lt_t (tgt := 118) dX4_fits_100 (by decide) c5 ?_
      exact l_X4_fits_b118 hks hk77 hq
    · refine jw_if_lt_f (tgt := 118) dX4_fits_100 (by decide) c5 ?_
      refine jw_lload dX4_fits_103 rfl ?_
      refine jw_ldc2 dX4_fits_105 cw_X4_82 ?_
      refine jw_lcmp dX4_fits_108 ?_
      rcases jw_if hq with ⟨c6, hq⟩ | ⟨c6, hq⟩
      · refine jw_if_gt_t (tgt := 118) dX4_fits_109 (by decide) c6 ?_
        exact l_X4_fits_b118 hks hk77 hq
      · refine jw_if_gt_f (tgt := 118) dX4_fits_109 (by decide) c6 ?_
        refine jw_lload dX4_fits_112 rfl ?_
        refine jw_l2i dX4_fits_114 ?_
        refine jw_goto (tgt := 119) dX4_fits_115 (by decide) ?_
        exact l_X4_fits_b119 hks hk77 hq

theorem l_X4_fits_b77 {d : Nat} {ks : jw_H → Nat → Int32 → Int32 → Int32 → Option (Int32 × jw_H)} (hks : ∀ {h x0 x1 x2 x3 r h'}, ks h x0 x1 x2 x3 = some (r, h') → jw_Con (Cond.code yX4_fits cX4_fits 12 (some .int)) yX4_fits d [.ref x0, .int x1, .int x2, .int x3] h (.inl (some (.int r))) h') {hi : jw_H} : ∀ (n : Nat) (h : jw_H) (x0 : Nat) (x3 : Int32) (x4 : Int32) (x5 : Int32) (x6 : Int32) (r : Int32) (h' : jw_H), f_X4_fits_b77 ks n h x0 x3 x4 x5 x6 = some (r, h') → jw_E (d + 1) uX4_fits hi 77 [some (.ref x0), none, none, some (.int x3), some (.int x4), some (.int x5), some (.int x6), none, none, none, none, none] [] h (.inl (some (.int r))) h' := by
  intro n
  induction n with
  | zero => intro h x0 x3 x4 x5 x6 r h' hq; exact nomatch hq
  | succ n ih => intro h x0 x3 x4 x5 x6 r h' hq; exact l_X4_fits_b77g hks ih hq

set_option maxRecDepth 100000 in
set_option maxHeartbeats 4000000 in
theorem l_X4_fits {d : Nat} {ks : jw_H → Nat → Int32 → Int32 → Int32 → Option (Int32 × jw_H)} (hks : ∀ {h x0 x1 x2 x3 r h'}, ks h x0 x1 x2 x3 = some (r, h') → jw_Con (Cond.code yX4_fits cX4_fits 12 (some .int)) yX4_fits d [.ref x0, .int x1, .int x2, .int x3] h (.inl (some (.int r))) h') {hi : jw_H} {h : jw_H} {x0 : Nat} {x1 : Int32} {x2 : Int32} {x3 : Int32} {r : Int32} {h' : jw_H} (hq : g_X4_fits ks h x0 x1 x2 x3 = some (r, h')) : jw_E (d + 1) uX4_fits hi 0 [some (.ref x0), some (.int x1), some (.int x2), some (.int x3), none, none, none, none, none, none, none, none] [] h (.inl (some (.int r))) h' := by
  unfold g_X4_fits at hq
  refine jw_iload_n dX4_fits_0 rfl ?_
  refine jw_istore (L' := [some (.ref x0), some (.int x1), some (.int x2), some (.int x3), some (.int x2), none, none, none, none, none, none, none]) dX4_fits_1 (Nat.le_of_ble_eq_true rfl) rfl ?_
  refine jw_iload_n dX4_fits_3 rfl ?_
  refine jw_iconst dX4_fits_4 (v := (2 : Int32)) (by decide) ?_
  rcases jw_if hq with ⟨c1, hq⟩ | ⟨c1, hq⟩
  · refine jw_icmp_gt_t (tgt := 41) dX4_fits_5 (by decide) c1 ?_
    refine jw_iconst dX4_fits_41 (v := (-1 : Int32)) (by decide) ?_
    cases hq
    exact jw_iret (ty := .int) dX4_fits_42 rfl rfl
  · refine jw_icmp_gt_f (tgt := 41) dX4_fits_5 (by decide) c1 ?_
    refine jw_iload_n dX4_fits_8 rfl ?_
    rcases jw_if hq with ⟨c2, hq⟩ | ⟨c2, hq⟩
    · refine jw_if_lt_t (tgt := 41) dX4_fits_9 (by decide) c2 ?_
      refine jw_iconst dX4_fits_41 (v := (-1 : Int32)) (by decide) ?_
      cases hq
      exact jw_iret (ty := .int) dX4_fits_42 rfl rfl
    · refine jw_if_lt_f (tgt := 41) dX4_fits_9 (by decide) c2 ?_
      refine jw_iload dX4_fits_12 rfl ?_
      rcases jw_if hq with ⟨c3, hq⟩ | ⟨c3, hq⟩
      · refine jw_if_lt_t (tgt := 41) dX4_fits_14 (by decide) c3 ?_
        refine jw_iconst dX4_fits_41 (v := (-1 : Int32)) (by decide) ?_
        cases hq
        exact jw_iret (ty := .int) dX4_fits_42 rfl rfl
      · refine jw_if_lt_f (tgt := 41) dX4_fits_14 (by decide) c3 ?_
        refine jw_aload_n dX4_fits_17 (o := (some x0)) rfl ?_
        obtain ⟨v4, ev4, hq⟩ := Option.bind_eq_some_iff.mp hq
        refine jw_getI (o := (some x0)) dX4_fits_18 ev4 fl_X4_30 rfl ?_
        refine jw_aload_n dX4_fits_21 (o := (some x0)) rfl ?_
        obtain ⟨v5, ev5, hq⟩ := Option.bind_eq_some_iff.mp hq
        refine jw_getR (o := (some x0)) dX4_fits_22 ev5 fl_X4_15 rfl ?_
        obtain ⟨v6, ev6, hq⟩ := Option.bind_eq_some_iff.mp hq
        refine jw_alen (o := v5) dX4_fits_25 ev6 ?_
        rcases jw_if hq with ⟨c7, hq⟩ | ⟨c7, hq⟩
        · refine jw_icmp_gt_t (tgt := 41) dX4_fits_26 (by decide) c7 ?_
          refine jw_iconst dX4_fits_41 (v := (-1 : Int32)) (by decide) ?_
          cases hq
          exact jw_iret (ty := .int) dX4_fits_42 rfl rfl
        · refine jw_icmp_gt_f (tgt := 41) dX4_fits_26 (by decide) c7 ?_
          refine jw_aload_n dX4_fits_29 (o := (some x0)) rfl ?_
          obtain ⟨v8, ev8, hq⟩ := Option.bind_eq_some_iff.mp hq
          refine jw_getI (o := (some x0)) dX4_fits_30 ev8 fl_X4_30 rfl ?_
          refine jw_aload_n dX4_fits_33 (o := (some x0)) rfl ?_
          obtain ⟨v9, ev9, hq⟩ := Option.bind_eq_some_iff.mp hq
          refine jw_getR (o := (some x0)) dX4_fits_34 ev9 fl_X4_19 rfl ?_
          obtain ⟨v10, ev10, hq⟩ := Option.bind_eq_some_iff.mp hq
          refine jw_alen (o := v9) dX4_fits_37 ev10 ?_
          rcases jw_if hq with ⟨c11, hq⟩ | ⟨c11, hq⟩
          · refine jw_icmp_le_t (tgt := 43) dX4_fits_38 (by decide) c11 ?_
            refine jw_aload_n dX4_fits_43 (o := (some x0)) rfl ?_
            obtain ⟨v12, ev12, hq⟩ := Option.bind_eq_some_iff.mp hq
            refine jw_getR (o := (some x0)) dX4_fits_44 ev12 fl_X4_9 rfl ?_
            obtain ⟨v13, ev13, hq⟩ := Option.bind_eq_some_iff.mp hq
            refine jw_getI (o := v12) dX4_fits_47 ev13 fl_X4_71 rfl ?_
            refine jw_aload_n dX4_fits_50 (o := (some x0)) rfl ?_
            obtain ⟨v14, ev14, hq⟩ := Option.bind_eq_some_iff.mp hq
            refine jw_getR (o := (some x0)) dX4_fits_51 ev14 fl_X4_9 rfl ?_
            obtain ⟨v15, ev15, hq⟩ := Option.bind_eq_some_iff.mp hq
            refine jw_getR (o := v14) dX4_fits_54 ev15 fl_X4_76 rfl ?_
            obtain ⟨v16, ev16, hq⟩ := Option.bind_eq_some_iff.mp hq
            refine jw_alen (o := v15) dX4_fits_57 ev16 ?_
            refine jw_aload_n dX4_fits_58 (o := (some x0)) rfl ?_
            obtain ⟨v17, ev17, hq⟩ := Option.bind_eq_some_iff.mp hq
            refine jw_getR (o := (some x0)) dX4_fits_59 ev17 fl_X4_9 rfl ?_
            obtain ⟨v18, ev18, hq⟩ := Option.bind_eq_some_iff.mp hq
            refine jw_getR (o := v17) dX4_fits_62 ev18 fl_X4_79 rfl ?_
            obtain ⟨v19, ev19, hq⟩ := Option.bind_eq_some_iff.mp hq
            refine jw_alen (o := v18) dX4_fits_65 ev19 ?_
            obtain ⟨w21, h20, ew21, hq⟩ := jw_b2_spec hq
            refine jw_callS (As := [.int v16, .int v19]) (S := [.int v13]) (v := some (.int w21)) dX4_fits_66 mt_J9_min_7cf53 st_J9_min_7cf53 lk_X4_40 (c_J9_min_7cf53 ew21) rfl (by omega) (Nat.le_of_ble_eq_true rfl) rfl ?_
            obtain ⟨w23, h22, ew23, hq⟩ := jw_b2_spec hq
            refine jw_callS (As := [.int v13, .int w21]) (S := []) (v := some (.int w23)) dX4_fits_69 mt_J9_min_7cf53 st_J9_min_7cf53 lk_X4_40 (c_J9_min_7cf53 ew23) rfl (by omega) (Nat.le_of_ble_eq_true rfl) rfl ?_
            refine jw_istore (L' := [some (.ref x0), some (.int x1), some (.int x2), some (.int x3), some (.int x2), some (.int w23), none, none, none, none, none, none]) dX4_fits_72 (Nat.le_of_ble_eq_true rfl) rfl ?_
            refine jw_iload_n dX4_fits_74 rfl ?_
            refine jw_istore (L' := [some (.ref x0), some (.int x1), some (.int x2), some (.int x3), some (.int x2), some (.int w23), some (.int x1), none, none, none, none, none]) dX4_fits_75 (Nat.le_of_ble_eq_true rfl) rfl ?_
            refine jw_forget [true, false, false, true, true, true, true, true, true, true, true, true] (L' := [some (.ref x0), none, none, some (.int x3), some (.int x2), some (.int w23), some (.int x1), none, none, none, none, none]) rfl ?_
            exact l_X4_fits_b77 hks jw_FU _ _ _ _ _ _ _ _ hq
          · refine jw_icmp_le_f (tgt := 43) dX4_fits_38 (by decide) c11 ?_
            refine jw_iconst dX4_fits_41 (v := (-1 : Int32)) (by decide) ?_
            cases hq
            exact jw_iret (ty := .int) dX4_fits_42 rfl rfl

theorem c_X4_fits_n : ∀ (n : Nat) {h : jw_H} {x0 : Nat} {x1 : Int32} {x2 : Int32} {x3 : Int32} {r : Int32} {h' : jw_H}, f_X4_fits n h x0 x1 x2 x3 = some (r, h') → jw_Con (Cond.code yX4_fits cX4_fits 12 (some .int)) yX4_fits n [.ref x0, .int x1, .int x2, .int x3] h (.inl (some (.int r))) h' := by
  intro n
  induction n with
  | zero => intro h x0 x1 x2 x3 r h' hq; exact nomatch hq
  | succ n ih => intro h x0 x1 x2 x3 r h' hq; exact jw_con false (plainFor_of_name (by decide +kernel)) (fun z => nomatch z) (by simp [jw_ent, jw_sl0_nil, jw_sl0_int, jw_sl0_long, jw_sl0_ref, jw_sl0_rf, jw_sl0_scr, List.replicate]) (by simp [jw_sl0_nil, jw_sl0_int, jw_sl0_long, jw_sl0_ref, jw_sl0_rf, jw_sl0_scr]) (l_X4_fits (hks := fun q => ih q) hq)
theorem c_X4_fits {h : jw_H} {x0 : Nat} {x1 : Int32} {x2 : Int32} {x3 : Int32} {r : Int32} {h' : jw_H} (hq : f_X4_fits 6 h x0 x1 x2 x3 = some (r, h')) : jw_Con (Cond.code yX4_fits cX4_fits 12 (some .int)) yX4_fits 6 [.ref x0, .int x1, .int x2, .int x3] h (.inl (some (.int r))) h' := c_X4_fits_n 6 hq


/-! X4_search -/
noncomputable def g_X4_search_b44 (h : jw_H) (x0 : Nat) (x4 : Int32) (x5 : Int32) : Option (Int32 × jw_H) :=
 (jw_pI h 4 (some x0) 6 x4).bind fun h1 =>
 (jw_pI h1 4 (some x0) 7 x5).bind fun h2 =>
 some ((1 : Int32), h2)

noncomputable def g_X4_search_b58 (k3 : jw_H → Nat → Int32 → Int32 → Int32 → Int32 → Option (Int32 × jw_H)) (h : jw_H) (x0 : Nat) (x1 : Int32) (x2 : Int32) (x3 : Int32) (x4 : Int32) : Option (Int32 × jw_H) :=
 k3 h x0 x1 x2 x3 (x4 + (1 : Int32))

noncomputable def g_X4_search_b3 (k3 : jw_H → Nat → Int32 → Int32 → Int32 → Int32 → Option (Int32 × jw_H)) (h : jw_H) (x0 : Nat) (x1 : Int32) (x2 : Int32) (x3 : Int32) (x4 : Int32) : Option (Int32 × jw_H) :=
 (jw_gI h 4 (some x0) 5).bind fun v1 =>
 if v1 < x4 then (some ((0 : Int32), h))
 else ((jw_rc h 4 (some x0)).bind fun a3 =>
 jw_b2 (f_X4_fits 6 h a3 x1 x4 (0 : Int32)) fun w5 h4 =>
 if w5 = (-1 : Int32) then (g_X4_search_b58 k3 h4 x0 x1 x2 x3 x4)
 else (if x3 = 0 then (g_X4_search_b44  h4 x0 x4 w5)
 else (if x4 = x2 then (if w5 = x2 then (g_X4_search_b58 k3 h4 x0 x1 x2 x3 x4)
 else (g_X4_search_b44  h4 x0 x4 w5))
 else (g_X4_search_b44  h4 x0 x4 w5))))

noncomputable def f_X4_search_b3 (n : Nat) : jw_H → Nat → Int32 → Int32 → Int32 → Int32 → Option (Int32 × jw_H) :=
 Nat.rec (fun _ _ _ _ _ _ => none) (fun _ k3 => g_X4_search_b3 k3) n

noncomputable def f_X4_search (h : jw_H) (x0 : Nat) (x1 : Int32) (x2 : Int32) (x3 : Int32) : Option (Int32 × jw_H) :=
 f_X4_search_b3  jw_FU h x0 x1 x2 x3 x2

set_option maxRecDepth 100000 in
set_option maxHeartbeats 4000000 in
theorem l_X4_search_b44 {hi : jw_H} {h : jw_H} {x0 : Nat} {x4 : Int32} {x5 : Int32} {r : Int32} {h' : jw_H} (hq : g_X4_search_b44  h x0 x4 x5 = some (r, h')) : jw_E 7 uX4_search hi 44 [some (.ref x0), none, none, none, some (.int x4), some (.int x5)] [] h (.inl (some (.int r))) h' := by
  unfold g_X4_search_b44 at hq
  refine jw_aload_n dX4_search_44 (o := (some x0)) rfl ?_
  refine jw_iload dX4_search_45 rfl ?_
  obtain ⟨h1, eh1, hq⟩ := Option.bind_eq_some_iff.mp hq
  refine jw_putI (o := (some x0)) dX4_search_47 eh1 fl_X4_65 rfl rfl ?_
  refine jw_aload_n dX4_search_50 (o := (some x0)) rfl ?_
  refine jw_iload dX4_search_51 rfl ?_
  obtain ⟨h2, eh2, hq⟩ := Option.bind_eq_some_iff.mp hq
  refine jw_putI (o := (some x0)) dX4_search_53 eh2 fl_X4_68 rfl rfl ?_
  refine jw_iconst dX4_search_56 (v := (1 : Int32)) (by decide) ?_
  cases hq
  exact jw_iret (ty := .boolean) dX4_search_57 rfl rfl

set_option maxRecDepth 100000 in
set_option maxHeartbeats 4000000 in
theorem l_X4_search_b58 {hi : jw_H} {k3 : jw_H → Nat → Int32 → Int32 → Int32 → Int32 → Option (Int32 × jw_H)} (hk3 : ∀ (h : jw_H) (x0 : Nat) (x1 : Int32) (x2 : Int32) (x3 : Int32) (x4 : Int32) (r : Int32) (h' : jw_H), k3 h x0 x1 x2 x3 x4 = some (r, h') → jw_E 7 uX4_search hi 3 [some (.ref x0), some (.int x1), some (.int x2), some (.int x3), some (.int x4), none] [] h (.inl (some (.int r))) h') {h : jw_H} {x0 : Nat} {x1 : Int32} {x2 : Int32} {x3 : Int32} {x4 : Int32} {r : Int32} {h' : jw_H} (hq : g_X4_search_b58 k3 h x0 x1 x2 x3 x4 = some (r, h')) : jw_E 7 uX4_search hi 58 [some (.ref x0), some (.int x1), some (.int x2), some (.int x3), some (.int x4), none] [] h (.inl (some (.int r))) h' := by
  unfold g_X4_search_b58 at hq
  refine jw_iinc (L' := [some (.ref x0), some (.int x1), some (.int x2), some (.int x3), some (.int (x4 + (1 : Int32))), none]) dX4_search_58 rfl (v := (1 : Int32)) (by decide) (Nat.le_of_ble_eq_true rfl) rfl ?_
  refine jw_goto (tgt := 3) dX4_search_61 (by decide) ?_
  exact hk3 _ _ _ _ _ _ _ _ hq

set_option maxRecDepth 100000 in
set_option maxHeartbeats 4000000 in
theorem l_X4_search_b3g {hi : jw_H} {k3 : jw_H → Nat → Int32 → Int32 → Int32 → Int32 → Option (Int32 × jw_H)} (hk3 : ∀ (h : jw_H) (x0 : Nat) (x1 : Int32) (x2 : Int32) (x3 : Int32) (x4 : Int32) (r : Int32) (h' : jw_H), k3 h x0 x1 x2 x3 x4 = some (r, h') → jw_E 7 uX4_search hi 3 [some (.ref x0), some (.int x1), some (.int x2), some (.int x3), some (.int x4), none] [] h (.inl (some (.int r))) h') {h : jw_H} {x0 : Nat} {x1 : Int32} {x2 : Int32} {x3 : Int32} {x4 : Int32} {r : Int32} {h' : jw_H} (hq : g_X4_search_b3 k3 h x0 x1 x2 x3 x4 = some (r, h')) : jw_E 7 uX4_search hi 3 [some (.ref x0), some (.int x1), some (.int x2), some (.int x3), some (.int x4), none] [] h (.inl (some (.int r))) h' := by
  unfold g_X4_search_b3 at hq
  refine jw_iload dX4_search_3 rfl ?_
  refine jw_aload_n dX4_search_5 (o := (some x0)) rfl ?_
  obtain ⟨v1, ev1, hq⟩ := Option.bind_eq_some_iff.mp hq
  refine jw_getI (o := (some x0)) dX4_search_6 ev1 fl_X4_30 rfl ?_
  rcases jw_if hq with ⟨c2, hq⟩ | ⟨c2, hq⟩
  · refine jw_icmp_gt_t (tgt := 64) dX4_search_9 (by decide) c2 ?_
    refine jw_iconst dX4_search_64 (v := (0 : Int32)) (by decide) ?_
    cases hq
    exact jw_iret (ty := .boolean) dX4_search_65 rfl rfl
  · refine jw_icmp_gt_f (tgt := 64) dX4_search_9 (by decide) c2 ?_
    refine jw_aload_n dX4_search_12 (o := (some x0)) rfl ?_
    refine jw_iload_n dX4_search_13 rfl ?_
    refine jw_iload dX4_search_14 rfl ?_
    refine jw_iconst dX4_search_16 (v := (0 : Int32)) (by decide) ?_
    obtain ⟨a3, ea3, hq⟩ := Option.bind_eq_some_iff.mp hq
    obtain ⟨eoa3, eta3⟩ := jw_rc_spec ea3
    obtain ⟨w5, h4, ew5, hq⟩ := jw_b2_spec hq
    refine jw_callV (As := [.int x1, .int x4, .int (0 : Int32)]) (S := []) (a := a3) (v := some (.int w5)) dX4_search_17 mt_X4_fits in_X4_fits se_X4_fits lk_X4_61 (c_X4_fits ew5) eta3 (by decide) rfl rfl (by decide) (Nat.le_of_ble_eq_true rfl) (by cases eoa3; rfl) ?_
    refine jw_istore (L' := [some (.ref x0), some (.int x1), some (.int x2), some (.int x3), some (.int x4), some (.int w5)]) dX4_search_20 (Nat.le_of_ble_eq_true rfl) rfl ?_
    refine jw_iload dX4_search_22 rfl ?_
    refine jw_iconst dX4_search_24 (v := (-1 : Int32)) (by decide) ?_
    rcases jw_if hq with ⟨c6, hq⟩ | ⟨c6, hq⟩
    · refine jw_icmp_eq_t (tgt := 58) dX4_search_25 (by decide) c6 ?_
      refine jw_forget [true, true, true, true, true, false] (L' := [some (.ref x0), some (.int x1), some (.int x2), some (.int x3), some (.int x4), none]) rfl ?_
      exact l_X4_search_b58 hk3 hq
    · refine jw_icmp_eq_f (tgt := 58) dX4_search_25 (by decide) c6 ?_
      refine jw_iload_n dX4_search_28 rfl ?_
      rcases jw_if hq with ⟨c7, hq⟩ | ⟨c7, hq⟩
      · refine jw_if_eq_t (tgt := 44) dX4_search_29 (by decide) c7 ?_
        refine jw_forget [true, false, false, false, true, true] (L' := [some (.ref x0), none, none, none, some (.int x4), some (.int w5)]) rfl ?_
        exact l_X4_search_b44  hq
      · refine jw_if_eq_f (tgt := 44) dX4_search_29 (by decide) c7 ?_
        refine jw_iload dX4_search_32 rfl ?_
        refine jw_iload_n dX4_search_34 rfl ?_
        rcases jw_if hq with ⟨c8, hq⟩ | ⟨c8, hq⟩
        · refine jw_icmp_ne_f (tgt := 44) dX4_search_35 (by decide) c8 ?_
          refine jw_iload dX4_search_38 rfl ?_
          refine jw_iload_n dX4_search_40 rfl ?_
          rcases jw_if hq with ⟨c9, hq⟩ | ⟨c9, hq⟩
          · refine jw_icmp_eq_t (tgt := 58) dX4_search_41 (by decide) c9 ?_
            refine jw_forget [true, true, true, true, true, false] (L' := [some (.ref x0), some (.int x1), some (.int x2), some (.int x3), some (.int x4), none]) rfl ?_
            exact l_X4_search_b58 hk3 hq
          · refine jw_icmp_eq_f (tgt := 58) dX4_search_41 (by decide) c9 ?_
            refine jw_forget [true, false, false, false, true, true] (L' := [some (.ref x0), none, none, none, some (.int x4), some (.int w5)]) rfl ?_
            exact l_X4_search_b44  hq
        · refine jw_icmp_ne_t (tgt := 44) dX4_search_35 (by decide) c8 ?_
          refine jw_forget [true, false, false, false, true, true] (L' := [some (.ref x0), none, none, none, some (.int x4), some (.int w5)]) rfl ?_
          exact l_X4_search_b44  hq

theorem l_X4_search_b3 {hi : jw_H} : ∀ (n : Nat) (h : jw_H) (x0 : Nat) (x1 : Int32) (x2 : Int32) (x3 : Int32) (x4 : Int32) (r : Int32) (h' : jw_H), f_X4_search_b3  n h x0 x1 x2 x3 x4 = some (r, h') → jw_E 7 uX4_search hi 3 [some (.ref x0), some (.int x1), some (.int x2), some (.int x3), some (.int x4), none] [] h (.inl (some (.int r))) h' := by
  intro n
  induction n with
  | zero => intro h x0 x1 x2 x3 x4 r h' hq; exact nomatch hq
  | succ n ih => intro h x0 x1 x2 x3 x4 r h' hq; exact l_X4_search_b3g ih hq

set_option maxRecDepth 100000 in
set_option maxHeartbeats 4000000 in
theorem l_X4_search {hi : jw_H} {h : jw_H} {x0 : Nat} {x1 : Int32} {x2 : Int32} {x3 : Int32} {r : Int32} {h' : jw_H} (hq : f_X4_search  h x0 x1 x2 x3 = some (r, h')) : jw_E 7 uX4_search hi 0 [some (.ref x0), some (.int x1), some (.int x2), some (.int x3), none, none] [] h (.inl (some (.int r))) h' := by
  unfold f_X4_search at hq
  refine jw_iload_n dX4_search_0 rfl ?_
  refine jw_istore (L' := [some (.ref x0), some (.int x1), some (.int x2), some (.int x3), some (.int x2), none]) dX4_search_1 (Nat.le_of_ble_eq_true rfl) rfl ?_
  exact l_X4_search_b3  jw_FU _ _ _ _ _ _ _ _ hq

theorem c_X4_search {h : jw_H} {x0 : Nat} {x1 : Int32} {x2 : Int32} {x3 : Int32} {r : Int32} {h' : jw_H} (hq : f_X4_search h x0 x1 x2 x3 = some (r, h')) : jw_Con (Cond.code yX4_search cX4_search 6 (some .boolean)) yX4_search 7 [.ref x0, .int x1, .int x2, .int x3] h (.inl (some (.int r))) h' :=
  jw_con false (plainFor_of_name (by decide +kernel)) (fun z => nomatch z) (by simp [jw_ent, jw_sl0_nil, jw_sl0_int, jw_sl0_long, jw_sl0_ref, jw_sl0_rf, jw_sl0_scr, List.replicate]) (by simp [jw_sl0_nil, jw_sl0_int, jw_sl0_long, jw_sl0_ref, jw_sl0_rf, jw_sl0_scr]) (l_X4_search hq)


/-! X4_holds -/
noncomputable def f_X4_holds (h : jw_H) (x0 : Nat) (x1 : Option Nat) (x2 : Int32) (x3 : Int32) : Option (Int32 × jw_H) :=
 (jw_rc h 4 (some x0)).bind fun a1 =>
 jw_b2 (f_X4_load h a1 x1 x2) fun w3 h2 =>
 (jw_rc h2 4 (some x0)).bind fun a4 =>
 jw_b2 (f_X4_search h2 a4 x3 (0 : Int32) (0 : Int32)) fun w6 h5 =>
 (jw_rb w6).bind fun v7 =>
 some (w6, h5)

set_option maxRecDepth 100000 in
set_option maxHeartbeats 4000000 in
theorem l_X4_holds {hi : jw_H} {h : jw_H} {x0 : Nat} {x1 : Option Nat} {x2 : Int32} {x3 : Int32} {r : Int32} {h' : jw_H} (hq : f_X4_holds  h x0 x1 x2 x3 = some (r, h')) : jw_E 8 uX4_holds hi 0 [some (.ref x0), some (va_rf x1), some (.int x2), some (.int x3)] [] h (.inl (some (.int r))) h' := by
  unfold f_X4_holds at hq
  refine jw_aload_n dX4_holds_0 (o := (some x0)) rfl ?_
  refine jw_aload_n dX4_holds_1 (o := x1) rfl ?_
  refine jw_iload_n dX4_holds_2 rfl ?_
  obtain ⟨a1, ea1, hq⟩ := Option.bind_eq_some_iff.mp hq
  obtain ⟨eoa1, eta1⟩ := jw_rc_spec ea1
  obtain ⟨w3, h2, ew3, hq⟩ := jw_b2_spec hq
  refine jw_callV (As := [va_rf x1, .int x2]) (S := []) (a := a1) (v := none) dX4_holds_3 mt_X4_load in_X4_load se_X4_load lk_X4_53 (c_X4_load ew3) eta1 (by decide) rfl rfl (by decide) (Nat.le_of_ble_eq_true rfl) (by cases eoa1; rfl) ?_
  refine jw_aload_n dX4_holds_6 (o := (some x0)) rfl ?_
  refine jw_iload_n dX4_holds_7 rfl ?_
  refine jw_iconst dX4_holds_8 (v := (0 : Int32)) (by decide) ?_
  refine jw_iconst dX4_holds_9 (v := (0 : Int32)) (by decide) ?_
  obtain ⟨a4, ea4, hq⟩ := Option.bind_eq_some_iff.mp hq
  obtain ⟨eoa4, eta4⟩ := jw_rc_spec ea4
  obtain ⟨w6, h5, ew6, hq⟩ := jw_b2_spec hq
  refine jw_callV (As := [.int x3, .int (0 : Int32), .int (0 : Int32)]) (S := []) (a := a4) (v := some (.int w6)) dX4_holds_10 mt_X4_search in_X4_search se_X4_search lk_X4_57 (c_X4_search ew6) eta4 (by decide) rfl rfl (by decide) (Nat.le_of_ble_eq_true rfl) (by cases eoa4; rfl) ?_
  obtain ⟨v7, ev7, hq⟩ := Option.bind_eq_some_iff.mp hq
  cases hq
  exact jw_iret (ty := .boolean) dX4_holds_13 rfl (jw_rb_spec ev7)

theorem c_X4_holds {h : jw_H} {x0 : Nat} {x1 : Option Nat} {x2 : Int32} {x3 : Int32} {r : Int32} {h' : jw_H} (hq : f_X4_holds h x0 x1 x2 x3 = some (r, h')) : jw_Con (Cond.code yX4_holds cX4_holds 4 (some .boolean)) yX4_holds 8 [.ref x0, va_rf x1, .int x2, .int x3] h (.inl (some (.int r))) h' :=
  jw_con false (plainFor_of_name (by decide +kernel)) (fun z => nomatch z) (by simp [jw_ent, jw_sl0_nil, jw_sl0_int, jw_sl0_long, jw_sl0_ref, jw_sl0_rf, jw_sl0_scr, List.replicate]) (by simp [jw_sl0_nil, jw_sl0_int, jw_sl0_long, jw_sl0_ref, jw_sl0_rf, jw_sl0_scr]) (l_X4_holds hq)


/-! X1_holdsAt -/
noncomputable def g_X1_holdsAt_b73 (h : jw_H) (t0 : Int32) : Option (Int32 × jw_H) :=
 (jw_rb t0).bind fun v1 =>
 some (t0, h)

noncomputable def g_X1_holdsAt_b56 (h : jw_H) (x0 : Nat) (x1 : Option Nat) : Option (Int32 × jw_H) :=
 (jw_gI h 1 (some x0) 11).bind fun v1 =>
 (jw_rc h 1 (some x0)).bind fun a2 =>
 jw_b2 (f_X1_numberOf h a2 x1) fun w4 h3 =>
 if v1 = w4 then (g_X1_holdsAt_b73  h3 (1 : Int32))
 else (g_X1_holdsAt_b73  h3 (0 : Int32))

noncomputable def g_X1_holdsAt_b97 (h : jw_H) (t0 : Int32) : Option (Int32 × jw_H) :=
 (jw_rb t0).bind fun v1 =>
 some (t0, h)

noncomputable def g_X1_holdsAt_b98 (h : jw_H) (x0 : Nat) (x1 : Option Nat) : Option (Int32 × jw_H) :=
 (jw_gR h 1 (some x0) 4).bind fun v1 =>
 (jw_gR h 1 (some x0) 7).bind fun v2 =>
 (jw_gI h 0 x1 1).bind fun v3 =>
 (jw_rc h 4 v1).bind fun a4 =>
 jw_b2 (f_X4_holds h a4 v2 (1 : Int32) v3) fun w6 h5 =>
 (jw_rb w6).bind fun v7 =>
 some (w6, h5)

noncomputable def f_X1_holdsAt (h : jw_H) (x0 : Nat) (x1 : Option Nat) : Option (Int32 × jw_H) :=
 (jw_gI h 0 x1 0).bind fun v1 =>
 if v1 = (36 : Int32) then (g_X1_holdsAt_b56  h x0 x1)
 else (if v1 = (39 : Int32) then ((jw_gR h 1 (some x0) 6).bind fun v4 =>
 (jw_gI h 0 x1 1).bind fun v5 =>
 (jw_rc h 9 v4).bind fun a6 =>
 jw_b2 (f_X9_markedId h a6 v5) fun w8 h7 =>
 (jw_gI h7 1 (some x0) 10).bind fun v9 =>
 if w8 = v9 then (g_X1_holdsAt_b97  h7 (1 : Int32))
 else (g_X1_holdsAt_b97  h7 (0 : Int32)))
 else (if v1 = (47 : Int32) then (g_X1_holdsAt_b98  h x0 x1)
 else (if v1 = (48 : Int32) then (g_X1_holdsAt_b56  h x0 x1)
 else (if v1 = (63 : Int32) then (g_X1_holdsAt_b98  h x0 x1)
 else (some ((1 : Int32), h))))))

set_option maxRecDepth 100000 in
set_option maxHeartbeats 4000000 in
theorem l_X1_holdsAt_b73 {hi : jw_H} {h : jw_H} {t0 : Int32} {r : Int32} {h' : jw_H} (hq : g_X1_holdsAt_b73  h t0 = some (r, h')) : jw_E 9 uX1_holdsAt hi 73 [none, none] [.int t0] h (.inl (some (.int r))) h' := by
  unfold g_X1_holdsAt_b73 at hq
  obtain ⟨v1, ev1, hq⟩ := Option.bind_eq_some_iff.mp hq
  cases hq
  exact jw_iret (ty := .boolean) dX1_holdsAt_73 rfl (jw_rb_spec ev1)

set_option maxRecDepth 100000 in
set_option maxHeartbeats 4000000 in
theorem l_X1_holdsAt_b56 {hi : jw_H} {h : jw_H} {x0 : Nat} {x1 : Option Nat} {r : Int32} {h' : jw_H} (hq : g_X1_holdsAt_b56  h x0 x1 = some (r, h')) : jw_E 9 uX1_holdsAt hi 56 [some (.ref x0), some (va_rf x1)] [] h (.inl (some (.int r))) h' := by
  unfold g_X1_holdsAt_b56 at hq
  refine jw_aload_n dX1_holdsAt_56 (o := (some x0)) rfl ?_
  obtain ⟨v1, ev1, hq⟩ := Option.bind_eq_some_iff.mp hq
  refine jw_getI (o := (some x0)) dX1_holdsAt_57 ev1 fl_X1_137 rfl ?_
  refine jw_aload_n dX1_holdsAt_60 (o := (some x0)) rfl ?_
  refine jw_aload_n dX1_holdsAt_61 (o := x1) rfl ?_
  obtain ⟨a2, ea2, hq⟩ := Option.bind_eq_some_iff.mp hq
  obtain ⟨eoa2, eta2⟩ := jw_rc_spec ea2
  obtain ⟨w4, h3, ew4, hq⟩ := jw_b2_spec hq
  refine jw_callV (As := [va_rf x1]) (S := [.int v1]) (a := a2) (v := some (.int w4)) dX1_holdsAt_62 mt_X1_numberOf in_X1_numberOf se_X1_numberOf lk_X1_221 (c_X1_numberOf ew4) eta2 (by decide) rfl rfl (by decide) (Nat.le_of_ble_eq_true rfl) (by cases eoa2; rfl) ?_
  rcases jw_if hq with ⟨c5, hq⟩ | ⟨c5, hq⟩
  · refine jw_icmp_ne_f (tgt := 72) dX1_holdsAt_65 (by decide) c5 ?_
    refine jw_iconst dX1_holdsAt_68 (v := (1 : Int32)) (by decide) ?_
    refine jw_goto (tgt := 73) dX1_holdsAt_69 (by decide) ?_
    refine jw_forget [false, false] (L' := [none, none]) rfl ?_
    exact l_X1_holdsAt_b73  hq
  · refine jw_icmp_ne_t (tgt := 72) dX1_holdsAt_65 (by decide) c5 ?_
    refine jw_iconst dX1_holdsAt_72 (v := (0 : Int32)) (by decide) ?_
    refine jw_forget [false, false] (L' := [none, none]) rfl ?_
    exact l_X1_holdsAt_b73  hq

set_option maxRecDepth 100000 in
set_option maxHeartbeats 4000000 in
theorem l_X1_holdsAt_b97 {hi : jw_H} {h : jw_H} {t0 : Int32} {r : Int32} {h' : jw_H} (hq : g_X1_holdsAt_b97  h t0 = some (r, h')) : jw_E 9 uX1_holdsAt hi 97 [none, none] [.int t0] h (.inl (some (.int r))) h' := by
  unfold g_X1_holdsAt_b97 at hq
  obtain ⟨v1, ev1, hq⟩ := Option.bind_eq_some_iff.mp hq
  cases hq
  exact jw_iret (ty := .boolean) dX1_holdsAt_97 rfl (jw_rb_spec ev1)

set_option maxRecDepth 100000 in
set_option maxHeartbeats 4000000 in
theorem l_X1_holdsAt_b98 {hi : jw_H} {h : jw_H} {x0 : Nat} {x1 : Option Nat} {r : Int32} {h' : jw_H} (hq : g_X1_holdsAt_b98  h x0 x1 = some (r, h')) : jw_E 9 uX1_holdsAt hi 98 [some (.ref x0), some (va_rf x1)] [] h (.inl (some (.int r))) h' := by
  unfold g_X1_holdsAt_b98 at hq
  refine jw_aload_n dX1_holdsAt_98 (o := (some x0)) rfl ?_
  obtain ⟨v1, ev1, hq⟩ := Option.bind_eq_some_iff.mp hq
  refine jw_getR (o := (some x0)) dX1_holdsAt_99 ev1 fl_X1_26 rfl ?_
  refine jw_aload_n dX1_holdsAt_102 (o := (some x0)) rfl ?_
  obtain ⟨v2, ev2, hq⟩ := Option.bind_eq_some_iff.mp hq
  refine jw_getR (o := (some x0)) dX1_holdsAt_103 ev2 fl_X1_45 rfl ?_
  refine jw_iconst dX1_holdsAt_106 (v := (1 : Int32)) (by decide) ?_
  refine jw_aload_n dX1_holdsAt_107 (o := x1) rfl ?_
  obtain ⟨v3, ev3, hq⟩ := Option.bind_eq_some_iff.mp hq
  refine jw_getI (o := x1) dX1_holdsAt_108 ev3 fl_X1_234 rfl ?_
  obtain ⟨a4, ea4, hq⟩ := Option.bind_eq_some_iff.mp hq
  obtain ⟨eoa4, eta4⟩ := jw_rc_spec ea4
  obtain ⟨w6, h5, ew6, hq⟩ := jw_b2_spec hq
  refine jw_callV (As := [va_rf v2, .int (1 : Int32), .int v3]) (S := []) (a := a4) (v := some (.int w6)) dX1_holdsAt_111 mt_X4_holds in_X4_holds se_X4_holds lk_X1_181 (c_X4_holds ew6) eta4 (by decide) rfl rfl (by decide) (Nat.le_of_ble_eq_true rfl) (by cases eoa4; rfl) ?_
  obtain ⟨v7, ev7, hq⟩ := Option.bind_eq_some_iff.mp hq
  cases hq
  exact jw_iret (ty := .boolean) dX1_holdsAt_114 rfl (jw_rb_spec ev7)

set_option maxRecDepth 100000 in
set_option maxHeartbeats 4000000 in
theorem l_X1_holdsAt {hi : jw_H} {h : jw_H} {x0 : Nat} {x1 : Option Nat} {r : Int32} {h' : jw_H} (hq : f_X1_holdsAt  h x0 x1 = some (r, h')) : jw_E 9 uX1_holdsAt hi 0 [some (.ref x0), some (va_rf x1)] [] h (.inl (some (.int r))) h' := by
  unfold f_X1_holdsAt at hq
  refine jw_aload_n dX1_holdsAt_0 (o := x1) rfl ?_
  obtain ⟨v1, ev1, hq⟩ := Option.bind_eq_some_iff.mp hq
  refine jw_getI (o := x1) dX1_holdsAt_1 ev1 fl_X1_231 rfl ?_
  rcases jw_if hq with ⟨c2, hq⟩ | ⟨c2, hq⟩
  · refine jw_lookup (off := 52) (tgt := 56) dX1_holdsAt_4 (by decide) (jw_lks (l := [(36, 52), (39, 70), (47, 94), (48, 52), (63, 94)]) (by rw [c2]; rfl)) (by decide) ?_
    exact l_X1_holdsAt_b56  hq
  · rcases jw_if hq with ⟨c3, hq⟩ | ⟨c3, hq⟩
    · refine jw_lookup (off := 70) (tgt := 74) dX1_holdsAt_4 (by decide) (jw_lks (l := [(36, 52), (39, 70), (47, 94), (48, 52), (63, 94)]) (by rw [lv_osw (a := 36) c2 rfl]; rw [c3]; rfl)) (by decide) ?_
      refine jw_aload_n dX1_holdsAt_74 (o := (some x0)) rfl ?_
      obtain ⟨v4, ev4, hq⟩ := Option.bind_eq_some_iff.mp hq
      refine jw_getR (o := (some x0)) dX1_holdsAt_75 ev4 fl_X1_37 rfl ?_
      refine jw_aload_n dX1_holdsAt_78 (o := x1) rfl ?_
      obtain ⟨v5, ev5, hq⟩ := Option.bind_eq_some_iff.mp hq
      refine jw_getI (o := x1) dX1_holdsAt_79 ev5 fl_X1_234 rfl ?_
      obtain ⟨a6, ea6, hq⟩ := Option.bind_eq_some_iff.mp hq
      obtain ⟨eoa6, eta6⟩ := jw_rc_spec ea6
      obtain ⟨w8, h7, ew8, hq⟩ := jw_b2_spec hq
      refine jw_callV (As := [.int v5]) (S := []) (a := a6) (v := some (.int w8)) dX1_holdsAt_82 mt_X9_markedId in_X9_markedId se_X9_markedId lk_X1_240 (c_X9_markedId ew8) eta6 (by decide) rfl rfl (by decide) (Nat.le_of_ble_eq_true rfl) (by cases eoa6; rfl) ?_
      refine jw_aload_n dX1_holdsAt_85 (o := (some x0)) rfl ?_
      obtain ⟨v9, ev9, hq⟩ := Option.bind_eq_some_iff.mp hq
      refine jw_getI (o := (some x0)) dX1_holdsAt_86 ev9 fl_X1_141 rfl ?_
      rcases jw_if hq with ⟨c10, hq⟩ | ⟨c10, hq⟩
      · refine jw_icmp_ne_f (tgt := 96) dX1_holdsAt_89 (by decide) c10 ?_
        refine jw_iconst dX1_holdsAt_92 (v := (1 : Int32)) (by decide) ?_
        refine jw_goto (tgt := 97) dX1_holdsAt_93 (by decide) ?_
        refine jw_forget [false, false] (L' := [none, none]) rfl ?_
        exact l_X1_holdsAt_b97  hq
      · refine jw_icmp_ne_t (tgt := 96) dX1_holdsAt_89 (by decide) c10 ?_
        refine jw_iconst dX1_holdsAt_96 (v := (0 : Int32)) (by decide) ?_
        refine jw_forget [false, false] (L' := [none, none]) rfl ?_
        exact l_X1_holdsAt_b97  hq
    · rcases jw_if hq with ⟨c11, hq⟩ | ⟨c11, hq⟩
      · refine jw_lookup (off := 94) (tgt := 98) dX1_holdsAt_4 (by decide) (jw_lks (l := [(36, 52), (39, 70), (47, 94), (48, 52), (63, 94)]) (by rw [lv_osw (a := 36) c2 rfl]; rw [lv_osw (a := 39) c3 rfl]; rw [c11]; rfl)) (by decide) ?_
        exact l_X1_holdsAt_b98  hq
      · rcases jw_if hq with ⟨c12, hq⟩ | ⟨c12, hq⟩
        · refine jw_lookup (off := 52) (tgt := 56) dX1_holdsAt_4 (by decide) (jw_lks (l := [(36, 52), (39, 70), (47, 94), (48, 52), (63, 94)]) (by rw [lv_osw (a := 36) c2 rfl]; rw [lv_osw (a := 39) c3 rfl]; rw [lv_osw (a := 47) c11 rfl]; rw [c12]; rfl)) (by decide) ?_
          exact l_X1_holdsAt_b56  hq
        · rcases jw_if hq with ⟨c13, hq⟩ | ⟨c13, hq⟩
          · refine jw_lookup (off := 94) (tgt := 98) dX1_holdsAt_4 (by decide) (jw_lks (l := [(36, 52), (39, 70), (47, 94), (48, 52), (63, 94)]) (by rw [lv_osw (a := 36) c2 rfl]; rw [lv_osw (a := 39) c3 rfl]; rw [lv_osw (a := 47) c11 rfl]; rw [lv_osw (a := 48) c12 rfl]; rw [c13]; rfl)) (by decide) ?_
            exact l_X1_holdsAt_b98  hq
          · refine jw_lookup (off := 111) (tgt := 115) dX1_holdsAt_4 (by decide) (jw_lks (l := [(36, 52), (39, 70), (47, 94), (48, 52), (63, 94)]) (by rw [lv_osw (a := 36) c2 rfl]; rw [lv_osw (a := 39) c3 rfl]; rw [lv_osw (a := 47) c11 rfl]; rw [lv_osw (a := 48) c12 rfl]; rw [lv_osw (a := 63) c13 rfl]; rfl)) (by decide) ?_
            refine jw_iconst dX1_holdsAt_115 (v := (1 : Int32)) (by decide) ?_
            cases hq
            exact jw_iret (ty := .boolean) dX1_holdsAt_116 rfl rfl

theorem c_X1_holdsAt {h : jw_H} {x0 : Nat} {x1 : Option Nat} {r : Int32} {h' : jw_H} (hq : f_X1_holdsAt h x0 x1 = some (r, h')) : jw_Con (Cond.code yX1_holdsAt cX1_holdsAt 2 (some .boolean)) yX1_holdsAt 9 [.ref x0, va_rf x1] h (.inl (some (.int r))) h' :=
  jw_con false (plainFor_of_name (by decide +kernel)) (fun z => nomatch z) (by simp [jw_ent, jw_sl0_nil, jw_sl0_int, jw_sl0_long, jw_sl0_ref, jw_sl0_rf, jw_sl0_scr, List.replicate]) (by simp [jw_sl0_nil, jw_sl0_int, jw_sl0_long, jw_sl0_ref, jw_sl0_rf, jw_sl0_scr]) (l_X1_holdsAt hq)


/-! X1_holds -/
noncomputable def g_X1_holds_b187 (h : jw_H) (x1 : Option Nat) (t0 : Option Nat) (t1 : Int32) : Option (Int32 × jw_H) :=
 (jw_pB h 5 t0 10 t1).bind fun h1 =>
 (jw_gI h1 5 x1 11).bind fun v2 =>
 (jw_rb v2).bind fun v3 =>
 some (v2, h1)

noncomputable def g_X1_holds_b186 (h : jw_H) (x1 : Option Nat) (t0 : Option Nat) : Option (Int32 × jw_H) :=
 g_X1_holds_b187  h x1 t0 (0 : Int32)

noncomputable def g_X1_holds_b167 (h : jw_H) (x1 : Option Nat) : Option (Int32 × jw_H) :=
 (jw_gI h 5 x1 11).bind fun v1 =>
 if v1 = 0 then (g_X1_holds_b186  h x1 x1)
 else ((jw_gI h 5 x1 12).bind fun v3 =>
 if v3 = 0 then (g_X1_holds_b187  h x1 x1 (1 : Int32))
 else (g_X1_holds_b186  h x1 x1))

noncomputable def g_X1_holds_b128 (h : jw_H) (x1 : Option Nat) (t0 : Option Nat) (t1 : Int32) : Option (Int32 × jw_H) :=
 (jw_pB h 5 t0 12 t1).bind fun h1 =>
 g_X1_holds_b167  h1 x1

noncomputable def g_X1_holds_b94 (h : jw_H) (x0 : Nat) (x1 : Option Nat) (x2 : Int32) (x3 : Int32) : Option (Int32 × jw_H) :=
 (jw_pB h 5 x1 11 (1 : Int32)).bind fun h1 =>
 if x2 = 0 then ((jw_gR h1 5 x1 1).bind fun v3 =>
 (jw_rc h1 1 (some x0)).bind fun a4 =>
 jw_b2 (f_X1_holdsAt h1 a4 v3) fun w6 h5 =>
 g_X1_holds_b128  h5 x1 x1 w6)
 else ((jw_gI h1 1 (some x0) 11).bind fun v7 =>
 if v7 = x3 then (g_X1_holds_b128  h1 x1 x1 (1 : Int32))
 else (g_X1_holds_b128  h1 x1 x1 (0 : Int32)))

noncomputable def g_X1_holds_b164 (h : jw_H) (x1 : Option Nat) (t0 : Option Nat) (t1 : Int32) : Option (Int32 × jw_H) :=
 (jw_pB h 5 t0 12 t1).bind fun h1 =>
 g_X1_holds_b167  h1 x1

noncomputable def g_X1_holds_b163 (h : jw_H) (x1 : Option Nat) (t0 : Option Nat) : Option (Int32 × jw_H) :=
 g_X1_holds_b164  h x1 t0 (0 : Int32)

noncomputable def g_X1_holds_b134 (h : jw_H) (x0 : Nat) (x1 : Option Nat) (x2 : Int32) (x3 : Int32) : Option (Int32 × jw_H) :=
 (jw_gR h 5 x1 0).bind fun v1 =>
 (jw_rc h 1 (some x0)).bind fun a2 =>
 jw_b2 (f_X1_holdsAt h a2 v1) fun w4 h3 =>
 (jw_pB h3 5 x1 11 w4).bind fun h5 =>
 if x2 = 0 then (g_X1_holds_b163  h5 x1 x1)
 else ((jw_gI h5 1 (some x0) 11).bind fun v7 =>
 if v7 < x3 then (g_X1_holds_b163  h5 x1 x1)
 else (g_X1_holds_b164  h5 x1 x1 (1 : Int32)))

noncomputable def f_X1_holds (h : jw_H) (x0 : Nat) (x1 : Option Nat) : Option (Int32 × jw_H) :=
 (jw_gI h 5 x1 4).bind fun v1 =>
 if v1 = 0 then (some ((1 : Int32), h))
 else ((jw_gI h 5 x1 4).bind fun v3 =>
 if v3 = (1 : Int32) then (some ((1 : Int32), h))
 else ((jw_gI h 5 x1 4).bind fun v5 =>
 if v5 = (2 : Int32) then ((jw_gR h 5 x1 0).bind fun v27 =>
 (jw_rc h 1 (some x0)).bind fun a28 =>
 jw_b2 (f_X1_holdsAt h a28 v27) fun w30 h29 =>
 (jw_rb w30).bind fun v31 =>
 some (w30, h29))
 else ((jw_gI h 5 x1 13).bind fun v7 =>
 (jw_gI h 1 (some x0) 13).bind fun v8 =>
 if v7 = v8 then ((jw_gI h 5 x1 11).bind fun v25 =>
 (jw_rb v25).bind fun v26 =>
 some (v25, h))
 else ((jw_gI h 1 (some x0) 13).bind fun v10 =>
 (jw_pI h 5 x1 13 v10).bind fun h11 =>
 (jw_gR h11 5 x1 1).bind fun v12 =>
 (jw_rc h11 0 v12).bind fun a13 =>
 jw_b2 (f_X0_isNumber h11 a13) fun w15 h14 =>
 (jw_gR h14 5 x1 1).bind fun v16 =>
 (jw_rc h14 1 (some x0)).bind fun a17 =>
 jw_b2 (f_X1_numberOf h14 a17 v16) fun w19 h18 =>
 (jw_gI h18 5 x1 10).bind fun v20 =>
 if v20 = 0 then (g_X1_holds_b134  h18 x0 x1 w15 w19)
 else (if w15 = 0 then (g_X1_holds_b94  h18 x0 x1 w15 w19)
 else ((jw_gI h18 1 (some x0) 11).bind fun v23 =>
 if w19 < v23 then (g_X1_holds_b134  h18 x0 x1 w15 w19)
 else (g_X1_holds_b94  h18 x0 x1 w15 w19)))))))

set_option maxRecDepth 100000 in
set_option maxHeartbeats 4000000 in
theorem l_X1_holds_b187 {hi : jw_H} {h : jw_H} {x1 : Option Nat} {t0 : Option Nat} {t1 : Int32} {r : Int32} {h' : jw_H} (hq : g_X1_holds_b187  h x1 t0 t1 = some (r, h')) : jw_E 10 uX1_holds hi 187 [none, some (va_rf x1), none, none] [.int t1, va_rf t0] h (.inl (some (.int r))) h' := by
  unfold g_X1_holds_b187 at hq
  obtain ⟨h1, eh1, hq⟩ := Option.bind_eq_some_iff.mp hq
  refine jw_putB (o := t0) dX1_holds_187 eh1 fl_X1_225 rfl rfl ?_
  refine jw_aload_n dX1_holds_190 (o := x1) rfl ?_
  obtain ⟨v2, ev2, hq⟩ := Option.bind_eq_some_iff.mp hq
  refine jw_getI (o := x1) dX1_holds_191 ev2 fl_X1_210 rfl ?_
  obtain ⟨v3, ev3, hq⟩ := Option.bind_eq_some_iff.mp hq
  cases hq
  exact jw_iret (ty := .boolean) dX1_holds_194 rfl (jw_rb_spec ev3)

set_option maxRecDepth 100000 in
set_option maxHeartbeats 4000000 in
theorem l_X1_holds_b186 {hi : jw_H} {h : jw_H} {x1 : Option Nat} {t0 : Option Nat} {r : Int32} {h' : jw_H} (hq : g_X1_holds_b186  h x1 t0 = some (r, h')) : jw_E 10 uX1_holds hi 186 [none, some (va_rf x1), none, none] [va_rf t0] h (.inl (some (.int r))) h' := by
  unfold g_X1_holds_b186 at hq
  refine jw_iconst dX1_holds_186 (v := (0 : Int32)) (by decide) ?_
  exact l_X1_holds_b187  hq

set_option maxRecDepth 100000 in
set_option maxHeartbeats 4000000 in
theorem l_X1_holds_b167 {hi : jw_H} {h : jw_H} {x1 : Option Nat} {r : Int32} {h' : jw_H} (hq : g_X1_holds_b167  h x1 = some (r, h')) : jw_E 10 uX1_holds hi 167 [none, some (va_rf x1), none, none] [] h (.inl (some (.int r))) h' := by
  unfold g_X1_holds_b167 at hq
  refine jw_aload_n dX1_holds_167 (o := x1) rfl ?_
  refine jw_aload_n dX1_holds_168 (o := x1) rfl ?_
  obtain ⟨v1, ev1, hq⟩ := Option.bind_eq_some_iff.mp hq
  refine jw_getI (o := x1) dX1_holds_169 ev1 fl_X1_210 rfl ?_
  rcases jw_if hq with ⟨c2, hq⟩ | ⟨c2, hq⟩
  · refine jw_if_eq_t (tgt := 186) dX1_holds_172 (by decide) c2 ?_
    exact l_X1_holds_b186  hq
  · refine jw_if_eq_f (tgt := 186) dX1_holds_172 (by decide) c2 ?_
    refine jw_aload_n dX1_holds_175 (o := x1) rfl ?_
    obtain ⟨v3, ev3, hq⟩ := Option.bind_eq_some_iff.mp hq
    refine jw_getI (o := x1) dX1_holds_176 ev3 fl_X1_228 rfl ?_
    rcases jw_if hq with ⟨c4, hq⟩ | ⟨c4, hq⟩
    · refine jw_if_ne_f (tgt := 186) dX1_holds_179 (by decide) c4 ?_
      refine jw_iconst dX1_holds_182 (v := (1 : Int32)) (by decide) ?_
      refine jw_goto (tgt := 187) dX1_holds_183 (by decide) ?_
      exact l_X1_holds_b187  hq
    · refine jw_if_ne_t (tgt := 186) dX1_holds_179 (by decide) c4 ?_
      exact l_X1_holds_b186  hq

set_option maxRecDepth 100000 in
set_option maxHeartbeats 4000000 in
theorem l_X1_holds_b128 {hi : jw_H} {h : jw_H} {x1 : Option Nat} {t0 : Option Nat} {t1 : Int32} {r : Int32} {h' : jw_H} (hq : g_X1_holds_b128  h x1 t0 t1 = some (r, h')) : jw_E 10 uX1_holds hi 128 [none, some (va_rf x1), none, none] [.int t1, va_rf t0] h (.inl (some (.int r))) h' := by
  unfold g_X1_holds_b128 at hq
  obtain ⟨h1, eh1, hq⟩ := Option.bind_eq_some_iff.mp hq
  refine jw_putB (o := t0) dX1_holds_128 eh1 fl_X1_228 rfl rfl ?_
  refine jw_goto (tgt := 167) dX1_holds_131 (by decide) ?_
  exact l_X1_holds_b167  hq

set_option maxRecDepth 100000 in
set_option maxHeartbeats 4000000 in
theorem l_X1_holds_b94 {hi : jw_H} {h : jw_H} {x0 : Nat} {x1 : Option Nat} {x2 : Int32} {x3 : Int32} {r : Int32} {h' : jw_H} (hq : g_X1_holds_b94  h x0 x1 x2 x3 = some (r, h')) : jw_E 10 uX1_holds hi 94 [some (.ref x0), some (va_rf x1), some (.int x2), some (.int x3)] [] h (.inl (some (.int r))) h' := by
  unfold g_X1_holds_b94 at hq
  refine jw_aload_n dX1_holds_94 (o := x1) rfl ?_
  refine jw_iconst dX1_holds_95 (v := (1 : Int32)) (by decide) ?_
  obtain ⟨h1, eh1, hq⟩ := Option.bind_eq_some_iff.mp hq
  refine jw_putB (o := x1) dX1_holds_96 eh1 fl_X1_210 rfl rfl ?_
  refine jw_aload_n dX1_holds_99 (o := x1) rfl ?_
  refine jw_iload_n dX1_holds_100 rfl ?_
  rcases jw_if hq with ⟨c2, hq⟩ | ⟨c2, hq⟩
  · refine jw_if_eq_t (tgt := 120) dX1_holds_101 (by decide) c2 ?_
    refine jw_aload_n dX1_holds_120 (o := (some x0)) rfl ?_
    refine jw_aload_n dX1_holds_121 (o := x1) rfl ?_
    obtain ⟨v3, ev3, hq⟩ := Option.bind_eq_some_iff.mp hq
    refine jw_getR (o := x1) dX1_holds_122 ev3 fl_X1_213 rfl ?_
    obtain ⟨a4, ea4, hq⟩ := Option.bind_eq_some_iff.mp hq
    obtain ⟨eoa4, eta4⟩ := jw_rc_spec ea4
    obtain ⟨w6, h5, ew6, hq⟩ := jw_b2_spec hq
    refine jw_callV (As := [va_rf v3]) (S := [va_rf x1]) (a := a4) (v := some (.int w6)) dX1_holds_125 mt_X1_holdsAt in_X1_holdsAt se_X1_holdsAt lk_X1_203 (c_X1_holdsAt ew6) eta4 (by decide) rfl rfl (by decide) (by simp only [List.map_cons, List.map_nil, List.sum_cons, List.sum_nil, jw_cat_rf, jw_cat_i, jw_cat_l, jw_cat_a, jw_cat_s] <;> decide) (by cases eoa4; rfl) ?_
    refine jw_forget [false, true, false, false] (L' := [none, some (va_rf x1), none, none]) rfl ?_
    exact l_X1_holds_b128  hq
  · refine jw_if_eq_f (tgt := 120) dX1_holds_101 (by decide) c2 ?_
    refine jw_aload_n dX1_holds_104 (o := (some x0)) rfl ?_
    obtain ⟨v7, ev7, hq⟩ := Option.bind_eq_some_iff.mp hq
    refine jw_getI (o := (some x0)) dX1_holds_105 ev7 fl_X1_137 rfl ?_
    refine jw_iload_n dX1_holds_108 rfl ?_
    rcases jw_if hq with ⟨c8, hq⟩ | ⟨c8, hq⟩
    · refine jw_icmp_ne_f (tgt := 116) dX1_holds_109 (by decide) c8 ?_
      refine jw_iconst dX1_holds_112 (v := (1 : Int32)) (by decide) ?_
      refine jw_goto (tgt := 128) dX1_holds_113 (by decide) ?_
      refine jw_forget [false, true, false, false] (L' := [none, some (va_rf x1), none, none]) rfl ?_
      exact l_X1_holds_b128  hq
    · refine jw_icmp_ne_t (tgt := 116) dX1_holds_109 (by decide) c8 ?_
      refine jw_iconst dX1_holds_116 (v := (0 : Int32)) (by decide) ?_
      refine jw_goto (tgt := 128) dX1_holds_117 (by decide) ?_
      refine jw_forget [false, true, false, false] (L' := [none, some (va_rf x1), none, none]) rfl ?_
      exact l_X1_holds_b128  hq

set_option maxRecDepth 100000 in
set_option maxHeartbeats 4000000 in
theorem l_X1_holds_b164 {hi : jw_H} {h : jw_H} {x1 : Option Nat} {t0 : Option Nat} {t1 : Int32} {r : Int32} {h' : jw_H} (hq : g_X1_holds_b164  h x1 t0 t1 = some (r, h')) : jw_E 10 uX1_holds hi 164 [none, some (va_rf x1), none, none] [.int t1, va_rf t0] h (.inl (some (.int r))) h' := by
  unfold g_X1_holds_b164 at hq
  obtain ⟨h1, eh1, hq⟩ := Option.bind_eq_some_iff.mp hq
  refine jw_putB (o := t0) dX1_holds_164 eh1 fl_X1_228 rfl rfl ?_
  exact l_X1_holds_b167  hq

set_option maxRecDepth 100000 in
set_option maxHeartbeats 4000000 in
theorem l_X1_holds_b163 {hi : jw_H} {h : jw_H} {x1 : Option Nat} {t0 : Option Nat} {r : Int32} {h' : jw_H} (hq : g_X1_holds_b163  h x1 t0 = some (r, h')) : jw_E 10 uX1_holds hi 163 [none, some (va_rf x1), none, none] [va_rf t0] h (.inl (some (.int r))) h' := by
  unfold g_X1_holds_b163 at hq
  refine jw_iconst dX1_holds_163 (v := (0 : Int32)) (by decide) ?_
  exact l_X1_holds_b164  hq

set_option maxRecDepth 100000 in
set_option maxHeartbeats 4000000 in
theorem l_X1_holds_b134 {hi : jw_H} {h : jw_H} {x0 : Nat} {x1 : Option Nat} {x2 : Int32} {x3 : Int32} {r : Int32} {h' : jw_H} (hq : g_X1_holds_b134  h x0 x1 x2 x3 = some (r, h')) : jw_E 10 uX1_holds hi 134 [some (.ref x0), some (va_rf x1), some (.int x2), some (.int x3)] [] h (.inl (some (.int r))) h' := by
  unfold g_X1_holds_b134 at hq
  refine jw_aload_n dX1_holds_134 (o := x1) rfl ?_
  refine jw_aload_n dX1_holds_135 (o := (some x0)) rfl ?_
  refine jw_aload_n dX1_holds_136 (o := x1) rfl ?_
  obtain ⟨v1, ev1, hq⟩ := Option.bind_eq_some_iff.mp hq
  refine jw_getR (o := x1) dX1_holds_137 ev1 fl_X1_199 rfl ?_
  obtain ⟨a2, ea2, hq⟩ := Option.bind_eq_some_iff.mp hq
  obtain ⟨eoa2, eta2⟩ := jw_rc_spec ea2
  obtain ⟨w4, h3, ew4, hq⟩ := jw_b2_spec hq
  refine jw_callV (As := [va_rf v1]) (S := [va_rf x1]) (a := a2) (v := some (.int w4)) dX1_holds_140 mt_X1_holdsAt in_X1_holdsAt se_X1_holdsAt lk_X1_203 (c_X1_holdsAt ew4) eta2 (by decide) rfl rfl (by decide) (by simp only [List.map_cons, List.map_nil, List.sum_cons, List.sum_nil, jw_cat_rf, jw_cat_i, jw_cat_l, jw_cat_a, jw_cat_s] <;> decide) (by cases eoa2; rfl) ?_
  obtain ⟨h5, eh5, hq⟩ := Option.bind_eq_some_iff.mp hq
  refine jw_putB (o := x1) dX1_holds_143 eh5 fl_X1_210 rfl rfl ?_
  refine jw_aload_n dX1_holds_146 (o := x1) rfl ?_
  refine jw_iload_n dX1_holds_147 rfl ?_
  rcases jw_if hq with ⟨c6, hq⟩ | ⟨c6, hq⟩
  · refine jw_if_eq_t (tgt := 163) dX1_holds_148 (by decide) c6 ?_
    refine jw_forget [false, true, false, false] (L' := [none, some (va_rf x1), none, none]) rfl ?_
    exact l_X1_holds_b163  hq
  · refine jw_if_eq_f (tgt := 163) dX1_holds_148 (by decide) c6 ?_
    refine jw_aload_n dX1_holds_151 (o := (some x0)) rfl ?_
    obtain ⟨v7, ev7, hq⟩ := Option.bind_eq_some_iff.mp hq
    refine jw_getI (o := (some x0)) dX1_holds_152 ev7 fl_X1_137 rfl ?_
    refine jw_iload_n dX1_holds_155 rfl ?_
    rcases jw_if hq with ⟨c8, hq⟩ | ⟨c8, hq⟩
    · refine jw_icmp_lt_t (tgt := 163) dX1_holds_156 (by decide) c8 ?_
      refine jw_forget [false, true, false, false] (L' := [none, some (va_rf x1), none, none]) rfl ?_
      exact l_X1_holds_b163  hq
    · refine jw_icmp_lt_f (tgt := 163) dX1_holds_156 (by decide) c8 ?_
      refine jw_iconst dX1_holds_159 (v := (1 : Int32)) (by decide) ?_
      refine jw_goto (tgt := 164) dX1_holds_160 (by decide) ?_
      refine jw_forget [false, true, false, false] (L' := [none, some (va_rf x1), none, none]) rfl ?_
      exact l_X1_holds_b164  hq

set_option maxRecDepth 100000 in
set_option maxHeartbeats 4000000 in
theorem l_X1_holds {hi : jw_H} {h : jw_H} {x0 : Nat} {x1 : Option Nat} {r : Int32} {h' : jw_H} (hq : f_X1_holds  h x0 x1 = some (r, h')) : jw_E 10 uX1_holds hi 0 [some (.ref x0), some (va_rf x1), none, none] [] h (.inl (some (.int r))) h' := by
  unfold f_X1_holds at hq
  refine jw_aload_n dX1_holds_0 (o := x1) rfl ?_
  obtain ⟨v1, ev1, hq⟩ := Option.bind_eq_some_iff.mp hq
  refine jw_getI (o := x1) dX1_holds_1 ev1 fl_X1_196 rfl ?_
  rcases jw_if hq with ⟨c2, hq⟩ | ⟨c2, hq⟩
  · refine jw_if_eq_t (tgt := 15) dX1_holds_4 (by decide) c2 ?_
    refine jw_iconst dX1_holds_15 (v := (1 : Int32)) (by decide) ?_
    cases hq
    exact jw_iret (ty := .boolean) dX1_holds_16 rfl rfl
  · refine jw_if_eq_f (tgt := 15) dX1_holds_4 (by decide) c2 ?_
    refine jw_aload_n dX1_holds_7 (o := x1) rfl ?_
    obtain ⟨v3, ev3, hq⟩ := Option.bind_eq_some_iff.mp hq
    refine jw_getI (o := x1) dX1_holds_8 ev3 fl_X1_196 rfl ?_
    refine jw_iconst dX1_holds_11 (v := (1 : Int32)) (by decide) ?_
    rcases jw_if hq with ⟨c4, hq⟩ | ⟨c4, hq⟩
    · refine jw_icmp_ne_f (tgt := 17) dX1_holds_12 (by decide) c4 ?_
      refine jw_iconst dX1_holds_15 (v := (1 : Int32)) (by decide) ?_
      cases hq
      exact jw_iret (ty := .boolean) dX1_holds_16 rfl rfl
    · refine jw_icmp_ne_t (tgt := 17) dX1_holds_12 (by decide) c4 ?_
      refine jw_aload_n dX1_holds_17 (o := x1) rfl ?_
      obtain ⟨v5, ev5, hq⟩ := Option.bind_eq_some_iff.mp hq
      refine jw_getI (o := x1) dX1_holds_18 ev5 fl_X1_196 rfl ?_
      refine jw_iconst dX1_holds_21 (v := (2 : Int32)) (by decide) ?_
      rcases jw_if hq with ⟨c6, hq⟩ | ⟨c6, hq⟩
      · refine jw_icmp_ne_f (tgt := 34) dX1_holds_22 (by decide) c6 ?_
        refine jw_aload_n dX1_holds_25 (o := (some x0)) rfl ?_
        refine jw_aload_n dX1_holds_26 (o := x1) rfl ?_
        obtain ⟨v27, ev27, hq⟩ := Option.bind_eq_some_iff.mp hq
        refine jw_getR (o := x1) dX1_holds_27 ev27 fl_X1_199 rfl ?_
        obtain ⟨a28, ea28, hq⟩ := Option.bind_eq_some_iff.mp hq
        obtain ⟨eoa28, eta28⟩ := jw_rc_spec ea28
        obtain ⟨w30, h29, ew30, hq⟩ := jw_b2_spec hq
        refine jw_callV (As := [va_rf v27]) (S := []) (a := a28) (v := some (.int w30)) dX1_holds_30 mt_X1_holdsAt in_X1_holdsAt se_X1_holdsAt lk_X1_203 (c_X1_holdsAt ew30) eta28 (by decide) rfl rfl (by decide) (Nat.le_of_ble_eq_true rfl) (by cases eoa28; rfl) ?_
        obtain ⟨v31, ev31, hq⟩ := Option.bind_eq_some_iff.mp hq
        cases hq
        exact jw_iret (ty := .boolean) dX1_holds_33 rfl (jw_rb_spec ev31)
      · refine jw_icmp_ne_t (tgt := 34) dX1_holds_22 (by decide) c6 ?_
        refine jw_aload_n dX1_holds_34 (o := x1) rfl ?_
        obtain ⟨v7, ev7, hq⟩ := Option.bind_eq_some_iff.mp hq
        refine jw_getI (o := x1) dX1_holds_35 ev7 fl_X1_207 rfl ?_
        refine jw_aload_n dX1_holds_38 (o := (some x0)) rfl ?_
        obtain ⟨v8, ev8, hq⟩ := Option.bind_eq_some_iff.mp hq
        refine jw_getI (o := (some x0)) dX1_holds_39 ev8 fl_X1_118 rfl ?_
        rcases jw_if hq with ⟨c9, hq⟩ | ⟨c9, hq⟩
        · refine jw_icmp_ne_f (tgt := 50) dX1_holds_42 (by decide) c9 ?_
          refine jw_aload_n dX1_holds_45 (o := x1) rfl ?_
          obtain ⟨v25, ev25, hq⟩ := Option.bind_eq_some_iff.mp hq
          refine jw_getI (o := x1) dX1_holds_46 ev25 fl_X1_210 rfl ?_
          obtain ⟨v26, ev26, hq⟩ := Option.bind_eq_some_iff.mp hq
          cases hq
          exact jw_iret (ty := .boolean) dX1_holds_49 rfl (jw_rb_spec ev26)
        · refine jw_icmp_ne_t (tgt := 50) dX1_holds_42 (by decide) c9 ?_
          refine jw_aload_n dX1_holds_50 (o := x1) rfl ?_
          refine jw_aload_n dX1_holds_51 (o := (some x0)) rfl ?_
          obtain ⟨v10, ev10, hq⟩ := Option.bind_eq_some_iff.mp hq
          refine jw_getI (o := (some x0)) dX1_holds_52 ev10 fl_X1_118 rfl ?_
          obtain ⟨h11, eh11, hq⟩ := Option.bind_eq_some_iff.mp hq
          refine jw_putI (o := x1) dX1_holds_55 eh11 fl_X1_207 rfl rfl ?_
          refine jw_aload_n dX1_holds_58 (o := x1) rfl ?_
          obtain ⟨v12, ev12, hq⟩ := Option.bind_eq_some_iff.mp hq
          refine jw_getR (o := x1) dX1_holds_59 ev12 fl_X1_213 rfl ?_
          obtain ⟨a13, ea13, hq⟩ := Option.bind_eq_some_iff.mp hq
          obtain ⟨eoa13, eta13⟩ := jw_rc_spec ea13
          obtain ⟨w15, h14, ew15, hq⟩ := jw_b2_spec hq
          refine jw_callV (As := []) (S := []) (a := a13) (v := some (.int w15)) dX1_holds_62 mt_X0_isNumber in_X0_isNumber se_X0_isNumber lk_X1_216 (c_X0_isNumber ew15) eta13 (by decide) rfl rfl (by decide) (Nat.le_of_ble_eq_true rfl) (by cases eoa13; rfl) ?_
          refine jw_istore_n (L' := [some (.ref x0), some (va_rf x1), some (.int w15), none]) dX1_holds_65 (Nat.le_of_ble_eq_true rfl) ((jw_st1_of (j := 1) jw_long_rf).trans rfl) ?_
          refine jw_aload_n dX1_holds_66 (o := (some x0)) rfl ?_
          refine jw_aload_n dX1_holds_67 (o := x1) rfl ?_
          obtain ⟨v16, ev16, hq⟩ := Option.bind_eq_some_iff.mp hq
          refine jw_getR (o := x1) dX1_holds_68 ev16 fl_X1_213 rfl ?_
          obtain ⟨a17, ea17, hq⟩ := Option.bind_eq_some_iff.mp hq
          obtain ⟨eoa17, eta17⟩ := jw_rc_spec ea17
          obtain ⟨w19, h18, ew19, hq⟩ := jw_b2_spec hq
          refine jw_callV (As := [va_rf v16]) (S := []) (a := a17) (v := some (.int w19)) dX1_holds_71 mt_X1_numberOf in_X1_numberOf se_X1_numberOf lk_X1_221 (c_X1_numberOf ew19) eta17 (by decide) rfl rfl (by decide) (Nat.le_of_ble_eq_true rfl) (by cases eoa17; rfl) ?_
          refine jw_istore_n (L' := [some (.ref x0), some (va_rf x1), some (.int w15), some (.int w19)]) dX1_holds_74 (Nat.le_of_ble_eq_true rfl) rfl ?_
          refine jw_aload_n dX1_holds_75 (o := x1) rfl ?_
          obtain ⟨v20, ev20, hq⟩ := Option.bind_eq_some_iff.mp hq
          refine jw_getI (o := x1) dX1_holds_76 ev20 fl_X1_225 rfl ?_
          rcases jw_if hq with ⟨c21, hq⟩ | ⟨c21, hq⟩
          · refine jw_if_eq_t (tgt := 134) dX1_holds_79 (by decide) c21 ?_
            exact l_X1_holds_b134  hq
          · refine jw_if_eq_f (tgt := 134) dX1_holds_79 (by decide) c21 ?_
            refine jw_iload_n dX1_holds_82 rfl ?_
            rcases jw_if hq with ⟨c22, hq⟩ | ⟨c22, hq⟩
            · refine jw_if_eq_t (tgt := 94) dX1_holds_83 (by decide) c22 ?_
              exact l_X1_holds_b94  hq
            · refine jw_if_eq_f (tgt := 94) dX1_holds_83 (by decide) c22 ?_
              refine jw_aload_n dX1_holds_86 (o := (some x0)) rfl ?_
              obtain ⟨v23, ev23, hq⟩ := Option.bind_eq_some_iff.mp hq
              refine jw_getI (o := (some x0)) dX1_holds_87 ev23 fl_X1_137 rfl ?_
              refine jw_iload_n dX1_holds_90 rfl ?_
              rcases jw_if hq with ⟨c24, hq⟩ | ⟨c24, hq⟩
              · refine jw_icmp_gt_t (tgt := 134) dX1_holds_91 (by decide) c24 ?_
                exact l_X1_holds_b134  hq
              · refine jw_icmp_gt_f (tgt := 134) dX1_holds_91 (by decide) c24 ?_
                exact l_X1_holds_b94  hq

theorem c_X1_holds {h : jw_H} {x0 : Nat} {x1 : Option Nat} {r : Int32} {h' : jw_H} (hq : f_X1_holds h x0 x1 = some (r, h')) : jw_Con (Cond.code yX1_holds cX1_holds 4 (some .boolean)) yX1_holds 10 [.ref x0, va_rf x1] h (.inl (some (.int r))) h' :=
  jw_con false (plainFor_of_name (by decide +kernel)) (fun z => nomatch z) (by simp [jw_ent, jw_sl0_nil, jw_sl0_int, jw_sl0_long, jw_sl0_ref, jw_sl0_rf, jw_sl0_scr, List.replicate]) (by simp [jw_sl0_nil, jw_sl0_int, jw_sl0_long, jw_sl0_ref, jw_sl0_rf, jw_sl0_scr]) (l_X1_holds hq)


/-! X5_holdsOthers -/
noncomputable def g_X5_holdsOthers_b32 (h : jw_H) (t0 : Int32) : Option (Int32 × jw_H) :=
 (jw_rb t0).bind fun v1 =>
 some (t0, h)

noncomputable def g_X5_holdsOthers_b27 (h : jw_H)  : Option (Int32 × jw_H) :=
 g_X5_holdsOthers_b32  h (1 : Int32)

noncomputable def f_X5_holdsOthers (h : jw_H) (x0 : Nat) : Option (Int32 × jw_H) :=
 (jw_gI h 5 (some x0) 3).bind fun v1 =>
 if v1 = (103 : Int32) then (g_X5_holdsOthers_b27  h )
 else ((jw_gI h 5 (some x0) 3).bind fun v3 =>
 if v3 = (71 : Int32) then (g_X5_holdsOthers_b27  h )
 else ((jw_gI h 5 (some x0) 3).bind fun v5 =>
 if v5 = (123 : Int32) then (g_X5_holdsOthers_b27  h )
 else (g_X5_holdsOthers_b32  h (0 : Int32))))

set_option maxRecDepth 100000 in
set_option maxHeartbeats 4000000 in
theorem l_X5_holdsOthers_b32 {hi : jw_H} {h : jw_H} {t0 : Int32} {r : Int32} {h' : jw_H} (hq : g_X5_holdsOthers_b32  h t0 = some (r, h')) : jw_E 0 uX5_holdsOthers hi 32 [none] [.int t0] h (.inl (some (.int r))) h' := by
  unfold g_X5_holdsOthers_b32 at hq
  obtain ⟨v1, ev1, hq⟩ := Option.bind_eq_some_iff.mp hq
  cases hq
  exact jw_iret (ty := .boolean) dX5_holdsOthers_32 rfl (jw_rb_spec ev1)

set_option maxRecDepth 100000 in
set_option maxHeartbeats 4000000 in
theorem l_X5_holdsOthers_b27 {hi : jw_H} {h : jw_H}  {r : Int32} {h' : jw_H} (hq : g_X5_holdsOthers_b27  h  = some (r, h')) : jw_E 0 uX5_holdsOthers hi 27 [none] [] h (.inl (some (.int r))) h' := by
  unfold g_X5_holdsOthers_b27 at hq
  refine jw_iconst dX5_holdsOthers_27 (v := (1 : Int32)) (by decide) ?_
  refine jw_goto (tgt := 32) dX5_holdsOthers_28 (by decide) ?_
  exact l_X5_holdsOthers_b32  hq

set_option maxRecDepth 100000 in
set_option maxHeartbeats 4000000 in
theorem l_X5_holdsOthers {hi : jw_H} {h : jw_H} {x0 : Nat} {r : Int32} {h' : jw_H} (hq : f_X5_holdsOthers  h x0 = some (r, h')) : jw_E 0 uX5_holdsOthers hi 0 [some (.ref x0)] [] h (.inl (some (.int r))) h' := by
  unfold f_X5_holdsOthers at hq
  refine jw_aload_n dX5_holdsOthers_0 (o := (some x0)) rfl ?_
  obtain ⟨v1, ev1, hq⟩ := Option.bind_eq_some_iff.mp hq
  refine jw_getI (o := (some x0)) dX5_holdsOthers_1 ev1 fl_X5_27 rfl ?_
  refine jw_bipush dX5_holdsOthers_4 (v := (103 : Int32)) (by decide) ?_
  rcases jw_if hq with ⟨c2, hq⟩ | ⟨c2, hq⟩
  · refine jw_icmp_eq_t (tgt := 27) dX5_holdsOthers_6 (by decide) c2 ?_
    refine jw_forget [false] (L' := [none]) rfl ?_
    exact l_X5_holdsOthers_b27  hq
  · refine jw_icmp_eq_f (tgt := 27) dX5_holdsOthers_6 (by decide) c2 ?_
    refine jw_aload_n dX5_holdsOthers_9 (o := (some x0)) rfl ?_
    obtain ⟨v3, ev3, hq⟩ := Option.bind_eq_some_iff.mp hq
    refine jw_getI (o := (some x0)) dX5_holdsOthers_10 ev3 fl_X5_27 rfl ?_
    refine jw_bipush dX5_holdsOthers_13 (v := (71 : Int32)) (by decide) ?_
    rcases jw_if hq with ⟨c4, hq⟩ | ⟨c4, hq⟩
    · refine jw_icmp_eq_t (tgt := 27) dX5_holdsOthers_15 (by decide) c4 ?_
      refine jw_forget [false] (L' := [none]) rfl ?_
      exact l_X5_holdsOthers_b27  hq
    · refine jw_icmp_eq_f (tgt := 27) dX5_holdsOthers_15 (by decide) c4 ?_
      refine jw_aload_n dX5_holdsOthers_18 (o := (some x0)) rfl ?_
      obtain ⟨v5, ev5, hq⟩ := Option.bind_eq_some_iff.mp hq
      refine jw_getI (o := (some x0)) dX5_holdsOthers_19 ev5 fl_X5_27 rfl ?_
      refine jw_bipush dX5_holdsOthers_22 (v := (123 : Int32)) (by decide) ?_
      rcases jw_if hq with ⟨c6, hq⟩ | ⟨c6, hq⟩
      · refine jw_icmp_ne_f (tgt := 31) dX5_holdsOthers_24 (by decide) c6 ?_
        refine jw_forget [false] (L' := [none]) rfl ?_
        exact l_X5_holdsOthers_b27  hq
      · refine jw_icmp_ne_t (tgt := 31) dX5_holdsOthers_24 (by decide) c6 ?_
        refine jw_iconst dX5_holdsOthers_31 (v := (0 : Int32)) (by decide) ?_
        refine jw_forget [false] (L' := [none]) rfl ?_
        exact l_X5_holdsOthers_b32  hq

theorem c_X5_holdsOthers {h : jw_H} {x0 : Nat} {r : Int32} {h' : jw_H} (hq : f_X5_holdsOthers h x0 = some (r, h')) : jw_Con (Cond.code yX5_holdsOthers cX5_holdsOthers 1 (some .boolean)) yX5_holdsOthers 0 [.ref x0] h (.inl (some (.int r))) h' :=
  jw_con false (plainFor_of_name (by decide +kernel)) (fun z => nomatch z) (by simp [jw_ent, jw_sl0_nil, jw_sl0_int, jw_sl0_long, jw_sl0_ref, jw_sl0_rf, jw_sl0_scr, List.replicate]) (by simp [jw_sl0_nil, jw_sl0_int, jw_sl0_long, jw_sl0_ref, jw_sl0_rf, jw_sl0_scr]) (l_X5_holdsOthers hq)


/-! X5_steers -/
noncomputable def g_X5_steers_b50 (h : jw_H) (t0 : Int32) : Option (Int32 × jw_H) :=
 (jw_rb t0).bind fun v1 =>
 some (t0, h)

noncomputable def g_X5_steers_b45 (h : jw_H)  : Option (Int32 × jw_H) :=
 g_X5_steers_b50  h (1 : Int32)

noncomputable def f_X5_steers (h : jw_H) (x0 : Nat) : Option (Int32 × jw_H) :=
 (jw_gI h 5 (some x0) 3).bind fun v1 =>
 if v1 = (58 : Int32) then (g_X5_steers_b45  h )
 else ((jw_gI h 5 (some x0) 3).bind fun v3 =>
 if v3 = (98 : Int32) then (g_X5_steers_b45  h )
 else ((jw_gI h 5 (some x0) 3).bind fun v5 =>
 if v5 = (84 : Int32) then (g_X5_steers_b45  h )
 else ((jw_gI h 5 (some x0) 3).bind fun v7 =>
 if v7 = (113 : Int32) then (g_X5_steers_b45  h )
 else ((jw_gI h 5 (some x0) 3).bind fun v9 =>
 if v9 = (78 : Int32) then (g_X5_steers_b45  h )
 else (g_X5_steers_b50  h (0 : Int32))))))

set_option maxRecDepth 100000 in
set_option maxHeartbeats 4000000 in
theorem l_X5_steers_b50 {hi : jw_H} {h : jw_H} {t0 : Int32} {r : Int32} {h' : jw_H} (hq : g_X5_steers_b50  h t0 = some (r, h')) : jw_E 0 uX5_steers hi 50 [none] [.int t0] h (.inl (some (.int r))) h' := by
  unfold g_X5_steers_b50 at hq
  obtain ⟨v1, ev1, hq⟩ := Option.bind_eq_some_iff.mp hq
  cases hq
  exact jw_iret (ty := .boolean) dX5_steers_50 rfl (jw_rb_spec ev1)

set_option maxRecDepth 100000 in
set_option maxHeartbeats 4000000 in
theorem l_X5_steers_b45 {hi : jw_H} {h : jw_H}  {r : Int32} {h' : jw_H} (hq : g_X5_steers_b45  h  = some (r, h')) : jw_E 0 uX5_steers hi 45 [none] [] h (.inl (some (.int r))) h' := by
  unfold g_X5_steers_b45 at hq
  refine jw_iconst dX5_steers_45 (v := (1 : Int32)) (by decide) ?_
  refine jw_goto (tgt := 50) dX5_steers_46 (by decide) ?_
  exact l_X5_steers_b50  hq

set_option maxRecDepth 100000 in
set_option maxHeartbeats 4000000 in
theorem l_X5_steers {hi : jw_H} {h : jw_H} {x0 : Nat} {r : Int32} {h' : jw_H} (hq : f_X5_steers  h x0 = some (r, h')) : jw_E 0 uX5_steers hi 0 [some (.ref x0)] [] h (.inl (some (.int r))) h' := by
  unfold f_X5_steers at hq
  refine jw_aload_n dX5_steers_0 (o := (some x0)) rfl ?_
  obtain ⟨v1, ev1, hq⟩ := Option.bind_eq_some_iff.mp hq
  refine jw_getI (o := (some x0)) dX5_steers_1 ev1 fl_X5_27 rfl ?_
  refine jw_bipush dX5_steers_4 (v := (58 : Int32)) (by decide) ?_
  rcases jw_if hq with ⟨c2, hq⟩ | ⟨c2, hq⟩
  · refine jw_icmp_eq_t (tgt := 45) dX5_steers_6 (by decide) c2 ?_
    refine jw_forget [false] (L' := [none]) rfl ?_
    exact l_X5_steers_b45  hq
  · refine jw_icmp_eq_f (tgt := 45) dX5_steers_6 (by decide) c2 ?_
    refine jw_aload_n dX5_steers_9 (o := (some x0)) rfl ?_
    obtain ⟨v3, ev3, hq⟩ := Option.bind_eq_some_iff.mp hq
    refine jw_getI (o := (some x0)) dX5_steers_10 ev3 fl_X5_27 rfl ?_
    refine jw_bipush dX5_steers_13 (v := (98 : Int32)) (by decide) ?_
    rcases jw_if hq with ⟨c4, hq⟩ | ⟨c4, hq⟩
    · refine jw_icmp_eq_t (tgt := 45) dX5_steers_15 (by decide) c4 ?_
      refine jw_forget [false] (L' := [none]) rfl ?_
      exact l_X5_steers_b45  hq
    · refine jw_icmp_eq_f (tgt := 45) dX5_steers_15 (by decide) c4 ?_
      refine jw_aload_n dX5_steers_18 (o := (some x0)) rfl ?_
      obtain ⟨v5, ev5, hq⟩ := Option.bind_eq_some_iff.mp hq
      refine jw_getI (o := (some x0)) dX5_steers_19 ev5 fl_X5_27 rfl ?_
      refine jw_bipush dX5_steers_22 (v := (84 : Int32)) (by decide) ?_
      rcases jw_if hq with ⟨c6, hq⟩ | ⟨c6, hq⟩
      · refine jw_icmp_eq_t (tgt := 45) dX5_steers_24 (by decide) c6 ?_
        refine jw_forget [false] (L' := [none]) rfl ?_
        exact l_X5_steers_b45  hq
      · refine jw_icmp_eq_f (tgt := 45) dX5_steers_24 (by decide) c6 ?_
        refine jw_aload_n dX5_steers_27 (o := (some x0)) rfl ?_
        obtain ⟨v7, ev7, hq⟩ := Option.bind_eq_some_iff.mp hq
        refine jw_getI (o := (some x0)) dX5_steers_28 ev7 fl_X5_27 rfl ?_
        refine jw_bipush dX5_steers_31 (v := (113 : Int32)) (by decide) ?_
        rcases jw_if hq with ⟨c8, hq⟩ | ⟨c8, hq⟩
        · refine jw_icmp_eq_t (tgt := 45) dX5_steers_33 (by decide) c8 ?_
          refine jw_forget [false] (L' := [none]) rfl ?_
          exact l_X5_steers_b45  hq
        · refine jw_icmp_eq_f (tgt := 45) dX5_steers_33 (by decide) c8 ?_
          refine jw_aload_n dX5_steers_36 (o := (some x0)) rfl ?_
          obtain ⟨v9, ev9, hq⟩ := Option.bind_eq_some_iff.mp hq
          refine jw_getI (o := (some x0)) dX5_steers_37 ev9 fl_X5_27 rfl ?_
          refine jw_bipush dX5_steers_40 (v := (78 : Int32)) (by decide) ?_
          rcases jw_if hq with ⟨c10, hq⟩ | ⟨c10, hq⟩
          · refine jw_icmp_ne_f (tgt := 49) dX5_steers_42 (by decide) c10 ?_
            refine jw_forget [false] (L' := [none]) rfl ?_
            exact l_X5_steers_b45  hq
          · refine jw_icmp_ne_t (tgt := 49) dX5_steers_42 (by decide) c10 ?_
            refine jw_iconst dX5_steers_49 (v := (0 : Int32)) (by decide) ?_
            refine jw_forget [false] (L' := [none]) rfl ?_
            exact l_X5_steers_b50  hq

theorem c_X5_steers {h : jw_H} {x0 : Nat} {r : Int32} {h' : jw_H} (hq : f_X5_steers h x0 = some (r, h')) : jw_Con (Cond.code yX5_steers cX5_steers 1 (some .boolean)) yX5_steers 0 [.ref x0] h (.inl (some (.int r))) h' :=
  jw_con false (plainFor_of_name (by decide +kernel)) (fun z => nomatch z) (by simp [jw_ent, jw_sl0_nil, jw_sl0_int, jw_sl0_long, jw_sl0_ref, jw_sl0_rf, jw_sl0_scr, List.replicate]) (by simp [jw_sl0_nil, jw_sl0_int, jw_sl0_long, jw_sl0_ref, jw_sl0_rf, jw_sl0_scr]) (l_X5_steers hq)


/-! X6_placeBehind -/
noncomputable def g_X6_placeBehind_b41 (k2 : jw_H → Nat → Int32 → Int32 → Option (Int32 × jw_H)) (h : jw_H) (x0 : Nat) (x1 : Int32) (x2 : Int32) : Option (Int32 × jw_H) :=
 k2 h x0 x1 (x2 + (1 : Int32))

noncomputable def g_X6_placeBehind_b2 (k2 : jw_H → Nat → Int32 → Int32 → Option (Int32 × jw_H)) (h : jw_H) (x0 : Nat) (x1 : Int32) (x2 : Int32) : Option (Int32 × jw_H) :=
 (jw_gI h 6 (some x0) 6).bind fun v1 =>
 if v1 ≤ x2 then (some ((-1 : Int32), h))
 else ((jw_rc h 6 (some x0)).bind fun a3 =>
 jw_b2 (f_X6_orderAt h a3 x2) fun w5 h4 =>
 if w5 = none then (g_X6_placeBehind_b41 k2 h4 x0 x1 x2)
 else ((jw_gI h4 5 w5 3).bind fun v7 =>
 if v7 = (58 : Int32) then ((jw_gI h4 5 w5 5).bind fun v9 =>
 if v9 = x1 then (some ((x2 + (1 : Int32)), h4))
 else (g_X6_placeBehind_b41 k2 h4 x0 x1 x2))
 else (g_X6_placeBehind_b41 k2 h4 x0 x1 x2)))

noncomputable def f_X6_placeBehind_b2 (n : Nat) : jw_H → Nat → Int32 → Int32 → Option (Int32 × jw_H) :=
 Nat.rec (fun _ _ _ _ => none) (fun _ k2 => g_X6_placeBehind_b2 k2) n

noncomputable def f_X6_placeBehind (h : jw_H) (x0 : Nat) (x1 : Int32) : Option (Int32 × jw_H) :=
 f_X6_placeBehind_b2  jw_FU h x0 x1 (0 : Int32)

set_option maxRecDepth 100000 in
set_option maxHeartbeats 4000000 in
theorem l_X6_placeBehind_b41 {hi : jw_H} {k2 : jw_H → Nat → Int32 → Int32 → Option (Int32 × jw_H)} (hk2 : ∀ (h : jw_H) (x0 : Nat) (x1 : Int32) (x2 : Int32) (r : Int32) (h' : jw_H), k2 h x0 x1 x2 = some (r, h') → jw_E 1 uX6_placeBehind hi 2 [some (.ref x0), some (.int x1), some (.int x2), none] [] h (.inl (some (.int r))) h') {h : jw_H} {x0 : Nat} {x1 : Int32} {x2 : Int32} {r : Int32} {h' : jw_H} (hq : g_X6_placeBehind_b41 k2 h x0 x1 x2 = some (r, h')) : jw_E 1 uX6_placeBehind hi 41 [some (.ref x0), some (.int x1), some (.int x2), none] [] h (.inl (some (.int r))) h' := by
  unfold g_X6_placeBehind_b41 at hq
  refine jw_iinc (L' := [some (.ref x0), some (.int x1), some (.int (x2 + (1 : Int32))), none]) dX6_placeBehind_41 rfl (v := (1 : Int32)) (by decide) (Nat.le_of_ble_eq_true rfl) rfl ?_
  refine jw_goto (tgt := 2) dX6_placeBehind_44 (by decide) ?_
  exact hk2 _ _ _ _ _ _ hq

set_option maxRecDepth 100000 in
set_option maxHeartbeats 4000000 in
theorem l_X6_placeBehind_b2g {hi : jw_H} {k2 : jw_H → Nat → Int32 → Int32 → Option (Int32 × jw_H)} (hk2 : ∀ (h : jw_H) (x0 : Nat) (x1 : Int32) (x2 : Int32) (r : Int32) (h' : jw_H), k2 h x0 x1 x2 = some (r, h') → jw_E 1 uX6_placeBehind hi 2 [some (.ref x0), some (.int x1), some (.int x2), none] [] h (.inl (some (.int r))) h') {h : jw_H} {x0 : Nat} {x1 : Int32} {x2 : Int32} {r : Int32} {h' : jw_H} (hq : g_X6_placeBehind_b2 k2 h x0 x1 x2 = some (r, h')) : jw_E 1 uX6_placeBehind hi 2 [some (.ref x0), some (.int x1), some (.int x2), none] [] h (.inl (some (.int r))) h' := by
  unfold g_X6_placeBehind_b2 at hq
  refine jw_iload_n dX6_placeBehind_2 rfl ?_
  refine jw_aload_n dX6_placeBehind_3 (o := (some x0)) rfl ?_
  obtain ⟨v1, ev1, hq⟩ := Option.bind_eq_some_iff.mp hq
  refine jw_getI (o := (some x0)) dX6_placeBehind_4 ev1 fl_X6_30 rfl ?_
  rcases jw_if hq with ⟨c2, hq⟩ | ⟨c2, hq⟩
  · refine jw_icmp_ge_t (tgt := 47) dX6_placeBehind_7 (by decide) c2 ?_
    refine jw_iconst dX6_placeBehind_47 (v := (-1 : Int32)) (by decide) ?_
    cases hq
    exact jw_iret (ty := .int) dX6_placeBehind_48 rfl rfl
  · refine jw_icmp_ge_f (tgt := 47) dX6_placeBehind_7 (by decide) c2 ?_
    refine jw_aload_n dX6_placeBehind_10 (o := (some x0)) rfl ?_
    refine jw_iload_n dX6_placeBehind_11 rfl ?_
    obtain ⟨a3, ea3, hq⟩ := Option.bind_eq_some_iff.mp hq
    obtain ⟨eoa3, eta3⟩ := jw_rc_spec ea3
    obtain ⟨w5, h4, ew5, hq⟩ := jw_b2_spec hq
    refine jw_callV (As := [.int x2]) (S := []) (a := a3) (v := some (va_rf w5)) dX6_placeBehind_12 mt_X6_orderAt in_X6_orderAt se_X6_orderAt lk_X6_61 (c_X6_orderAt ew5) eta3 (by decide) rfl rfl (by decide) (Nat.le_of_ble_eq_true rfl) (by cases eoa3; rfl) ?_
    refine jw_astore_n (o := w5) (L' := [some (.ref x0), some (.int x1), some (.int x2), some (va_rf w5)]) dX6_placeBehind_15 (Nat.le_of_ble_eq_true rfl) rfl ?_
    refine jw_aload_n dX6_placeBehind_16 (o := w5) rfl ?_
    rcases jw_if hq with ⟨c6, hq⟩ | ⟨c6, hq⟩
    · refine jw_ifnull_t (o := w5) (tgt := 41) dX6_placeBehind_17 (by decide) c6 ?_
      refine jw_forget [true, true, true, false] (L' := [some (.ref x0), some (.int x1), some (.int x2), none]) rfl ?_
      exact l_X6_placeBehind_b41 hk2 hq
    · refine jw_ifnull_f (o := w5) dX6_placeBehind_17 c6 ?_
      refine jw_aload_n dX6_placeBehind_20 (o := w5) rfl ?_
      obtain ⟨v7, ev7, hq⟩ := Option.bind_eq_some_iff.mp hq
      refine jw_getI (o := w5) dX6_placeBehind_21 ev7 fl_X6_69 rfl ?_
      refine jw_bipush dX6_placeBehind_24 (v := (58 : Int32)) (by decide) ?_
      rcases jw_if hq with ⟨c8, hq⟩ | ⟨c8, hq⟩
      · refine jw_icmp_ne_f (tgt := 41) dX6_placeBehind_26 (by decide) c8 ?_
        refine jw_aload_n dX6_placeBehind_29 (o := w5) rfl ?_
        obtain ⟨v9, ev9, hq⟩ := Option.bind_eq_some_iff.mp hq
        refine jw_getI (o := w5) dX6_placeBehind_30 ev9 fl_X6_140 rfl ?_
        refine jw_iload_n dX6_placeBehind_33 rfl ?_
        rcases jw_if hq with ⟨c10, hq⟩ | ⟨c10, hq⟩
        · refine jw_icmp_ne_f (tgt := 41) dX6_placeBehind_34 (by decide) c10 ?_
          refine jw_iload_n dX6_placeBehind_37 rfl ?_
          refine jw_iconst dX6_placeBehind_38 (v := (1 : Int32)) (by decide) ?_
          refine jw_iadd dX6_placeBehind_39 ?_
          cases hq
          exact jw_iret (ty := .int) dX6_placeBehind_40 rfl rfl
        · refine jw_icmp_ne_t (tgt := 41) dX6_placeBehind_34 (by decide) c10 ?_
          refine jw_forget [true, true, true, false] (L' := [some (.ref x0), some (.int x1), some (.int x2), none]) rfl ?_
          exact l_X6_placeBehind_b41 hk2 hq
      · refine jw_icmp_ne_t (tgt := 41) dX6_placeBehind_26 (by decide) c8 ?_
        refine jw_forget [true, true, true, false] (L' := [some (.ref x0), some (.int x1), some (.int x2), none]) rfl ?_
        exact l_X6_placeBehind_b41 hk2 hq

theorem l_X6_placeBehind_b2 {hi : jw_H} : ∀ (n : Nat) (h : jw_H) (x0 : Nat) (x1 : Int32) (x2 : Int32) (r : Int32) (h' : jw_H), f_X6_placeBehind_b2  n h x0 x1 x2 = some (r, h') → jw_E 1 uX6_placeBehind hi 2 [some (.ref x0), some (.int x1), some (.int x2), none] [] h (.inl (some (.int r))) h' := by
  intro n
  induction n with
  | zero => intro h x0 x1 x2 r h' hq; exact nomatch hq
  | succ n ih => intro h x0 x1 x2 r h' hq; exact l_X6_placeBehind_b2g ih hq

set_option maxRecDepth 100000 in
set_option maxHeartbeats 4000000 in
theorem l_X6_placeBehind {hi : jw_H} {h : jw_H} {x0 : Nat} {x1 : Int32} {r : Int32} {h' : jw_H} (hq : f_X6_placeBehind  h x0 x1 = some (r, h')) : jw_E 1 uX6_placeBehind hi 0 [some (.ref x0), some (.int x1), none, none] [] h (.inl (some (.int r))) h' := by
  unfold f_X6_placeBehind at hq
  refine jw_iconst dX6_placeBehind_0 (v := (0 : Int32)) (by decide) ?_
  refine jw_istore_n (L' := [some (.ref x0), some (.int x1), some (.int (0 : Int32)), none]) dX6_placeBehind_1 (Nat.le_of_ble_eq_true rfl) rfl ?_
  exact l_X6_placeBehind_b2  jw_FU _ _ _ _ _ _ hq

theorem c_X6_placeBehind {h : jw_H} {x0 : Nat} {x1 : Int32} {r : Int32} {h' : jw_H} (hq : f_X6_placeBehind h x0 x1 = some (r, h')) : jw_Con (Cond.code yX6_placeBehind cX6_placeBehind 4 (some .int)) yX6_placeBehind 1 [.ref x0, .int x1] h (.inl (some (.int r))) h' :=
  jw_con false (plainFor_of_name (by decide +kernel)) (fun z => nomatch z) (by simp [jw_ent, jw_sl0_nil, jw_sl0_int, jw_sl0_long, jw_sl0_ref, jw_sl0_rf, jw_sl0_scr, List.replicate]) (by simp [jw_sl0_nil, jw_sl0_int, jw_sl0_long, jw_sl0_ref, jw_sl0_rf, jw_sl0_scr]) (l_X6_placeBehind hq)


/-! X1_steer -/
noncomputable def g_X1_steer_b69 (h : jw_H) (x1 : Option Nat) : Option (Int32 × jw_H) :=
 (jw_gI h 5 x1 9).bind fun v1 =>
 some (v1, h)

noncomputable def g_X1_steer_b113 (h : jw_H) (x0 : Nat) (x1 : Option Nat) (x2 : Int32) : Option (Int32 × jw_H) :=
 (jw_gI h 5 x1 3).bind fun v1 =>
 if v1 = (84 : Int32) then ((jw_gR h 1 (some x0) 5).bind fun v3 =>
 (jw_pB h 2 v3 5 (0 : Int32)).bind fun h4 =>
 some (x2, h4))
 else (some (x2, h))

noncomputable def g_X1_steer_b74 (h : jw_H) (x0 : Nat) (x1 : Option Nat) : Option (Int32 × jw_H) :=
 (jw_gI h 5 x1 5).bind fun v1 =>
 if v1 = (-1 : Int32) then ((jw_gR h 1 (some x0) 0).bind fun v10 =>
 (jw_gI h 6 v10 6).bind fun v11 =>
 some (v11, h))
 else ((jw_gR h 1 (some x0) 0).bind fun v3 =>
 (jw_gI h 5 x1 5).bind fun v4 =>
 (jw_rc h 6 v3).bind fun a5 =>
 jw_b2 (f_X6_placeBehind h a5 v4) fun w7 h6 =>
 if w7 = (-1 : Int32) then ((jw_pI h6 1 (some x0) 15 (6 : Int32)).bind fun h9 =>
 g_X1_steer_b113  h9 x0 x1 w7)
 else (g_X1_steer_b113  h6 x0 x1 w7))

noncomputable def f_X1_steer (h : jw_H) (x0 : Nat) (x1 : Option Nat) : Option (Int32 × jw_H) :=
 (jw_gI h 5 x1 3).bind fun v1 =>
 if v1 = (113 : Int32) then ((jw_pB h 1 (some x0) 19 (1 : Int32)).bind fun h14 =>
 (jw_gR h14 1 (some x0) 0).bind fun v15 =>
 (jw_gI h14 6 v15 6).bind fun v16 =>
 some (v16, h14))
 else ((jw_gI h 5 x1 3).bind fun v3 =>
 if v3 = (78 : Int32) then ((jw_pB h 1 (some x0) 18 (1 : Int32)).bind fun h12 =>
 (jw_gI h12 5 x1 9).bind fun v13 =>
 some (v13, h12))
 else ((jw_gI h 5 x1 3).bind fun v5 =>
 if v5 = (58 : Int32) then (g_X1_steer_b69  h x1)
 else ((jw_gI h 5 x1 3).bind fun v7 =>
 if v7 = (84 : Int32) then ((jw_gR h 1 (some x0) 5).bind fun v9 =>
 (jw_gI h 2 v9 5).bind fun v10 =>
 if v10 = 0 then (g_X1_steer_b69  h x1)
 else (g_X1_steer_b74  h x0 x1))
 else (g_X1_steer_b74  h x0 x1))))

set_option maxRecDepth 100000 in
set_option maxHeartbeats 4000000 in
theorem l_X1_steer_b69 {hi : jw_H} {h : jw_H} {x1 : Option Nat} {r : Int32} {h' : jw_H} (hq : g_X1_steer_b69  h x1 = some (r, h')) : jw_E 2 uX1_steer hi 69 [none, some (va_rf x1), none] [] h (.inl (some (.int r))) h' := by
  unfold g_X1_steer_b69 at hq
  refine jw_aload_n dX1_steer_69 (o := x1) rfl ?_
  obtain ⟨v1, ev1, hq⟩ := Option.bind_eq_some_iff.mp hq
  refine jw_getI (o := x1) dX1_steer_70 ev1 fl_X1_172 rfl ?_
  cases hq
  exact jw_iret (ty := .int) dX1_steer_73 rfl rfl

set_option maxRecDepth 100000 in
set_option maxHeartbeats 4000000 in
theorem l_X1_steer_b113 {hi : jw_H} {h : jw_H} {x0 : Nat} {x1 : Option Nat} {x2 : Int32} {r : Int32} {h' : jw_H} (hq : g_X1_steer_b113  h x0 x1 x2 = some (r, h')) : jw_E 2 uX1_steer hi 113 [some (.ref x0), some (va_rf x1), some (.int x2)] [] h (.inl (some (.int r))) h' := by
  unfold g_X1_steer_b113 at hq
  refine jw_aload_n dX1_steer_113 (o := x1) rfl ?_
  obtain ⟨v1, ev1, hq⟩ := Option.bind_eq_some_iff.mp hq
  refine jw_getI (o := x1) dX1_steer_114 ev1 fl_X1_125 rfl ?_
  refine jw_bipush dX1_steer_117 (v := (84 : Int32)) (by decide) ?_
  rcases jw_if hq with ⟨c2, hq⟩ | ⟨c2, hq⟩
  · refine jw_icmp_ne_f (tgt := 130) dX1_steer_119 (by decide) c2 ?_
    refine jw_aload_n dX1_steer_122 (o := (some x0)) rfl ?_
    obtain ⟨v3, ev3, hq⟩ := Option.bind_eq_some_iff.mp hq
    refine jw_getR (o := (some x0)) dX1_steer_123 ev3 fl_X1_30 rfl ?_
    refine jw_iconst dX1_steer_126 (v := (0 : Int32)) (by decide) ?_
    obtain ⟨h4, eh4, hq⟩ := Option.bind_eq_some_iff.mp hq
    refine jw_putB (o := v3) dX1_steer_127 eh4 fl_X1_151 rfl rfl ?_
    refine jw_iload_n dX1_steer_130 rfl ?_
    cases hq
    exact jw_iret (ty := .int) dX1_steer_131 rfl rfl
  · refine jw_icmp_ne_t (tgt := 130) dX1_steer_119 (by decide) c2 ?_
    refine jw_iload_n dX1_steer_130 rfl ?_
    cases hq
    exact jw_iret (ty := .int) dX1_steer_131 rfl rfl

set_option maxRecDepth 100000 in
set_option maxHeartbeats 4000000 in
theorem l_X1_steer_b74 {hi : jw_H} {h : jw_H} {x0 : Nat} {x1 : Option Nat} {r : Int32} {h' : jw_H} (hq : g_X1_steer_b74  h x0 x1 = some (r, h')) : jw_E 2 uX1_steer hi 74 [some (.ref x0), some (va_rf x1), none] [] h (.inl (some (.int r))) h' := by
  unfold g_X1_steer_b74 at hq
  refine jw_aload_n dX1_steer_74 (o := x1) rfl ?_
  obtain ⟨v1, ev1, hq⟩ := Option.bind_eq_some_iff.mp hq
  refine jw_getI (o := x1) dX1_steer_75 ev1 fl_X1_130 rfl ?_
  refine jw_iconst dX1_steer_78 (v := (-1 : Int32)) (by decide) ?_
  rcases jw_if hq with ⟨c2, hq⟩ | ⟨c2, hq⟩
  · refine jw_icmp_ne_f (tgt := 90) dX1_steer_79 (by decide) c2 ?_
    refine jw_aload_n dX1_steer_82 (o := (some x0)) rfl ?_
    obtain ⟨v10, ev10, hq⟩ := Option.bind_eq_some_iff.mp hq
    refine jw_getR (o := (some x0)) dX1_steer_83 ev10 fl_X1_9 rfl ?_
    obtain ⟨v11, ev11, hq⟩ := Option.bind_eq_some_iff.mp hq
    refine jw_getI (o := v10) dX1_steer_86 ev11 fl_X1_72 rfl ?_
    cases hq
    exact jw_iret (ty := .int) dX1_steer_89 rfl rfl
  · refine jw_icmp_ne_t (tgt := 90) dX1_steer_79 (by decide) c2 ?_
    refine jw_aload_n dX1_steer_90 (o := (some x0)) rfl ?_
    obtain ⟨v3, ev3, hq⟩ := Option.bind_eq_some_iff.mp hq
    refine jw_getR (o := (some x0)) dX1_steer_91 ev3 fl_X1_9 rfl ?_
    refine jw_aload_n dX1_steer_94 (o := x1) rfl ?_
    obtain ⟨v4, ev4, hq⟩ := Option.bind_eq_some_iff.mp hq
    refine jw_getI (o := x1) dX1_steer_95 ev4 fl_X1_130 rfl ?_
    obtain ⟨a5, ea5, hq⟩ := Option.bind_eq_some_iff.mp hq
    obtain ⟨eoa5, eta5⟩ := jw_rc_spec ea5
    obtain ⟨w7, h6, ew7, hq⟩ := jw_b2_spec hq
    refine jw_callV (As := [.int v4]) (S := []) (a := a5) (v := some (.int w7)) dX1_steer_98 mt_X6_placeBehind in_X6_placeBehind se_X6_placeBehind lk_X1_243 (c_X6_placeBehind ew7) eta5 (by decide) rfl rfl (by decide) (Nat.le_of_ble_eq_true rfl) (by cases eoa5; rfl) ?_
    refine jw_istore_n (L' := [some (.ref x0), some (va_rf x1), some (.int w7)]) dX1_steer_101 (Nat.le_of_ble_eq_true rfl) ((jw_st1_of (j := 1) jw_long_rf).trans rfl) ?_
    refine jw_iload_n dX1_steer_102 rfl ?_
    refine jw_iconst dX1_steer_103 (v := (-1 : Int32)) (by decide) ?_
    rcases jw_if hq with ⟨c8, hq⟩ | ⟨c8, hq⟩
    · refine jw_icmp_ne_f (tgt := 113) dX1_steer_104 (by decide) c8 ?_
      refine jw_aload_n dX1_steer_107 (o := (some x0)) rfl ?_
      refine jw_bipush dX1_steer_108 (v := (6 : Int32)) (by decide) ?_
      obtain ⟨h9, eh9, hq⟩ := Option.bind_eq_some_iff.mp hq
      refine jw_putI (o := (some x0)) dX1_steer_110 eh9 fl_X1_65 rfl rfl ?_
      exact l_X1_steer_b113  hq
    · refine jw_icmp_ne_t (tgt := 113) dX1_steer_104 (by decide) c8 ?_
      exact l_X1_steer_b113  hq

set_option maxRecDepth 100000 in
set_option maxHeartbeats 4000000 in
theorem l_X1_steer {hi : jw_H} {h : jw_H} {x0 : Nat} {x1 : Option Nat} {r : Int32} {h' : jw_H} (hq : f_X1_steer  h x0 x1 = some (r, h')) : jw_E 2 uX1_steer hi 0 [some (.ref x0), some (va_rf x1), none] [] h (.inl (some (.int r))) h' := by
  unfold f_X1_steer at hq
  refine jw_aload_n dX1_steer_0 (o := x1) rfl ?_
  obtain ⟨v1, ev1, hq⟩ := Option.bind_eq_some_iff.mp hq
  refine jw_getI (o := x1) dX1_steer_1 ev1 fl_X1_125 rfl ?_
  refine jw_bipush dX1_steer_4 (v := (113 : Int32)) (by decide) ?_
  rcases jw_if hq with ⟨c2, hq⟩ | ⟨c2, hq⟩
  · refine jw_icmp_ne_f (tgt := 22) dX1_steer_6 (by decide) c2 ?_
    refine jw_aload_n dX1_steer_9 (o := (some x0)) rfl ?_
    refine jw_iconst dX1_steer_10 (v := (1 : Int32)) (by decide) ?_
    obtain ⟨h14, eh14, hq⟩ := Option.bind_eq_some_iff.mp hq
    refine jw_putB (o := (some x0)) dX1_steer_11 eh14 fl_X1_84 rfl rfl ?_
    refine jw_aload_n dX1_steer_14 (o := (some x0)) rfl ?_
    obtain ⟨v15, ev15, hq⟩ := Option.bind_eq_some_iff.mp hq
    refine jw_getR (o := (some x0)) dX1_steer_15 ev15 fl_X1_9 rfl ?_
    obtain ⟨v16, ev16, hq⟩ := Option.bind_eq_some_iff.mp hq
    refine jw_getI (o := v15) dX1_steer_18 ev16 fl_X1_72 rfl ?_
    cases hq
    exact jw_iret (ty := .int) dX1_steer_21 rfl rfl
  · refine jw_icmp_ne_t (tgt := 22) dX1_steer_6 (by decide) c2 ?_
    refine jw_aload_n dX1_steer_22 (o := x1) rfl ?_
    obtain ⟨v3, ev3, hq⟩ := Option.bind_eq_some_iff.mp hq
    refine jw_getI (o := x1) dX1_steer_23 ev3 fl_X1_125 rfl ?_
    refine jw_bipush dX1_steer_26 (v := (78 : Int32)) (by decide) ?_
    rcases jw_if hq with ⟨c4, hq⟩ | ⟨c4, hq⟩
    · refine jw_icmp_ne_f (tgt := 41) dX1_steer_28 (by decide) c4 ?_
      refine jw_aload_n dX1_steer_31 (o := (some x0)) rfl ?_
      refine jw_iconst dX1_steer_32 (v := (1 : Int32)) (by decide) ?_
      obtain ⟨h12, eh12, hq⟩ := Option.bind_eq_some_iff.mp hq
      refine jw_putB (o := (some x0)) dX1_steer_33 eh12 fl_X1_69 rfl rfl ?_
      refine jw_aload_n dX1_steer_36 (o := x1) rfl ?_
      obtain ⟨v13, ev13, hq⟩ := Option.bind_eq_some_iff.mp hq
      refine jw_getI (o := x1) dX1_steer_37 ev13 fl_X1_172 rfl ?_
      cases hq
      exact jw_iret (ty := .int) dX1_steer_40 rfl rfl
    · refine jw_icmp_ne_t (tgt := 41) dX1_steer_28 (by decide) c4 ?_
      refine jw_aload_n dX1_steer_41 (o := x1) rfl ?_
      obtain ⟨v5, ev5, hq⟩ := Option.bind_eq_some_iff.mp hq
      refine jw_getI (o := x1) dX1_steer_42 ev5 fl_X1_125 rfl ?_
      refine jw_bipush dX1_steer_45 (v := (58 : Int32)) (by decide) ?_
      rcases jw_if hq with ⟨c6, hq⟩ | ⟨c6, hq⟩
      · refine jw_icmp_eq_t (tgt := 69) dX1_steer_47 (by decide) c6 ?_
        refine jw_forget [false, true, true] (L' := [none, some (va_rf x1), none]) rfl ?_
        exact l_X1_steer_b69  hq
      · refine jw_icmp_eq_f (tgt := 69) dX1_steer_47 (by decide) c6 ?_
        refine jw_aload_n dX1_steer_50 (o := x1) rfl ?_
        obtain ⟨v7, ev7, hq⟩ := Option.bind_eq_some_iff.mp hq
        refine jw_getI (o := x1) dX1_steer_51 ev7 fl_X1_125 rfl ?_
        refine jw_bipush dX1_steer_54 (v := (84 : Int32)) (by decide) ?_
        rcases jw_if hq with ⟨c8, hq⟩ | ⟨c8, hq⟩
        · refine jw_icmp_ne_f (tgt := 74) dX1_steer_56 (by decide) c8 ?_
          refine jw_aload_n dX1_steer_59 (o := (some x0)) rfl ?_
          obtain ⟨v9, ev9, hq⟩ := Option.bind_eq_some_iff.mp hq
          refine jw_getR (o := (some x0)) dX1_steer_60 ev9 fl_X1_30 rfl ?_
          obtain ⟨v10, ev10, hq⟩ := Option.bind_eq_some_iff.mp hq
          refine jw_getI (o := v9) dX1_steer_63 ev10 fl_X1_151 rfl ?_
          rcases jw_if hq with ⟨c11, hq⟩ | ⟨c11, hq⟩
          · refine jw_if_ne_f (tgt := 74) dX1_steer_66 (by decide) c11 ?_
            refine jw_forget [false, true, true] (L' := [none, some (va_rf x1), none]) rfl ?_
            exact l_X1_steer_b69  hq
          · refine jw_if_ne_t (tgt := 74) dX1_steer_66 (by decide) c11 ?_
            exact l_X1_steer_b74  hq
        · refine jw_icmp_ne_t (tgt := 74) dX1_steer_56 (by decide) c8 ?_
          exact l_X1_steer_b74  hq

theorem c_X1_steer {h : jw_H} {x0 : Nat} {x1 : Option Nat} {r : Int32} {h' : jw_H} (hq : f_X1_steer h x0 x1 = some (r, h')) : jw_Con (Cond.code yX1_steer cX1_steer 3 (some .int)) yX1_steer 2 [.ref x0, va_rf x1] h (.inl (some (.int r))) h' :=
  jw_con false (plainFor_of_name (by decide +kernel)) (fun z => nomatch z) (by simp [jw_ent, jw_sl0_nil, jw_sl0_int, jw_sl0_long, jw_sl0_ref, jw_sl0_rf, jw_sl0_scr, List.replicate]) (by simp [jw_sl0_nil, jw_sl0_int, jw_sl0_long, jw_sl0_ref, jw_sl0_rf, jw_sl0_scr]) (l_X1_steer hq)


/-! X2_appendRow -/
noncomputable def g_X2_appendRow_b46 (h : jw_H) (x0 : Nat) : Option (Unit × jw_H) :=
 (jw_pB h 2 (some x0) 4 (1 : Int32)).bind fun h1 =>
 some ((), h1)

noncomputable def f_X2_appendRow (h : jw_H) (x0 : Nat) (x1 : Int32) (x2 : Int32) : Option (Unit × jw_H) :=
 if x1 < 0 then (some ((), h))
 else (if (x2 - x1) < 0 then (some ((), h))
 else ((jw_gR h 2 (some x0) 1).bind fun v3 =>
 (jw_gR h 4 v3 1).bind fun v4 =>
 (jw_ln h v4).bind fun v5 =>
 if x2 ≤ v5 then ((jw_gI h 2 (some x0) 3).bind fun v7 =>
 if v7 < 0 then (g_X2_appendRow_b46  h x0)
 else ((jw_gR h 2 (some x0) 2).bind fun v9 =>
 (jw_ln h v9).bind fun v10 =>
 (jw_gI h 2 (some x0) 3).bind fun v11 =>
 if (x2 - x1) ≤ (v10 - v11) then ((jw_gR h 2 (some x0) 1).bind fun v13 =>
 (jw_gR h 4 v13 1).bind fun v14 =>
 (jw_gR h 2 (some x0) 2).bind fun v15 =>
 (jw_gI h 2 (some x0) 3).bind fun v16 =>
 (jw_cp h 21 v14 x1 v15 v16 (x2 - x1)).bind fun h17 =>
 (jw_gI h17 2 (some x0) 3).bind fun v18 =>
 (jw_pI h17 2 (some x0) 3 (v18 + (x2 - x1))).bind fun h19 =>
 some ((), h19))
 else (g_X2_appendRow_b46  h x0)))
 else (some ((), h))))

set_option maxRecDepth 100000 in
set_option maxHeartbeats 4000000 in
theorem l_X2_appendRow_b46 {hi : jw_H} {h : jw_H} {x0 : Nat} {r : Unit} {h' : jw_H} (hq : g_X2_appendRow_b46  h x0 = some (r, h')) : jw_E 1 uX2_appendRow hi 46 [some (.ref x0), none, none, none] [] h (.inl none) h' := by
  unfold g_X2_appendRow_b46 at hq
  refine jw_aload_n dX2_appendRow_46 (o := (some x0)) rfl ?_
  refine jw_iconst dX2_appendRow_47 (v := (1 : Int32)) (by decide) ?_
  obtain ⟨h1, eh1, hq⟩ := Option.bind_eq_some_iff.mp hq
  refine jw_putB (o := (some x0)) dX2_appendRow_48 eh1 fl_X2_27 rfl rfl ?_
  cases hq
  exact jw_vret dX2_appendRow_51 rfl

set_option maxRecDepth 100000 in
set_option maxHeartbeats 4000000 in
theorem l_X2_appendRow {hi : jw_H} {h : jw_H} {x0 : Nat} {x1 : Int32} {x2 : Int32} {r : Unit} {h' : jw_H} (hq : f_X2_appendRow  h x0 x1 x2 = some (r, h')) : jw_E 1 uX2_appendRow hi 0 [some (.ref x0), some (.int x1), some (.int x2), none] [] h (.inl none) h' := by
  unfold f_X2_appendRow at hq
  refine jw_iload_n dX2_appendRow_0 rfl ?_
  refine jw_iload_n dX2_appendRow_1 rfl ?_
  refine jw_isub dX2_appendRow_2 ?_
  refine jw_istore_n (L' := [some (.ref x0), some (.int x1), some (.int x2), some (.int (x2 - x1))]) dX2_appendRow_3 (Nat.le_of_ble_eq_true rfl) rfl ?_
  refine jw_iload_n dX2_appendRow_4 rfl ?_
  rcases jw_if hq with ⟨c1, hq⟩ | ⟨c1, hq⟩
  · refine jw_if_lt_t (tgt := 24) dX2_appendRow_5 (by decide) c1 ?_
    cases hq
    exact jw_vret dX2_appendRow_24 rfl
  · refine jw_if_lt_f (tgt := 24) dX2_appendRow_5 (by decide) c1 ?_
    refine jw_iload_n dX2_appendRow_8 rfl ?_
    rcases jw_if hq with ⟨c2, hq⟩ | ⟨c2, hq⟩
    · refine jw_if_lt_t (tgt := 24) dX2_appendRow_9 (by decide) c2 ?_
      cases hq
      exact jw_vret dX2_appendRow_24 rfl
    · refine jw_if_lt_f (tgt := 24) dX2_appendRow_9 (by decide) c2 ?_
      refine jw_iload_n dX2_appendRow_12 rfl ?_
      refine jw_aload_n dX2_appendRow_13 (o := (some x0)) rfl ?_
      obtain ⟨v3, ev3, hq⟩ := Option.bind_eq_some_iff.mp hq
      refine jw_getR (o := (some x0)) dX2_appendRow_14 ev3 fl_X2_15 rfl ?_
      obtain ⟨v4, ev4, hq⟩ := Option.bind_eq_some_iff.mp hq
      refine jw_getR (o := v3) dX2_appendRow_17 ev4 fl_X2_65 rfl ?_
      obtain ⟨v5, ev5, hq⟩ := Option.bind_eq_some_iff.mp hq
      refine jw_alen (o := v4) dX2_appendRow_20 ev5 ?_
      rcases jw_if hq with ⟨c6, hq⟩ | ⟨c6, hq⟩
      · refine jw_icmp_le_t (tgt := 25) dX2_appendRow_21 (by decide) c6 ?_
        refine jw_aload_n dX2_appendRow_25 (o := (some x0)) rfl ?_
        obtain ⟨v7, ev7, hq⟩ := Option.bind_eq_some_iff.mp hq
        refine jw_getI (o := (some x0)) dX2_appendRow_26 ev7 fl_X2_23 rfl ?_
        rcases jw_if hq with ⟨c8, hq⟩ | ⟨c8, hq⟩
        · refine jw_if_lt_t (tgt := 46) dX2_appendRow_29 (by decide) c8 ?_
          refine jw_forget [true, false, false, false] (L' := [some (.ref x0), none, none, none]) rfl ?_
          exact l_X2_appendRow_b46  hq
        · refine jw_if_lt_f (tgt := 46) dX2_appendRow_29 (by decide) c8 ?_
          refine jw_iload_n dX2_appendRow_32 rfl ?_
          refine jw_aload_n dX2_appendRow_33 (o := (some x0)) rfl ?_
          obtain ⟨v9, ev9, hq⟩ := Option.bind_eq_some_iff.mp hq
          refine jw_getR (o := (some x0)) dX2_appendRow_34 ev9 fl_X2_19 rfl ?_
          obtain ⟨v10, ev10, hq⟩ := Option.bind_eq_some_iff.mp hq
          refine jw_alen (o := v9) dX2_appendRow_37 ev10 ?_
          refine jw_aload_n dX2_appendRow_38 (o := (some x0)) rfl ?_
          obtain ⟨v11, ev11, hq⟩ := Option.bind_eq_some_iff.mp hq
          refine jw_getI (o := (some x0)) dX2_appendRow_39 ev11 fl_X2_23 rfl ?_
          refine jw_isub dX2_appendRow_42 ?_
          rcases jw_if hq with ⟨c12, hq⟩ | ⟨c12, hq⟩
          · refine jw_icmp_le_t (tgt := 52) dX2_appendRow_43 (by decide) c12 ?_
            refine jw_aload_n dX2_appendRow_52 (o := (some x0)) rfl ?_
            obtain ⟨v13, ev13, hq⟩ := Option.bind_eq_some_iff.mp hq
            refine jw_getR (o := (some x0)) dX2_appendRow_53 ev13 fl_X2_15 rfl ?_
            obtain ⟨v14, ev14, hq⟩ := Option.bind_eq_some_iff.mp hq
            refine jw_getR (o := v13) dX2_appendRow_56 ev14 fl_X2_65 rfl ?_
            refine jw_iload_n dX2_appendRow_59 rfl ?_
            refine jw_aload_n dX2_appendRow_60 (o := (some x0)) rfl ?_
            obtain ⟨v15, ev15, hq⟩ := Option.bind_eq_some_iff.mp hq
            refine jw_getR (o := (some x0)) dX2_appendRow_61 ev15 fl_X2_19 rfl ?_
            refine jw_aload_n dX2_appendRow_64 (o := (some x0)) rfl ?_
            obtain ⟨v16, ev16, hq⟩ := Option.bind_eq_some_iff.mp hq
            refine jw_getI (o := (some x0)) dX2_appendRow_65 ev16 fl_X2_23 rfl ?_
            refine jw_iload_n dX2_appendRow_68 rfl ?_
            obtain ⟨h17, eh17, hq⟩ := Option.bind_eq_some_iff.mp hq
            refine jw_acp (o1 := v14) (o2 := v15) (t := 21) dX2_appendRow_69 (by decide) al_X2_68 an_0 as_0 ai_0 (by decide) (Nat.le_of_ble_eq_true rfl) eh17 ?_
            refine jw_aload_n dX2_appendRow_72 (o := (some x0)) rfl ?_
            refine jw_dup dX2_appendRow_73 rfl ?_
            obtain ⟨v18, ev18, hq⟩ := Option.bind_eq_some_iff.mp hq
            refine jw_getI (o := (some x0)) dX2_appendRow_74 ev18 fl_X2_23 rfl ?_
            refine jw_iload_n dX2_appendRow_77 rfl ?_
            refine jw_iadd dX2_appendRow_78 ?_
            obtain ⟨h19, eh19, hq⟩ := Option.bind_eq_some_iff.mp hq
            refine jw_putI (o := (some x0)) dX2_appendRow_79 eh19 fl_X2_23 rfl rfl ?_
            cases hq
            exact jw_vret dX2_appendRow_82 rfl
          · refine jw_icmp_le_f (tgt := 52) dX2_appendRow_43 (by decide) c12 ?_
            refine jw_forget [true, false, false, false] (L' := [some (.ref x0), none, none, none]) rfl ?_
            exact l_X2_appendRow_b46  hq
      · refine jw_icmp_le_f (tgt := 25) dX2_appendRow_21 (by decide) c6 ?_
        cases hq
        exact jw_vret dX2_appendRow_24 rfl

theorem c_X2_appendRow {h : jw_H} {x0 : Nat} {x1 : Int32} {x2 : Int32} {r : Unit} {h' : jw_H} (hq : f_X2_appendRow h x0 x1 x2 = some (r, h')) : jw_Con (Cond.code yX2_appendRow cX2_appendRow 4 none) yX2_appendRow 1 [.ref x0, .int x1, .int x2] h (.inl none) h' :=
  jw_con false (plainFor_of_name (by decide +kernel)) (fun z => nomatch z) (by simp [jw_ent, jw_sl0_nil, jw_sl0_int, jw_sl0_long, jw_sl0_ref, jw_sl0_rf, jw_sl0_scr, List.replicate]) (by simp [jw_sl0_nil, jw_sl0_int, jw_sl0_long, jw_sl0_ref, jw_sl0_rf, jw_sl0_scr]) (l_X2_appendRow hq)

