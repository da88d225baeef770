/-! X7_lengthOf -/
abbrev uX7_lengthOf : jw_U := (yX7_lengthOf.cls, cX7_lengthOf, 2, false, (some .int))

noncomputable def g_X7_lengthOf_b34 (h : jw_H) (t0 : Int32) : Option (Int32 × jw_H) :=
 some (t0, h)

noncomputable def g_X7_lengthOf_b33 (h : jw_H)  : Option (Int32 × jw_H) :=
 g_X7_lengthOf_b34  h (-1 : Int32)

noncomputable def f_X7_lengthOf (h : jw_H) (x0 : Nat) (x1 : Int32) : Option (Int32 × jw_H) :=
 if x1 < (1 : Int32) then (g_X7_lengthOf_b33  h )
 else ((jw_gI h 7 (some x0) 2).bind fun v2 =>
 if v2 < x1 then (g_X7_lengthOf_b33  h )
 else ((jw_gR h 7 (some x0) 0).bind fun v4 =>
 (jw_ln h v4).bind fun v5 =>
 if v5 < x1 then (g_X7_lengthOf_b33  h )
 else ((jw_gR h 7 (some x0) 0).bind fun v7 =>
 (jw_ai h 20 v7 (x1 - (1 : Int32))).bind fun v8 =>
 g_X7_lengthOf_b34  h v8)))

set_option maxRecDepth 100000 in
set_option maxHeartbeats 4000000 in
theorem l_X7_lengthOf_b34 {hi : jw_H} {h : jw_H} {t0 : Int32} {r : Int32} {h' : jw_H} (hq : g_X7_lengthOf_b34  h t0 = some (r, h')) : jw_E 0 uX7_lengthOf hi 34 [none, none] [.int t0] h (.inl (some (.int r))) h' := by
  unfold g_X7_lengthOf_b34 at hq
  cases hq
  exact jw_iret (ty := .int) dX7_lengthOf_34 rfl rfl

set_option maxRecDepth 100000 in
set_option maxHeartbeats 4000000 in
theorem l_X7_lengthOf_b33 {hi : jw_H} {h : jw_H}  {r : Int32} {h' : jw_H} (hq : g_X7_lengthOf_b33  h  = some (r, h')) : jw_E 0 uX7_lengthOf hi 33 [none, none] [] h (.inl (some (.int r))) h' := by
  unfold g_X7_lengthOf_b33 at hq
  refine jw_iconst dX7_lengthOf_33 (v := (-1 : Int32)) (by decide) ?_
  exact l_X7_lengthOf_b34  hq

set_option maxRecDepth 100000 in
set_option maxHeartbeats 4000000 in
theorem l_X7_lengthOf {hi : jw_H} {h : jw_H} {x0 : Nat} {x1 : Int32} {r : Int32} {h' : jw_H} (hq : f_X7_lengthOf  h x0 x1 = some (r, h')) : jw_E 0 uX7_lengthOf hi 0 [some (.ref x0), some (.int x1)] [] h (.inl (some (.int r))) h' := by
  unfold f_X7_lengthOf at hq
  refine jw_iload_n dX7_lengthOf_0 rfl ?_
  refine jw_iconst dX7_lengthOf_1 (v := (1 : Int32)) (by decide) ?_
  rcases jw_if hq with ⟨c1, hq⟩ | ⟨c1, hq⟩
  · refine jw_icmp_lt_t (tgt := 33) dX7_lengthOf_2 (by decide) c1 ?_
    refine jw_forget [false, false] (L' := [none, none]) rfl ?_
    exact l_X7_lengthOf_b33  hq
  · refine jw_icmp_lt_f (tgt := 33) dX7_lengthOf_2 (by decide) c1 ?_
    refine jw_iload_n dX7_lengthOf_5 rfl ?_
    refine jw_aload_n dX7_lengthOf_6 (o := (some x0)) rfl ?_
    obtain ⟨v2, ev2, hq⟩ := Option.bind_eq_some_iff.mp hq
    refine jw_getI (o := (some x0)) dX7_lengthOf_7 ev2 fl_X7_25 rfl ?_
    rcases jw_if hq with ⟨c3, hq⟩ | ⟨c3, hq⟩
    · refine jw_icmp_gt_t (tgt := 33) dX7_lengthOf_10 (by decide) c3 ?_
      refine jw_forget [false, false] (L' := [none, none]) rfl ?_
      exact l_X7_lengthOf_b33  hq
    · refine jw_icmp_gt_f (tgt := 33) dX7_lengthOf_10 (by decide) c3 ?_
      refine jw_iload_n dX7_lengthOf_13 rfl ?_
      refine jw_aload_n dX7_lengthOf_14 (o := (some x0)) rfl ?_
      obtain ⟨v4, ev4, hq⟩ := Option.bind_eq_some_iff.mp hq
      refine jw_getR (o := (some x0)) dX7_lengthOf_15 ev4 fl_X7_15 rfl ?_
      obtain ⟨v5, ev5, hq⟩ := Option.bind_eq_some_iff.mp hq
      refine jw_alen (o := v4) dX7_lengthOf_18 ev5 ?_
      rcases jw_if hq with ⟨c6, hq⟩ | ⟨c6, hq⟩
      · refine jw_icmp_gt_t (tgt := 33) dX7_lengthOf_19 (by decide) c6 ?_
        refine jw_forget [false, false] (L' := [none, none]) rfl ?_
        exact l_X7_lengthOf_b33  hq
      · refine jw_icmp_gt_f (tgt := 33) dX7_lengthOf_19 (by decide) c6 ?_
        refine jw_aload_n dX7_lengthOf_22 (o := (some x0)) rfl ?_
        obtain ⟨v7, ev7, hq⟩ := Option.bind_eq_some_iff.mp hq
        refine jw_getR (o := (some x0)) dX7_lengthOf_23 ev7 fl_X7_15 rfl ?_
        refine jw_iload_n dX7_lengthOf_26 rfl ?_
        refine jw_iconst dX7_lengthOf_27 (v := (1 : Int32)) (by decide) ?_
        refine jw_isub dX7_lengthOf_28 ?_
        obtain ⟨v8, ev8, hq⟩ := Option.bind_eq_some_iff.mp hq
        refine jw_iald (o := v7) dX7_lengthOf_29 ev8 ?_
        refine jw_goto (tgt := 34) dX7_lengthOf_30 (by decide) ?_
        refine jw_forget [false, false] (L' := [none, none]) rfl ?_
        exact l_X7_lengthOf_b34  hq

theorem c_X7_lengthOf {h : jw_H} {x0 : Nat} {x1 : Int32} {r : Int32} {h' : jw_H} (hq : f_X7_lengthOf h x0 x1 = some (r, h')) : jw_Con (Cond.code yX7_lengthOf cX7_lengthOf 2 (some .int)) yX7_lengthOf 0 [.ref x0, .int x1] h (.inl (some (.int r))) h' :=
  jw_con false (plainFor_of_name (by decide +kernel)) (fun z => nomatch z) (by simp [jw_ent, jw_sl0_nil, jw_sl0_int, jw_sl0_long, jw_sl0_ref, jw_sl0_rf, jw_sl0_scr, List.replicate]) (by simp [jw_sl0_nil, jw_sl0_int, jw_sl0_long, jw_sl0_ref, jw_sl0_rf, jw_sl0_scr]) (l_X7_lengthOf hq)

/-! X7_signAt -/
abbrev uX7_signAt : jw_U := (yX7_signAt.cls, cX7_signAt, 3, false, (some .int))

noncomputable def f_X7_signAt (h : jw_H) (x0 : Nat) (x1 : Int32) (x2 : Int32) : Option (Int32 × jw_H) :=
 if x1 < (1 : Int32) then (some ((-1 : Int32), h))
 else ((jw_gI h 7 (some x0) 2).bind fun v2 =>
 if v2 < x1 then (some ((-1 : Int32), h))
 else ((jw_gR h 7 (some x0) 0).bind fun v4 =>
 (jw_ln h v4).bind fun v5 =>
 if x1 ≤ v5 then (if x2 < 0 then (some ((-1 : Int32), h))
 else ((jw_gR h 7 (some x0) 0).bind fun v8 =>
 (jw_ai h 20 v8 (x1 - (1 : Int32))).bind fun v9 =>
 if v9 ≤ x2 then (some ((-1 : Int32), h))
 else (if x2 < (30 : Int32) then ((jw_gR h 7 (some x0) 1).bind fun v12 =>
 (jw_ai h 21 v12 (((x1 - (1 : Int32)) * (30 : Int32)) + x2)).bind fun v13 =>
 some (v13, h))
 else (some ((-1 : Int32), h)))))
 else (some ((-1 : Int32), h))))

set_option maxRecDepth 100000 in
set_option maxHeartbeats 4000000 in
theorem l_X7_signAt {hi : jw_H} {h : jw_H} {x0 : Nat} {x1 : Int32} {x2 : Int32} {r : Int32} {h' : jw_H} (hq : f_X7_signAt  h x0 x1 x2 = some (r, h')) : jw_E 0 uX7_signAt hi 0 [some (.ref x0), some (.int x1), some (.int x2)] [] h (.inl (some (.int r))) h' := by
  unfold f_X7_signAt at hq
  refine jw_iload_n dX7_signAt_0 rfl ?_
  refine jw_iconst dX7_signAt_1 (v := (1 : Int32)) (by decide) ?_
  rcases jw_if hq with ⟨c1, hq⟩ | ⟨c1, hq⟩
  · refine jw_icmp_lt_t (tgt := 22) dX7_signAt_2 (by decide) c1 ?_
    refine jw_iconst dX7_signAt_22 (v := (-1 : Int32)) (by decide) ?_
    cases hq
    exact jw_iret (ty := .int) dX7_signAt_23 rfl rfl
  · refine jw_icmp_lt_f (tgt := 22) dX7_signAt_2 (by decide) c1 ?_
    refine jw_iload_n dX7_signAt_5 rfl ?_
    refine jw_aload_n dX7_signAt_6 (o := (some x0)) rfl ?_
    obtain ⟨v2, ev2, hq⟩ := Option.bind_eq_some_iff.mp hq
    refine jw_getI (o := (some x0)) dX7_signAt_7 ev2 fl_X7_25 rfl ?_
    rcases jw_if hq with ⟨c3, hq⟩ | ⟨c3, hq⟩
    · refine jw_icmp_gt_t (tgt := 22) dX7_signAt_10 (by decide) c3 ?_
      refine jw_iconst dX7_signAt_22 (v := (-1 : Int32)) (by decide) ?_
      cases hq
      exact jw_iret (ty := .int) dX7_signAt_23 rfl rfl
    · refine jw_icmp_gt_f (tgt := 22) dX7_signAt_10 (by decide) c3 ?_
      refine jw_iload_n dX7_signAt_13 rfl ?_
      refine jw_aload_n dX7_signAt_14 (o := (some x0)) rfl ?_
      obtain ⟨v4, ev4, hq⟩ := Option.bind_eq_some_iff.mp hq
      refine jw_getR (o := (some x0)) dX7_signAt_15 ev4 fl_X7_15 rfl ?_
      obtain ⟨v5, ev5, hq⟩ := Option.bind_eq_some_iff.mp hq
      refine jw_alen (o := v4) dX7_signAt_18 ev5 ?_
      rcases jw_if hq with ⟨c6, hq⟩ | ⟨c6, hq⟩
      · refine jw_icmp_le_t (tgt := 24) dX7_signAt_19 (by decide) c6 ?_
        refine jw_iload_n dX7_signAt_24 rfl ?_
        rcases jw_if hq with ⟨c7, hq⟩ | ⟨c7, hq⟩
        · refine jw_if_lt_t (tgt := 46) dX7_signAt_25 (by decide) c7 ?_
          refine jw_iconst dX7_signAt_46 (v := (-1 : Int32)) (by decide) ?_
          cases hq
          exact jw_iret (ty := .int) dX7_signAt_47 rfl rfl
        · refine jw_if_lt_f (tgt := 46) dX7_signAt_25 (by decide) c7 ?_
          refine jw_iload_n dX7_signAt_28 rfl ?_
          refine jw_aload_n dX7_signAt_29 (o := (some x0)) rfl ?_
          obtain ⟨v8, ev8, hq⟩ := Option.bind_eq_some_iff.mp hq
          refine jw_getR (o := (some x0)) dX7_signAt_30 ev8 fl_X7_15 rfl ?_
          refine jw_iload_n dX7_signAt_33 rfl ?_
          refine jw_iconst dX7_signAt_34 (v := (1 : Int32)) (by decide) ?_
          refine jw_isub dX7_signAt_35 ?_
          obtain ⟨v9, ev9, hq⟩ := Option.bind_eq_some_iff.mp hq
          refine jw_iald (o := v8) dX7_signAt_36 ev9 ?_
          rcases jw_if hq with ⟨c10, hq⟩ | ⟨c10, hq⟩
          · refine jw_icmp_ge_t (tgt := 46) dX7_signAt_37 (by decide) c10 ?_
            refine jw_iconst dX7_signAt_46 (v := (-1 : Int32)) (by decide) ?_
            cases hq
            exact jw_iret (ty := .int) dX7_signAt_47 rfl rfl
          · refine jw_icmp_ge_f (tgt := 46) dX7_signAt_37 (by decide) c10 ?_
            refine jw_iload_n dX7_signAt_40 rfl ?_
            refine jw_bipush dX7_signAt_41 (v := (30 : Int32)) (by decide) ?_
            rcases jw_if hq with ⟨c11, hq⟩ | ⟨c11, hq⟩
            · refine jw_icmp_lt_t (tgt := 48) dX7_signAt_43 (by decide) c11 ?_
              refine jw_aload_n dX7_signAt_48 (o := (some x0)) rfl ?_
              obtain ⟨v12, ev12, hq⟩ := Option.bind_eq_some_iff.mp hq
              refine jw_getR (o := (some x0)) dX7_signAt_49 ev12 fl_X7_21 rfl ?_
              refine jw_iload_n dX7_signAt_52 rfl ?_
              refine jw_iconst dX7_signAt_53 (v := (1 : Int32)) (by decide) ?_
              refine jw_isub dX7_signAt_54 ?_
              refine jw_bipush dX7_signAt_55 (v := (30 : Int32)) (by decide) ?_
              refine jw_imul dX7_signAt_57 ?_
              refine jw_iload_n dX7_signAt_58 rfl ?_
              refine jw_iadd dX7_signAt_59 ?_
              obtain ⟨v13, ev13, hq⟩ := Option.bind_eq_some_iff.mp hq
              refine jw_bald (o := v12) dX7_signAt_60 ev13 ?_
              cases hq
              exact jw_iret (ty := .int) dX7_signAt_61 rfl rfl
            · refine jw_icmp_lt_f (tgt := 48) dX7_signAt_43 (by decide) c11 ?_
              refine jw_iconst dX7_signAt_46 (v := (-1 : Int32)) (by decide) ?_
              cases hq
              exact jw_iret (ty := .int) dX7_signAt_47 rfl rfl
      · refine jw_icmp_le_f (tgt := 24) dX7_signAt_19 (by decide) c6 ?_
        refine jw_iconst dX7_signAt_22 (v := (-1 : Int32)) (by decide) ?_
        cases hq
        exact jw_iret (ty := .int) dX7_signAt_23 rfl rfl

theorem c_X7_signAt {h : jw_H} {x0 : Nat} {x1 : Int32} {x2 : Int32} {r : Int32} {h' : jw_H} (hq : f_X7_signAt h x0 x1 x2 = some (r, h')) : jw_Con (Cond.code yX7_signAt cX7_signAt 3 (some .int)) yX7_signAt 0 [.ref x0, .int x1, .int x2] h (.inl (some (.int r))) h' :=
  jw_con false (plainFor_of_name (by decide +kernel)) (fun z => nomatch z) (by simp [jw_ent, jw_sl0_nil, jw_sl0_int, jw_sl0_long, jw_sl0_ref, jw_sl0_rf, jw_sl0_scr, List.replicate]) (by simp [jw_sl0_nil, jw_sl0_int, jw_sl0_long, jw_sl0_ref, jw_sl0_rf, jw_sl0_scr]) (l_X7_signAt hq)

/-! X7_same -/
abbrev uX7_same : jw_U := (yX7_same.cls, cX7_same, 6, false, (some .boolean))

noncomputable def g_X7_same_b22 (k22 : jw_H → Nat → Int32 → Option Nat → Int32 → Int32 → Int32 → Option (Int32 × jw_H)) (h : jw_H) (x0 : Nat) (x1 : Int32) (x2 : Option Nat) (x3 : Int32) (x4 : Int32) (x5 : Int32) : Option (Int32 × jw_H) :=
 if x4 ≤ x5 then (some ((1 : Int32), h))
 else ((jw_rc h 7 (some x0)).bind fun a2 =>
 jw_b2 (f_X7_signAt h a2 x1 x5) fun w4 h3 =>
 (jw_rc h3 7 x2).bind fun a5 =>
 jw_b2 (f_X7_signAt h3 a5 x3 x5) fun w7 h6 =>
 if w4 = w7 then (k22 h6 x0 x1 x2 x3 x4 (x5 + (1 : Int32)))
 else (some ((0 : Int32), h6)))

noncomputable def f_X7_same_b22 (n : Nat) : jw_H → Nat → Int32 → Option Nat → Int32 → Int32 → Int32 → Option (Int32 × jw_H) :=
 Nat.rec (fun _ _ _ _ _ _ _ => none) (fun _ k22 => g_X7_same_b22 k22) n

noncomputable def f_X7_same (h : jw_H) (x0 : Nat) (x1 : Int32) (x2 : Option Nat) (x3 : Int32) : Option (Int32 × jw_H) :=
 (jw_rc h 7 (some x0)).bind fun a1 =>
 jw_b2 (f_X7_lengthOf h a1 x1) fun w3 h2 =>
 (jw_rc h2 7 x2).bind fun a4 =>
 jw_b2 (f_X7_lengthOf h2 a4 x3) fun w6 h5 =>
 if w3 = w6 then (f_X7_same_b22  jw_FU h5 x0 x1 x2 x3 w3 (0 : Int32))
 else (some ((0 : Int32), h5))

set_option maxRecDepth 100000 in
set_option maxHeartbeats 4000000 in
theorem l_X7_same_b22g {hi : jw_H} {k22 : jw_H → Nat → Int32 → Option Nat → Int32 → Int32 → Int32 → Option (Int32 × jw_H)} (hk22 : ∀ (h : jw_H) (x0 : Nat) (x1 : Int32) (x2 : Option Nat) (x3 : Int32) (x4 : Int32) (x5 : Int32) (r : Int32) (h' : jw_H), k22 h x0 x1 x2 x3 x4 x5 = some (r, h') → jw_E 1 uX7_same hi 22 [some (.ref x0), some (.int x1), some (va_rf x2), some (.int x3), some (.int x4), some (.int x5)] [] h (.inl (some (.int r))) h') {h : jw_H} {x0 : Nat} {x1 : Int32} {x2 : Option Nat} {x3 : Int32} {x4 : Int32} {x5 : Int32} {r : Int32} {h' : jw_H} (hq : g_X7_same_b22 k22 h x0 x1 x2 x3 x4 x5 = some (r, h')) : jw_E 1 uX7_same hi 22 [some (.ref x0), some (.int x1), some (va_rf x2), some (.int x3), some (.int x4), some (.int x5)] [] h (.inl (some (.int r))) h' := by
  unfold g_X7_same_b22 at hq
  refine jw_iload dX7_same_22 rfl ?_
  refine jw_iload dX7_same_24 rfl ?_
  rcases jw_if hq with ⟨c1, hq⟩ | ⟨c1, hq⟩
  · refine jw_icmp_ge_t (tgt := 54) dX7_same_26 (by decide) c1 ?_
    refine jw_iconst dX7_same_54 (v := (1 : Int32)) (by decide) ?_
    cases hq
    exact jw_iret (ty := .boolean) dX7_same_55 rfl rfl
  · refine jw_icmp_ge_f (tgt := 54) dX7_same_26 (by decide) c1 ?_
    refine jw_aload_n dX7_same_29 (o := (some x0)) rfl ?_
    refine jw_iload_n dX7_same_30 rfl ?_
    refine jw_iload dX7_same_31 rfl ?_
    obtain ⟨a2, ea2, hq⟩ := Option.bind_eq_some_iff.mp hq
    obtain ⟨eoa2, eta2⟩ := jw_rc_spec ea2
    obtain ⟨w4, h3, ew4, hq⟩ := jw_b2_spec hq
    refine jw_callV (As := [.int x1, .int x5]) (S := []) (a := a2) (v := some (.int w4)) dX7_same_33 mt_X7_signAt in_X7_signAt se_X7_signAt lk_X7_54 (c_X7_signAt ew4) eta2 (by decide) rfl rfl (by decide) (Nat.le_of_ble_eq_true rfl) (by rw [eoa2]; rfl) ?_
    refine jw_aload_n dX7_same_36 (o := x2) rfl ?_
    refine jw_iload_n dX7_same_37 rfl ?_
    refine jw_iload dX7_same_38 rfl ?_
    obtain ⟨a5, ea5, hq⟩ := Option.bind_eq_some_iff.mp hq
    obtain ⟨eoa5, eta5⟩ := jw_rc_spec ea5
    obtain ⟨w7, h6, ew7, hq⟩ := jw_b2_spec hq
    refine jw_callV (As := [.int x3, .int x5]) (S := [.int w4]) (a := a5) (v := some (.int w7)) dX7_same_40 mt_X7_signAt in_X7_signAt se_X7_signAt lk_X7_54 (c_X7_signAt ew7) eta5 (by decide) rfl rfl (by decide) (Nat.le_of_ble_eq_true rfl) (by rw [eoa5]; rfl) ?_
    rcases jw_if hq with ⟨c8, hq⟩ | ⟨c8, hq⟩
    · refine jw_icmp_eq_t (tgt := 48) dX7_same_43 (by decide) c8 ?_
      refine jw_iinc (L' := [some (.ref x0), some (.int x1), some (va_rf x2), some (.int x3), some (.int x4), some (.int (x5 + (1 : Int32)))]) dX7_same_48 rfl (v := (1 : Int32)) (by decide) (Nat.le_of_ble_eq_true rfl) rfl ?_
      refine jw_goto (tgt := 22) dX7_same_51 (by decide) ?_
      exact hk22 _ _ _ _ _ _ _ _ _ hq
    · refine jw_icmp_eq_f (tgt := 48) dX7_same_43 (by decide) c8 ?_
      refine jw_iconst dX7_same_46 (v := (0 : Int32)) (by decide) ?_
      cases hq
      exact jw_iret (ty := .boolean) dX7_same_47 rfl rfl

theorem l_X7_same_b22 {hi : jw_H} : ∀ (n : Nat) (h : jw_H) (x0 : Nat) (x1 : Int32) (x2 : Option Nat) (x3 : Int32) (x4 : Int32) (x5 : Int32) (r : Int32) (h' : jw_H), f_X7_same_b22  n h x0 x1 x2 x3 x4 x5 = some (r, h') → jw_E 1 uX7_same hi 22 [some (.ref x0), some (.int x1), some (va_rf x2), some (.int x3), some (.int x4), some (.int x5)] [] h (.inl (some (.int r))) h' := by
  intro n
  induction n with
  | zero => intro h x0 x1 x2 x3 x4 x5 r h' hq; exact nomatch hq
  | succ n ih => intro h x0 x1 x2 x3 x4 x5 r h' hq; exact l_X7_same_b22g ih hq

set_option maxRecDepth 100000 in
set_option maxHeartbeats 4000000 in
theorem l_X7_same {hi : jw_H} {h : jw_H} {x0 : Nat} {x1 : Int32} {x2 : Option Nat} {x3 : Int32} {r : Int32} {h' : jw_H} (hq : f_X7_same  h x0 x1 x2 x3 = some (r, h')) : jw_E 1 uX7_same hi 0 [some (.ref x0), some (.int x1), some (va_rf x2), some (.int x3), none, none] [] h (.inl (some (.int r))) h' := by
  unfold f_X7_same at hq
  refine jw_aload_n dX7_same_0 (o := (some x0)) rfl ?_
  refine jw_iload_n dX7_same_1 rfl ?_
  obtain ⟨a1, ea1, hq⟩ := Option.bind_eq_some_iff.mp hq
  obtain ⟨eoa1, eta1⟩ := jw_rc_spec ea1
  obtain ⟨w3, h2, ew3, hq⟩ := jw_b2_spec hq
  refine jw_callV (As := [.int x1]) (S := []) (a := a1) (v := some (.int w3)) dX7_same_2 mt_X7_lengthOf in_X7_lengthOf se_X7_lengthOf lk_X7_42 (c_X7_lengthOf ew3) eta1 (by decide) rfl rfl (by decide) (Nat.le_of_ble_eq_true rfl) (by rw [eoa1]; rfl) ?_
  refine jw_istore (L' := [some (.ref x0), some (.int x1), some (va_rf x2), some (.int x3), some (.int w3), none]) dX7_same_5 (Nat.le_of_ble_eq_true rfl) rfl ?_
  refine jw_iload dX7_same_7 rfl ?_
  refine jw_aload_n dX7_same_9 (o := x2) rfl ?_
  refine jw_iload_n dX7_same_10 rfl ?_
  obtain ⟨a4, ea4, hq⟩ := Option.bind_eq_some_iff.mp hq
  obtain ⟨eoa4, eta4⟩ := jw_rc_spec ea4
  obtain ⟨w6, h5, ew6, hq⟩ := jw_b2_spec hq
  refine jw_callV (As := [.int x3]) (S := [.int w3]) (a := a4) (v := some (.int w6)) dX7_same_11 mt_X7_lengthOf in_X7_lengthOf se_X7_lengthOf lk_X7_42 (c_X7_lengthOf ew6) eta4 (by decide) rfl rfl (by decide) (Nat.le_of_ble_eq_true rfl) (by rw [eoa4]; rfl) ?_
  rcases jw_if hq with ⟨c7, hq⟩ | ⟨c7, hq⟩
  · refine jw_icmp_eq_t (tgt := 19) dX7_same_14 (by decide) c7 ?_
    refine jw_iconst dX7_same_19 (v := (0 : Int32)) (by decide) ?_
    refine jw_istore (L' := [some (.ref x0), some (.int x1), some (va_rf x2), some (.int x3), some (.int w3), some (.int (0 : Int32))]) dX7_same_20 (Nat.le_of_ble_eq_true rfl) rfl ?_
    exact l_X7_same_b22  jw_FU _ _ _ _ _ _ _ _ _ hq
  · refine jw_icmp_eq_f (tgt := 19) dX7_same_14 (by decide) c7 ?_
    refine jw_iconst dX7_same_17 (v := (0 : Int32)) (by decide) ?_
    cases hq
    exact jw_iret (ty := .boolean) dX7_same_18 rfl rfl

theorem c_X7_same {h : jw_H} {x0 : Nat} {x1 : Int32} {x2 : Option Nat} {x3 : Int32} {r : Int32} {h' : jw_H} (hq : f_X7_same h x0 x1 x2 x3 = some (r, h')) : jw_Con (Cond.code yX7_same cX7_same 6 (some .boolean)) yX7_same 1 [.ref x0, .int x1, va_rf x2, .int x3] h (.inl (some (.int r))) h' :=
  jw_con false (plainFor_of_name (by decide +kernel)) (fun z => nomatch z) (by simp [jw_ent, jw_sl0_nil, jw_sl0_int, jw_sl0_long, jw_sl0_ref, jw_sl0_rf, jw_sl0_scr, List.replicate]) (by simp [jw_sl0_nil, jw_sl0_int, jw_sl0_long, jw_sl0_ref, jw_sl0_rf, jw_sl0_scr]) (l_X7_same hq)

/-! J9_min_7cf53 -/
abbrev uJ9_min_7cf53 : jw_U := (yJ9_min_7cf53.cls, cJ9_min_7cf53, 2, false, (some .int))

noncomputable def g_J9_min_7cf53_b10 (h : jw_H) (t0 : Int32) : Option (Int32 × jw_H) :=
 some (t0, h)

noncomputable def f_J9_min_7cf53 (h : jw_H) (x0 : Int32) (x1 : Int32) : Option (Int32 × jw_H) :=
 if x1 < x0 then (g_J9_min_7cf53_b10  h x1)
 else (g_J9_min_7cf53_b10  h x0)

set_option maxRecDepth 100000 in
set_option maxHeartbeats 4000000 in
theorem l_J9_min_7cf53_b10 {hi : jw_H} {h : jw_H} {t0 : Int32} {r : Int32} {h' : jw_H} (hq : g_J9_min_7cf53_b10  h t0 = some (r, h')) : jw_E 0 uJ9_min_7cf53 hi 10 [none, none] [.int t0] h (.inl (some (.int r))) h' := by
  unfold g_J9_min_7cf53_b10 at hq
  cases hq
  exact jw_iret (ty := .int) dJ9_min_7cf53_10 rfl rfl

set_option maxRecDepth 100000 in
set_option maxHeartbeats 4000000 in
theorem l_J9_min_7cf53 {hi : jw_H} {h : jw_H} {x0 : Int32} {x1 : Int32} {r : Int32} {h' : jw_H} (hq : f_J9_min_7cf53  h x0 x1 = some (r, h')) : jw_E 0 uJ9_min_7cf53 hi 0 [some (.int x0), some (.int x1)] [] h (.inl (some (.int r))) h' := by
  unfold f_J9_min_7cf53 at hq
  refine jw_iload_n dJ9_min_7cf53_0 rfl ?_
  refine jw_iload_n dJ9_min_7cf53_1 rfl ?_
  rcases jw_if hq with ⟨c1, hq⟩ | ⟨c1, hq⟩
  · refine jw_icmp_gt_t (tgt := 9) dJ9_min_7cf53_2 (by decide) c1 ?_
    refine jw_iload_n dJ9_min_7cf53_9 rfl ?_
    refine jw_forget [false, false] (L' := [none, none]) rfl ?_
    exact l_J9_min_7cf53_b10  hq
  · refine jw_icmp_gt_f (tgt := 9) dJ9_min_7cf53_2 (by decide) c1 ?_
    refine jw_iload_n dJ9_min_7cf53_5 rfl ?_
    refine jw_goto (tgt := 10) dJ9_min_7cf53_6 (by decide) ?_
    refine jw_forget [false, false] (L' := [none, none]) rfl ?_
    exact l_J9_min_7cf53_b10  hq

theorem c_J9_min_7cf53 {h : jw_H} {x0 : Int32} {x1 : Int32} {r : Int32} {h' : jw_H} (hq : f_J9_min_7cf53 h x0 x1 = some (r, h')) : jw_Con (Cond.code yJ9_min_7cf53 cJ9_min_7cf53 2 (some .int)) yJ9_min_7cf53 0 [.int x0, .int x1] h (.inl (some (.int r))) h' :=
  jw_con false (by decide +kernel) (fun z => nomatch z) (by simp [jw_ent, jw_sl0_nil, jw_sl0_int, jw_sl0_long, jw_sl0_ref, jw_sl0_rf, jw_sl0_scr, List.replicate]) (by simp [jw_sl0_nil, jw_sl0_int, jw_sl0_long, jw_sl0_ref, jw_sl0_rf, jw_sl0_scr]) (l_J9_min_7cf53 hq)

/-! X7_copy -/
abbrev uX7_copy : jw_U := (yX7_copy.cls, cX7_copy, 3, false, none)

noncomputable def f_X7_copy (h : jw_H) (x0 : Nat) (x1 : Option Nat) : Option (Unit × jw_H) :=
 (jw_gI h 7 x1 2).bind fun v1 =>
 (jw_gR h 7 (some x0) 0).bind fun v2 =>
 (jw_ln h v2).bind fun v3 =>
 (jw_gR h 7 x1 0).bind fun v4 =>
 (jw_ln h v4).bind fun v5 =>
 jw_b2 (f_J9_min_7cf53 h v3 v5) fun w7 h6 =>
 jw_b2 (f_J9_min_7cf53 h6 v1 w7) fun w9 h8 =>
 if 0 ≤ w9 then ((jw_gR h8 7 x1 0).bind fun v11 =>
 (jw_gR h8 7 (some x0) 0).bind fun v12 =>
 (jw_cp h8 20 v11 (0 : Int32) v12 (0 : Int32) w9).bind fun h13 =>
 (jw_gR h13 7 x1 1).bind fun v14 =>
 (jw_gR h13 7 (some x0) 1).bind fun v15 =>
 (jw_cp h13 21 v14 (0 : Int32) v15 (0 : Int32) (w9 * (30 : Int32))).bind fun h16 =>
 (jw_pI h16 7 (some x0) 2 w9).bind fun h17 =>
 some ((), h17))
 else (some ((), h8))

set_option maxRecDepth 100000 in
set_option maxHeartbeats 4000000 in
theorem l_X7_copy {hi : jw_H} {h : jw_H} {x0 : Nat} {x1 : Option Nat} {r : Unit} {h' : jw_H} (hq : f_X7_copy  h x0 x1 = some (r, h')) : jw_E 1 uX7_copy hi 0 [some (.ref x0), some (va_rf x1), none] [] h (.inl none) h' := by
  unfold f_X7_copy at hq
  refine jw_aload_n dX7_copy_0 (o := x1) rfl ?_
  obtain ⟨v1, ev1, hq⟩ := Option.bind_eq_some_iff.mp hq
  refine jw_getI (o := x1) dX7_copy_1 ev1 fl_X7_25 rfl ?_
  refine jw_aload_n dX7_copy_4 (o := (some x0)) rfl ?_
  obtain ⟨v2, ev2, hq⟩ := Option.bind_eq_some_iff.mp hq
  refine jw_getR (o := (some x0)) dX7_copy_5 ev2 fl_X7_15 rfl ?_
  obtain ⟨v3, ev3, hq⟩ := Option.bind_eq_some_iff.mp hq
  refine jw_alen (o := v2) dX7_copy_8 ev3 ?_
  refine jw_aload_n dX7_copy_9 (o := x1) rfl ?_
  obtain ⟨v4, ev4, hq⟩ := Option.bind_eq_some_iff.mp hq
  refine jw_getR (o := x1) dX7_copy_10 ev4 fl_X7_15 rfl ?_
  obtain ⟨v5, ev5, hq⟩ := Option.bind_eq_some_iff.mp hq
  refine jw_alen (o := v4) dX7_copy_13 ev5 ?_
  obtain ⟨w7, h6, ew7, hq⟩ := jw_b2_spec hq
  refine jw_callS (As := [.int v3, .int v5]) (S := [.int v1]) (v := some (.int w7)) dX7_copy_14 mt_J9_min_7cf53 st_J9_min_7cf53 lk_X7_29 (c_J9_min_7cf53 ew7) rfl (by decide) (Nat.le_of_ble_eq_true rfl) rfl ?_
  obtain ⟨w9, h8, ew9, hq⟩ := jw_b2_spec hq
  refine jw_callS (As := [.int v1, .int w7]) (S := []) (v := some (.int w9)) dX7_copy_17 mt_J9_min_7cf53 st_J9_min_7cf53 lk_X7_29 (c_J9_min_7cf53 ew9) rfl (by decide) (Nat.le_of_ble_eq_true rfl) rfl ?_
  refine jw_istore_n (L' := [some (.ref x0), some (va_rf x1), some (.int w9)]) dX7_copy_20 (Nat.le_of_ble_eq_true rfl) ((jw_st1_of (j := 1) jw_long_rf).trans rfl) ?_
  refine jw_iload_n dX7_copy_21 rfl ?_
  rcases jw_if hq with ⟨c10, hq⟩ | ⟨c10, hq⟩
  · refine jw_if_ge_t (tgt := 26) dX7_copy_22 (by decide) c10 ?_
    refine jw_aload_n dX7_copy_26 (o := x1) rfl ?_
    obtain ⟨v11, ev11, hq⟩ := Option.bind_eq_some_iff.mp hq
    refine jw_getR (o := x1) dX7_copy_27 ev11 fl_X7_15 rfl ?_
    refine jw_iconst dX7_copy_30 (v := (0 : Int32)) (by decide) ?_
    refine jw_aload_n dX7_copy_31 (o := (some x0)) rfl ?_
    obtain ⟨v12, ev12, hq⟩ := Option.bind_eq_some_iff.mp hq
    refine jw_getR (o := (some x0)) dX7_copy_32 ev12 fl_X7_15 rfl ?_
    refine jw_iconst dX7_copy_35 (v := (0 : Int32)) (by decide) ?_
    refine jw_iload_n dX7_copy_36 rfl ?_
    obtain ⟨h13, eh13, hq⟩ := Option.bind_eq_some_iff.mp hq
    refine jw_acp (o1 := v11) (o2 := v12) (t := 20) dX7_copy_37 (by decide) al_X7_32 an_0 as_0 ai_0 (by decide) (Nat.le_of_ble_eq_true rfl) eh13 ?_
    refine jw_aload_n dX7_copy_40 (o := x1) rfl ?_
    obtain ⟨v14, ev14, hq⟩ := Option.bind_eq_some_iff.mp hq
    refine jw_getR (o := x1) dX7_copy_41 ev14 fl_X7_21 rfl ?_
    refine jw_iconst dX7_copy_44 (v := (0 : Int32)) (by decide) ?_
    refine jw_aload_n dX7_copy_45 (o := (some x0)) rfl ?_
    obtain ⟨v15, ev15, hq⟩ := Option.bind_eq_some_iff.mp hq
    refine jw_getR (o := (some x0)) dX7_copy_46 ev15 fl_X7_21 rfl ?_
    refine jw_iconst dX7_copy_49 (v := (0 : Int32)) (by decide) ?_
    refine jw_iload_n dX7_copy_50 rfl ?_
    refine jw_bipush dX7_copy_51 (v := (30 : Int32)) (by decide) ?_
    refine jw_imul dX7_copy_53 ?_
    obtain ⟨h16, eh16, hq⟩ := Option.bind_eq_some_iff.mp hq
    refine jw_acp (o1 := v14) (o2 := v15) (t := 21) dX7_copy_54 (by decide) al_X7_32 an_0 as_0 ai_0 (by decide) (Nat.le_of_ble_eq_true rfl) eh16 ?_
    refine jw_aload_n dX7_copy_57 (o := (some x0)) rfl ?_
    refine jw_iload_n dX7_copy_58 rfl ?_
    obtain ⟨h17, eh17, hq⟩ := Option.bind_eq_some_iff.mp hq
    refine jw_putI (o := (some x0)) dX7_copy_59 eh17 fl_X7_25 rfl rfl ?_
    cases hq
    exact jw_vret dX7_copy_62 rfl
  · refine jw_if_ge_f (tgt := 26) dX7_copy_22 (by decide) c10 ?_
    cases hq
    exact jw_vret dX7_copy_25 rfl

theorem c_X7_copy {h : jw_H} {x0 : Nat} {x1 : Option Nat} {r : Unit} {h' : jw_H} (hq : f_X7_copy h x0 x1 = some (r, h')) : jw_Con (Cond.code yX7_copy cX7_copy 3 none) yX7_copy 1 [.ref x0, va_rf x1] h (.inl none) h' :=
  jw_con false (plainFor_of_name (by decide +kernel)) (fun z => nomatch z) (by simp [jw_ent, jw_sl0_nil, jw_sl0_int, jw_sl0_long, jw_sl0_ref, jw_sl0_rf, jw_sl0_scr, List.replicate]) (by simp [jw_sl0_nil, jw_sl0_int, jw_sl0_long, jw_sl0_ref, jw_sl0_rf, jw_sl0_scr]) (l_X7_copy hq)

